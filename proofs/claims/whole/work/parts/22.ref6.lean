/-! the reference: run, by an invariant I that its steps keep -/
def nlT (t : mo_T) : Nat := (tF t 3).toNatClampNeg
def ngT (t : mo_T) : Nat := (tF t 2).toNatClampNeg
def nbT (t : mo_T) : Nat := (tF t 5).toNatClampNeg
def fpT (t : mo_T) (k : Nat) : Nat := (tA t 17 k).toNatClampNeg
def grT (t : mo_T) (k : Nat) : Nat := (tA t 13 k).toNatClampNeg
def m_n (t : mo_T) (en : Int32) : Int32 := if tF t 7 = 0 then 1 else if en - tF t 1 ≤ tF t 7 then en - tF t 1 else tF t 7
def m_step2 (t : mo_T) (en : Int32) : mo_T := m_pasN (if tF t 7 ≤ 0 then t else uF (uF (uF t 6 (tF t 6 + m_n t en)) 7 (tF t 7 - m_n t en)) 8 (if tF t 7 - m_n t en = 0 then -1 else tF t 8)) (m_n t en) 20
def m_step (t : mo_T) (en : Int32) : mo_T := if m_idN t (nlT t) = true then m_pasN t (en - tF t 1) 20 else m_step2 (if tF t 7 = 0 then m_begins t (fpT t) (grT t) (nlT t) (ngT t) (nbT t) else t) en
def m_runN (en : Int32) : Nat → mo_T → mo_T
  | 0, t => t
  | n + 1, t => if tF t 1 < en then m_runN en n (m_step t en) else t
def m_mu (en : Int32) (t : mo_T) : Nat := (en.toInt - (tF t 1).toInt).toNat
def m_rok (t : mo_T) (ti : Int32) : Bool := kw_wi ti 1 100000 && decide (tF t 1 ≤ 1000000000 - ti)
def m_rfin (t : mo_T) (ti : Int32) : mo_T := m_runN (tF t 1 + ti) (m_mu (tF t 1 + ti) t) t
def m_run (t : mo_T) (ti : Int32) : mo_T := if m_rok t ti = true then m_rfin t ti else t
/-- what the reference's loop needs of a state -/
def m_good (u : mo_T) : Prop := (tF u 2 = nI (ngT u) ∧ ngT u ≤ 4) ∧ (tF u 3 = nI (nlT u) ∧ nlT u ≤ 8) ∧ (∀ k, k < nlT u → ¬ tA u 19 k = 0 → tA u 17 k = nI (fpT u k) ∧ fpT u k < 1000) ∧ (∀ k, k < nlT u → tA u 13 k = nI (grT u k) ∧ grT u k < ngT u) ∧ (∀ k, k < nlT u → 0 < tA u 14 k) ∧ (∀ g, g < ngT u → 0 < tA u 9 g) ∧ tF u 5 = nI (nbT u) ∧ nbT u < 1000
theorem m_mu0 {en : Int32} {t : mo_T} (h : m_mu en t ≤ 0) : en ≤ tF t 1 := by
  rw [Int32.le_iff_toInt_le]
  unfold m_mu at h
  omega
set_option maxHeartbeats 1000000 in
set_option maxRecDepth 100000 in
/-- run -/
theorem c_X5_run (l : Launch) (G : kw_G) (nu : Nat → Option Nat) (x z : kw_St) (mo : Nat) (ma : Nat → Nat) (t : mo_T) (ti : Int32) (I : mo_T → Prop) (hm : mw nu z mo ma t x) (h0 : I t) (hI : ∀ u, I u → m_good u) (hst : ∀ u, I u → tF u 1 < (tF t 1 + ti) → I (m_step u (tF t 1 + ti)) ∧ m_mu (tF t 1 + ti) (m_step u (tF t 1 + ti)) < m_mu (tF t 1 + ti) u) : kw_M l G yX5_run wsX5_run { frames := 3, cells := 0, slots := 0, locals := 73 } 0 0 [.ref mo, .int (ti)] nu x (fun v nu' y => v = some (.int (if m_rok t ti = true then tF (m_rfin t ti) 5 - tF t 5 else -1)) ∧ nu' = nu ∧ mw nu z mo ma (m_run t ti) y) := by
  refine kw_M.ofW (cc := cX5_run) (maxL := 5) (ret := (some .int)) (by decide) rfl (Nat.le_of_ble_eq_true rfl) ?_
  intro p e s m args below meth c A ls S hr hlk hnm hK hZ hA hW hS hl
  have hl : lv_has ls 5 [(0, .ref mo), (1, .int (ti))] := hl
  have iX5 : ∀ w ∈ wsX50, w ∈ wsX5_run := by decide +kernel
  obtain ⟨QQ, hQQ⟩ : ∃ q, q = MQ below (kw_Qc G A (fun v nu' y => v = some (.int (if m_rok t ti = true then tF (m_rfin t ti) 5 - tF t 5 else -1)) ∧ nu' = nu ∧ mw nu z mo ma (m_run t ti) y)) args s 0 0 A := ⟨_, rfl⟩
  rw [← hQQ]
  refine lv_iload_n S.1 S.2.1 dX5_run_0 rfl (lv_at hl 1 rfl) ?_
  refine lv_iconst (v := 1) S.1 S.2.1 dX5_run_1 (by decide) ?_
  refine lv_ldc (v := 100000) S.1 S.2.1 S.2.2.2.1 (S.2.2.2.2 _ (by decide +kernel)) dX5_run_2 ?_
  refine kx_cS (As := [.int (ti), .int (1), .int (100000)]) (rest := []) (st1 := [.int (kw_b (kw_wi ti 1 100000 = true))]) S hK hZ hA hW hS (c_X5_in l G nu x ti 1 100000 ) (va_cwS 3 S.2.2.2.2 gX5_run_X5_in rfl rfl rfl (by decide +kernel) ⟨Nat.le_of_ble_eq_true rfl, Nat.le_of_ble_eq_true rfl⟩) rfl hl.1 rfl (Nat.le_of_ble_eq_true rfl) dX5_run_4 ⟨Nat.le_of_ble_eq_true rfl, Nat.le_of_ble_eq_true rfl⟩ rfl (fun H locs hW hS => ?_)
  refine kx_ifz_eq (tgt := 21) S dX5_run_7 (by decide) (fun c1 => ?_) (fun c1 => ?_)
  · skip
    refine lv_iconst (v := (-1)) S.1 S.2.1 dX5_run_21 (by decide) ?_
    rw [hQQ]
    refine kw_iret S hr hlk hW hS (by decide) (by decide) dX5_run_22 ?_
    refine ⟨?_, rfl, hm.to ?_⟩ <;> first | rfl | (simp [m_run, m_rok, c1, kw_b]; done) | (simp [m_run, m_rok, c1, kw_b, tF_uF, tF_uL, tF_uA, tF_uB, tL_uF, tL_uL, tL_uA, tL_uB, tA_uF, tA_uL, tA_uA, tA_uB, tB_uF, tB_uL, tB_uA, tB_uB]; done) | contradiction
  · skip
    refine lv_aload_n S.1 S.2.1 dX5_run_10 rfl (lv_at hl 0 rfl) ?_
    refine mx_gI S hK hm hW 1 iX5 rfl (by decide) (by decide +kernel) dX5_run_11 (v := tF t 1) rfl ?_
    refine lv_ldc (v := 1000000000) S.1 S.2.1 S.2.2.2.1 (S.2.2.2.2 _ (by decide +kernel)) dX5_run_14 ?_
    refine lv_iload_n S.1 S.2.1 dX5_run_16 rfl (lv_at hl 1 rfl) ?_
    refine lv_isub S.1 S.2.1 dX5_run_17 ?_
    refine lv_icmp_le (tgt := 23) S.1 S.2.1 dX5_run_18 (by decide) (fun c2 => ?_) (fun c2 => ?_)
    · skip
      refine lv_aload_n S.1 S.2.1 dX5_run_23 rfl (lv_at hl 0 rfl) ?_
      refine mx_gI S hK hm hW 5 iX5 rfl (by decide) (by decide +kernel) dX5_run_24 (v := tF t 5) rfl ?_
      refine lv_istore_n (lv' := [(2, .int (tF t 5)), (0, .ref mo), (1, .int (ti))]) S.1 S.2.1 dX5_run_27 rfl hl (by decide) rfl (fun ls hl => ?_)
      refine lv_aload_n S.1 S.2.1 dX5_run_28 rfl (lv_at hl 1 rfl) ?_
      refine mx_gI S hK hm hW 1 iX5 rfl (by decide) (by decide +kernel) dX5_run_29 (v := tF t 1) rfl ?_
      refine lv_iload_n S.1 S.2.1 dX5_run_32 rfl (lv_at hl 2 rfl) ?_
      refine lv_iadd S.1 S.2.1 dX5_run_33 ?_
      refine lv_istore_n (lv' := [(3, .int ((tF t 1) + (ti))), (2, .int (tF t 5)), (0, .ref mo), (1, .int (ti))]) S.1 S.2.1 dX5_run_34 rfl hl (by decide) rfl (fun ls hl => ?_)
      have loop : ∀ (dn : Nat) (tt : mo_T), (I tt) → (m_mu (tF t 1 + ti) tt ≤ dn) → (m_runN (tF t 1 + ti) dn tt = m_rfin t ti) → ∀ (x : kw_St) (H : Heap) (locs : List Loc) (ls : Array Slot), mw nu z mo ma (tt) x → kw_W G A nu x H → va_S A s.heap H locs → lv_has ls 5 [(0, .ref mo), (1, .int (ti)), (2, .int (tF t 5)), (3, .int ((tF t 1) + (ti)))] → W p l e { frames := 3, cells := 0, slots := 0, locals := 73 } s m args below meth c H locs 0 0 QQ (F0 m 35 ls []) := by
        intro dn
        induction dn with
        | zero =>
          intro tt hIt hmu hfin x H locs ls hm hW hS hl
          obtain ⟨⟨hng, hg4⟩, ⟨hnl, hn8⟩, hfp, hgr, hwe, hgw, hnb, hb9⟩ := hI tt hIt
          refine lv_aload_n S.1 S.2.1 dX5_run_35 rfl (lv_at hl 0 rfl) ?_
          refine mx_gI S hK hm hW 1 iX5 rfl (by decide) (by decide +kernel) dX5_run_36 (v := tF tt 1) rfl ?_
          refine lv_iload_n S.1 S.2.1 dX5_run_39 rfl (lv_at hl 3 rfl) ?_
          refine lv_icmp_ge (tgt := 170) S.1 S.2.1 dX5_run_40 (by decide) (fun c3 => ?_) (fun c3 => ?_)
          · skip
            refine lv_aload_n S.1 S.2.1 dX5_run_170 rfl (lv_at hl 0 rfl) ?_
            refine mx_gI S hK hm hW 5 iX5 rfl (by decide) (by decide +kernel) dX5_run_171 (v := tF tt 5) rfl ?_
            refine lv_iload_n S.1 S.2.1 dX5_run_174 rfl (lv_at hl 2 rfl) ?_
            refine lv_isub S.1 S.2.1 dX5_run_175 ?_
            rw [hQQ]
            refine kw_iret S hr hlk hW hS (by decide) (by decide) dX5_run_176 ?_
            have hz : tt = m_rfin t ti := by rw [← hfin]; first | rfl | (rw [m_runN, if_neg (Int32.not_lt.mpr (by assumption))])
            refine ⟨?_, rfl, hm.to ?_⟩ <;> rw [hz] <;> simp [m_run, m_rok, c1, c2, c3]
          · skip
            exact absurd (m_mu0 hmu) c3
        | succ dn ihloop =>
          intro tt hIt hmu hfin x H locs ls hm hW hS hl
          obtain ⟨⟨hng, hg4⟩, ⟨hnl, hn8⟩, hfp, hgr, hwe, hgw, hnb, hb9⟩ := hI tt hIt
          refine lv_aload_n S.1 S.2.1 dX5_run_35 rfl (lv_at hl 0 rfl) ?_
          refine mx_gI S hK hm hW 1 iX5 rfl (by decide) (by decide +kernel) dX5_run_36 (v := tF tt 1) rfl ?_
          refine lv_iload_n S.1 S.2.1 dX5_run_39 rfl (lv_at hl 3 rfl) ?_
          refine lv_icmp_ge (tgt := 170) S.1 S.2.1 dX5_run_40 (by decide) (fun c4 => ?_) (fun c4 => ?_)
          · skip
            refine lv_aload_n S.1 S.2.1 dX5_run_170 rfl (lv_at hl 0 rfl) ?_
            refine mx_gI S hK hm hW 5 iX5 rfl (by decide) (by decide +kernel) dX5_run_171 (v := tF tt 5) rfl ?_
            refine lv_iload_n S.1 S.2.1 dX5_run_174 rfl (lv_at hl 2 rfl) ?_
            refine lv_isub S.1 S.2.1 dX5_run_175 ?_
            rw [hQQ]
            refine kw_iret S hr hlk hW hS (by decide) (by decide) dX5_run_176 ?_
            have hz : tt = m_rfin t ti := by rw [← hfin]; first | rfl | (rw [m_runN, if_neg (Int32.not_lt.mpr (by assumption))])
            refine ⟨?_, rfl, hm.to ?_⟩ <;> rw [hz] <;> simp [m_run, m_rok, c1, c2, c4]
          · skip
            have hgo : ¬ (tF t 1 + ti) ≤ tF tt 1 := by assumption
            refine lv_aload_n S.1 S.2.1 dX5_run_43 rfl (lv_at hl 0 rfl) ?_
            refine mx_cV (As := []) (rest := []) (st1 := [.int (kw_b (m_idN tt (nlT tt) = true))]) S hK hZ hA hm hW hS (c_X5_isIdle l G nu x z mo ma tt (nlT tt) hm hnl hn8) (cwV 0 S.2.2.2.2 gX5_run_X5_isIdle rfl rfl rfl (by decide +kernel) ⟨Nat.le_of_ble_eq_true rfl, Nat.le_of_ble_eq_true rfl⟩) rfl hl.1 rfl (Nat.le_of_ble_eq_true rfl) dX5_run_44 ⟨Nat.le_of_ble_eq_true rfl, Nat.le_of_ble_eq_true rfl⟩ rfl (fun x H locs hm hW hS => ?_)
            refine kx_ifz_eq (tgt := 63) S dX5_run_47 (by decide) (fun c5 => ?_) (fun c5 => ?_)
            · skip
              refine lv_aload_n S.1 S.2.1 dX5_run_63 rfl (lv_at hl 0 rfl) ?_
              refine mx_gI S hK hm hW 7 iX5 rfl (by decide) (by decide +kernel) dX5_run_64 (v := tF tt 7) rfl ?_
              refine lv_if_ne (tgt := 74) S.1 S.2.1 dX5_run_67 (by decide) (fun c6 => ?_) (fun c6 => ?_)
              · skip
                refine lv_aload_n S.1 S.2.1 dX5_run_74 rfl (lv_at hl 0 rfl) ?_
                refine mx_gI S hK hm hW 7 iX5 rfl (by decide) (by decide +kernel) dX5_run_75 (v := tF tt 7) rfl ?_
                refine lv_if_ne (tgt := 85) S.1 S.2.1 dX5_run_78 (by decide) (fun c7 => ?_) (fun c7 => ?_)
                · skip
                  refine lv_aload_n S.1 S.2.1 dX5_run_85 rfl (lv_at hl 0 rfl) ?_
                  refine mx_gI S hK hm hW 7 iX5 rfl (by decide) (by decide +kernel) dX5_run_86 (v := tF tt 7) rfl ?_
                  refine lv_iload_n S.1 S.2.1 dX5_run_89 rfl (lv_at hl 3 rfl) ?_
                  refine lv_aload_n S.1 S.2.1 dX5_run_90 rfl (lv_at hl 0 rfl) ?_
                  refine mx_gI S hK hm hW 1 iX5 rfl (by decide) (by decide +kernel) dX5_run_91 (v := tF tt 1) rfl ?_
                  refine lv_isub S.1 S.2.1 dX5_run_94 ?_
                  refine lv_icmp_ge (tgt := 105) S.1 S.2.1 dX5_run_95 (by decide) (fun c8 => ?_) (fun c8 => ?_)
                  · skip
                    refine lv_iload_n S.1 S.2.1 dX5_run_105 rfl (lv_at hl 3 rfl) ?_
                    refine lv_aload_n S.1 S.2.1 dX5_run_106 rfl (lv_at hl 0 rfl) ?_
                    refine mx_gI S hK hm hW 1 iX5 rfl (by decide) (by decide +kernel) dX5_run_107 (v := tF tt 1) rfl ?_
                    refine lv_isub S.1 S.2.1 dX5_run_110 ?_
                    refine lv_istore (lv' := [(4, .int (((tF t 1) + (ti)) - (tF tt 1))), (0, .ref mo), (1, .int (ti)), (2, .int (tF t 5)), (3, .int ((tF t 1) + (ti)))]) S.1 S.2.1 dX5_run_111 hl (by decide) rfl (fun ls hl => ?_)
                    refine lv_aload_n S.1 S.2.1 dX5_run_113 rfl (lv_at hl 1 rfl) ?_
                    refine mx_gI S hK hm hW 7 iX5 rfl (by decide) (by decide +kernel) dX5_run_114 (v := tF tt 7) rfl ?_
                    refine lv_if_le (tgt := 161) S.1 S.2.1 dX5_run_117 (by decide) (fun c9 => ?_) (fun c9 => ?_)
                    · skip
                      refine lv_aload_n S.1 S.2.1 dX5_run_161 rfl (lv_at hl 1 rfl) ?_
                      refine lv_iload S.1 S.2.1 dX5_run_162 (lv_at hl 0 rfl) ?_
                      refine mx_cV (As := [.int (((tF t 1) + (ti)) - (tF tt 1))]) (rest := []) (st1 := []) S hK hZ hA hm hW hS (c_X5_passes l G nu x z mo ma tt (((tF t 1) + (ti)) - (tF tt 1)) hm ) (cwV 1 S.2.2.2.2 gX5_run_X5_passes rfl rfl rfl (by decide +kernel) ⟨Nat.le_of_ble_eq_true rfl, Nat.le_of_ble_eq_true rfl⟩) rfl hl.1 rfl (Nat.le_of_ble_eq_true rfl) dX5_run_164 ⟨Nat.le_of_ble_eq_true rfl, Nat.le_of_ble_eq_true rfl⟩ rfl (fun x H locs hm hW hS => ?_)
                      refine lv_goto (tgt := 35) S.1 S.2.1 dX5_run_167 (by decide) ?_
                      exact ihloop (m_step tt (tF t 1 + ti)) (hst tt hIt (Int32.not_le.mp hgo)).1 (by have h8 := (hst tt hIt (Int32.not_le.mp hgo)).2; omega) (by rw [← hfin, m_runN, if_pos (Int32.not_le.mp hgo)]) x _ _ ls (hm.to (by first | (simp [m_step, m_step2, m_n, c1, c2, c4, c5, c6, c7, c8, c9, tF_uF, tF_uL, tF_uA, tF_uB, tL_uF, tL_uL, tL_uA, tL_uB, tA_uF, tA_uL, tA_uA, tA_uB, tB_uF, tB_uL, tB_uA, tB_uB]; done) | (exfalso; have h9 := c9; simp [c1, c2, c4, c5, c6, c7, c8] at h9; done) | (exfalso; have h9 := c8; simp [c1, c2, c4, c5, c6, c7, c9] at h9; done) | (exfalso; have h9 := c7; simp [c1, c2, c4, c5, c6, c8, c9] at h9; done) | (exfalso; have h9 := c6; simp [c1, c2, c4, c5, c7, c8, c9] at h9; done) | (exfalso; have h9 := c5; simp [c1, c2, c4, c6, c7, c8, c9] at h9; done) | (exfalso; have h9 := c4; simp [c1, c2, c5, c6, c7, c8, c9] at h9; done) | (exfalso; have h9 := c2; simp [c1, c4, c5, c6, c7, c8, c9] at h9; done) | (exfalso; have h9 := c1; simp [c2, c4, c5, c6, c7, c8, c9] at h9; done))) hW hS (lv_sub hl [1, 2, 3, 4] rfl)
                    · skip
                      refine lv_aload_n S.1 S.2.1 dX5_run_120 rfl (lv_at hl 1 rfl) ?_
                      refine lv_dup S.1 S.2.1 dX5_run_121 rfl ?_
                      refine mx_gI S hK hm hW 6 iX5 rfl (by decide) (by decide +kernel) dX5_run_122 (v := tF tt 6) rfl ?_
                      refine lv_iload S.1 S.2.1 dX5_run_125 (lv_at hl 0 rfl) ?_
                      refine lv_iadd S.1 S.2.1 dX5_run_127 ?_
                      refine mx_pI S hK hm hW hS 6 iX5 rfl (by decide) (by decide +kernel) rfl rfl dX5_run_128 (fun x H locs hm hW hS => ?_)
                      refine lv_aload_n S.1 S.2.1 dX5_run_131 rfl (lv_at hl 1 rfl) ?_
                      refine lv_dup S.1 S.2.1 dX5_run_132 rfl ?_
                      refine mx_gI S hK hm hW 7 iX5 rfl (by decide) (by decide +kernel) dX5_run_133 (v := tF tt 7) (by simp [tF_uF, tF_uL, tF_uA, tF_uB, tL_uF, tL_uL, tL_uA, tL_uB, tA_uF, tA_uL, tA_uA, tA_uB, tB_uF, tB_uL, tB_uA, tB_uB]) ?_
                      refine lv_iload S.1 S.2.1 dX5_run_136 (lv_at hl 0 rfl) ?_
                      refine lv_isub S.1 S.2.1 dX5_run_138 ?_
                      refine mx_pI S hK hm hW hS 7 iX5 rfl (by decide) (by decide +kernel) rfl rfl dX5_run_139 (fun x H locs hm hW hS => ?_)
                      refine lv_aload_n S.1 S.2.1 dX5_run_142 rfl (lv_at hl 1 rfl) ?_
                      refine lv_aload_n S.1 S.2.1 dX5_run_143 rfl (lv_at hl 1 rfl) ?_
                      refine mx_gI S hK hm hW 7 iX5 rfl (by decide) (by decide +kernel) dX5_run_144 (v := (tF tt 7) - (((tF t 1) + (ti)) - (tF tt 1))) (by simp [tF_uF, tF_uL, tF_uA, tF_uB, tL_uF, tL_uL, tL_uA, tL_uB, tA_uF, tA_uL, tA_uA, tA_uB, tB_uF, tB_uL, tB_uA, tB_uB]) ?_
                      refine lv_if_ne (tgt := 154) S.1 S.2.1 dX5_run_147 (by decide) (fun c10 => ?_) (fun c10 => ?_)
                      · skip
                        refine lv_aload_n S.1 S.2.1 dX5_run_154 rfl (lv_at hl 1 rfl) ?_
                        refine mx_gI S hK hm hW 8 iX5 rfl (by decide) (by decide +kernel) dX5_run_155 (v := tF tt 8) (by simp [tF_uF, tF_uL, tF_uA, tF_uB, tL_uF, tL_uL, tL_uA, tL_uB, tA_uF, tA_uL, tA_uA, tA_uB, tB_uF, tB_uL, tB_uA, tB_uB]) ?_
                        refine mx_pI S hK hm hW hS 8 iX5 rfl (by decide) (by decide +kernel) rfl rfl dX5_run_158 (fun x H locs hm hW hS => ?_)
                        refine lv_aload_n S.1 S.2.1 dX5_run_161 rfl (lv_at hl 1 rfl) ?_
                        refine lv_iload S.1 S.2.1 dX5_run_162 (lv_at hl 0 rfl) ?_
                        refine mx_cV (As := [.int (((tF t 1) + (ti)) - (tF tt 1))]) (rest := []) (st1 := []) S hK hZ hA hm hW hS (c_X5_passes l G nu x z mo ma (uF (uF (uF tt 6 ((tF tt 6) + (((tF t 1) + (ti)) - (tF tt 1)))) 7 ((tF tt 7) - (((tF t 1) + (ti)) - (tF tt 1)))) 8 (tF tt 8)) (((tF t 1) + (ti)) - (tF tt 1)) hm ) (cwV 1 S.2.2.2.2 gX5_run_X5_passes rfl rfl rfl (by decide +kernel) ⟨Nat.le_of_ble_eq_true rfl, Nat.le_of_ble_eq_true rfl⟩) rfl hl.1 rfl (Nat.le_of_ble_eq_true rfl) dX5_run_164 ⟨Nat.le_of_ble_eq_true rfl, Nat.le_of_ble_eq_true rfl⟩ rfl (fun x H locs hm hW hS => ?_)
                        refine lv_goto (tgt := 35) S.1 S.2.1 dX5_run_167 (by decide) ?_
                        exact ihloop (m_step tt (tF t 1 + ti)) (hst tt hIt (Int32.not_le.mp hgo)).1 (by have h8 := (hst tt hIt (Int32.not_le.mp hgo)).2; omega) (by rw [← hfin, m_runN, if_pos (Int32.not_le.mp hgo)]) x _ _ ls (hm.to (by first | (simp [m_step, m_step2, m_n, c1, c2, c4, c5, c6, c7, c8, c9, c10, tF_uF, tF_uL, tF_uA, tF_uB, tL_uF, tL_uL, tL_uA, tL_uB, tA_uF, tA_uL, tA_uA, tA_uB, tB_uF, tB_uL, tB_uA, tB_uB]; done) | (exfalso; have h9 := c10; simp [c1, c2, c4, c5, c6, c7, c8, c9] at h9; done) | (exfalso; have h9 := c9; simp [c1, c2, c4, c5, c6, c7, c8, c10] at h9; done) | (exfalso; have h9 := c8; simp [c1, c2, c4, c5, c6, c7, c9, c10] at h9; done) | (exfalso; have h9 := c7; simp [c1, c2, c4, c5, c6, c8, c9, c10] at h9; done) | (exfalso; have h9 := c6; simp [c1, c2, c4, c5, c7, c8, c9, c10] at h9; done) | (exfalso; have h9 := c5; simp [c1, c2, c4, c6, c7, c8, c9, c10] at h9; done) | (exfalso; have h9 := c4; simp [c1, c2, c5, c6, c7, c8, c9, c10] at h9; done) | (exfalso; have h9 := c2; simp [c1, c4, c5, c6, c7, c8, c9, c10] at h9; done) | (exfalso; have h9 := c1; simp [c2, c4, c5, c6, c7, c8, c9, c10] at h9; done))) hW hS (lv_sub hl [1, 2, 3, 4] rfl)
                      · skip
                        refine lv_iconst (v := (-1)) S.1 S.2.1 dX5_run_150 (by decide) ?_
                        refine lv_goto (tgt := 158) S.1 S.2.1 dX5_run_151 (by decide) ?_
                        refine mx_pI S hK hm hW hS 8 iX5 rfl (by decide) (by decide +kernel) rfl rfl dX5_run_158 (fun x H locs hm hW hS => ?_)
                        refine lv_aload_n S.1 S.2.1 dX5_run_161 rfl (lv_at hl 1 rfl) ?_
                        refine lv_iload S.1 S.2.1 dX5_run_162 (lv_at hl 0 rfl) ?_
                        refine mx_cV (As := [.int (((tF t 1) + (ti)) - (tF tt 1))]) (rest := []) (st1 := []) S hK hZ hA hm hW hS (c_X5_passes l G nu x z mo ma (uF (uF (uF tt 6 ((tF tt 6) + (((tF t 1) + (ti)) - (tF tt 1)))) 7 ((tF tt 7) - (((tF t 1) + (ti)) - (tF tt 1)))) 8 (-1)) (((tF t 1) + (ti)) - (tF tt 1)) hm ) (cwV 1 S.2.2.2.2 gX5_run_X5_passes rfl rfl rfl (by decide +kernel) ⟨Nat.le_of_ble_eq_true rfl, Nat.le_of_ble_eq_true rfl⟩) rfl hl.1 rfl (Nat.le_of_ble_eq_true rfl) dX5_run_164 ⟨Nat.le_of_ble_eq_true rfl, Nat.le_of_ble_eq_true rfl⟩ rfl (fun x H locs hm hW hS => ?_)
                        refine lv_goto (tgt := 35) S.1 S.2.1 dX5_run_167 (by decide) ?_
                        exact ihloop (m_step tt (tF t 1 + ti)) (hst tt hIt (Int32.not_le.mp hgo)).1 (by have h8 := (hst tt hIt (Int32.not_le.mp hgo)).2; omega) (by rw [← hfin, m_runN, if_pos (Int32.not_le.mp hgo)]) x _ _ ls (hm.to (by first | (simp [m_step, m_step2, m_n, c1, c2, c4, c5, c6, c7, c8, c9, eq_true c10, tF_uF, tF_uL, tF_uA, tF_uB, tL_uF, tL_uL, tL_uA, tL_uB, tA_uF, tA_uL, tA_uA, tA_uB, tB_uF, tB_uL, tB_uA, tB_uB]; done) | (exfalso; have h9 := c10; simp [c1, c2, c4, c5, c6, c7, c8, c9] at h9; done) | (exfalso; have h9 := c9; simp [c1, c2, c4, c5, c6, c7, c8, c10] at h9; done) | (exfalso; have h9 := c8; simp [c1, c2, c4, c5, c6, c7, c9, c10] at h9; done) | (exfalso; have h9 := c7; simp [c1, c2, c4, c5, c6, c8, c9, c10] at h9; done) | (exfalso; have h9 := c6; simp [c1, c2, c4, c5, c7, c8, c9, c10] at h9; done) | (exfalso; have h9 := c5; simp [c1, c2, c4, c6, c7, c8, c9, c10] at h9; done) | (exfalso; have h9 := c4; simp [c1, c2, c5, c6, c7, c8, c9, c10] at h9; done) | (exfalso; have h9 := c2; simp [c1, c4, c5, c6, c7, c8, c9, c10] at h9; done) | (exfalso; have h9 := c1; simp [c2, c4, c5, c6, c7, c8, c9, c10] at h9; done))) hW hS (lv_sub hl [1, 2, 3, 4] rfl)
                  · skip
                    refine lv_aload_n S.1 S.2.1 dX5_run_98 rfl (lv_at hl 0 rfl) ?_
                    refine mx_gI S hK hm hW 7 iX5 rfl (by decide) (by decide +kernel) dX5_run_99 (v := tF tt 7) rfl ?_
                    refine lv_goto (tgt := 111) S.1 S.2.1 dX5_run_102 (by decide) ?_
                    refine lv_istore (lv' := [(4, .int (tF tt 7)), (0, .ref mo), (1, .int (ti)), (2, .int (tF t 5)), (3, .int ((tF t 1) + (ti)))]) S.1 S.2.1 dX5_run_111 hl (by decide) rfl (fun ls hl => ?_)
                    refine lv_aload_n S.1 S.2.1 dX5_run_113 rfl (lv_at hl 1 rfl) ?_
                    refine mx_gI S hK hm hW 7 iX5 rfl (by decide) (by decide +kernel) dX5_run_114 (v := tF tt 7) rfl ?_
                    refine lv_if_le (tgt := 161) S.1 S.2.1 dX5_run_117 (by decide) (fun c11 => ?_) (fun c11 => ?_)
                    · skip
                      refine lv_aload_n S.1 S.2.1 dX5_run_161 rfl (lv_at hl 1 rfl) ?_
                      refine lv_iload S.1 S.2.1 dX5_run_162 (lv_at hl 0 rfl) ?_
                      refine mx_cV (As := [.int (tF tt 7)]) (rest := []) (st1 := []) S hK hZ hA hm hW hS (c_X5_passes l G nu x z mo ma tt (tF tt 7) hm ) (cwV 1 S.2.2.2.2 gX5_run_X5_passes rfl rfl rfl (by decide +kernel) ⟨Nat.le_of_ble_eq_true rfl, Nat.le_of_ble_eq_true rfl⟩) rfl hl.1 rfl (Nat.le_of_ble_eq_true rfl) dX5_run_164 ⟨Nat.le_of_ble_eq_true rfl, Nat.le_of_ble_eq_true rfl⟩ rfl (fun x H locs hm hW hS => ?_)
                      refine lv_goto (tgt := 35) S.1 S.2.1 dX5_run_167 (by decide) ?_
                      exact ihloop (m_step tt (tF t 1 + ti)) (hst tt hIt (Int32.not_le.mp hgo)).1 (by have h8 := (hst tt hIt (Int32.not_le.mp hgo)).2; omega) (by rw [← hfin, m_runN, if_pos (Int32.not_le.mp hgo)]) x _ _ ls (hm.to (by first | (simp [m_step, m_step2, m_n, c1, c2, c4, c5, c6, c7, c8, c11, tF_uF, tF_uL, tF_uA, tF_uB, tL_uF, tL_uL, tL_uA, tL_uB, tA_uF, tA_uL, tA_uA, tA_uB, tB_uF, tB_uL, tB_uA, tB_uB]; done) | (exfalso; have h9 := c11; simp [c1, c2, c4, c5, c6, c7, c8] at h9; done) | (exfalso; have h9 := c8; simp [c1, c2, c4, c5, c6, c7, c11] at h9; done) | (exfalso; have h9 := c7; simp [c1, c2, c4, c5, c6, c8, c11] at h9; done) | (exfalso; have h9 := c6; simp [c1, c2, c4, c5, c7, c8, c11] at h9; done) | (exfalso; have h9 := c5; simp [c1, c2, c4, c6, c7, c8, c11] at h9; done) | (exfalso; have h9 := c4; simp [c1, c2, c5, c6, c7, c8, c11] at h9; done) | (exfalso; have h9 := c2; simp [c1, c4, c5, c6, c7, c8, c11] at h9; done) | (exfalso; have h9 := c1; simp [c2, c4, c5, c6, c7, c8, c11] at h9; done))) hW hS (lv_sub hl [1, 2, 3, 4] rfl)
                    · skip
                      refine lv_aload_n S.1 S.2.1 dX5_run_120 rfl (lv_at hl 1 rfl) ?_
                      refine lv_dup S.1 S.2.1 dX5_run_121 rfl ?_
                      refine mx_gI S hK hm hW 6 iX5 rfl (by decide) (by decide +kernel) dX5_run_122 (v := tF tt 6) rfl ?_
                      refine lv_iload S.1 S.2.1 dX5_run_125 (lv_at hl 0 rfl) ?_
                      refine lv_iadd S.1 S.2.1 dX5_run_127 ?_
                      refine mx_pI S hK hm hW hS 6 iX5 rfl (by decide) (by decide +kernel) rfl rfl dX5_run_128 (fun x H locs hm hW hS => ?_)
                      refine lv_aload_n S.1 S.2.1 dX5_run_131 rfl (lv_at hl 1 rfl) ?_
                      refine lv_dup S.1 S.2.1 dX5_run_132 rfl ?_
                      refine mx_gI S hK hm hW 7 iX5 rfl (by decide) (by decide +kernel) dX5_run_133 (v := tF tt 7) (by simp [tF_uF, tF_uL, tF_uA, tF_uB, tL_uF, tL_uL, tL_uA, tL_uB, tA_uF, tA_uL, tA_uA, tA_uB, tB_uF, tB_uL, tB_uA, tB_uB]) ?_
                      refine lv_iload S.1 S.2.1 dX5_run_136 (lv_at hl 0 rfl) ?_
                      refine lv_isub S.1 S.2.1 dX5_run_138 ?_
                      refine mx_pI S hK hm hW hS 7 iX5 rfl (by decide) (by decide +kernel) rfl rfl dX5_run_139 (fun x H locs hm hW hS => ?_)
                      refine lv_aload_n S.1 S.2.1 dX5_run_142 rfl (lv_at hl 1 rfl) ?_
                      refine lv_aload_n S.1 S.2.1 dX5_run_143 rfl (lv_at hl 1 rfl) ?_
                      refine mx_gI S hK hm hW 7 iX5 rfl (by decide) (by decide +kernel) dX5_run_144 (v := (tF tt 7) - (tF tt 7)) (by simp [tF_uF, tF_uL, tF_uA, tF_uB, tL_uF, tL_uL, tL_uA, tL_uB, tA_uF, tA_uL, tA_uA, tA_uB, tB_uF, tB_uL, tB_uA, tB_uB]) ?_
                      refine lv_if_ne (tgt := 154) S.1 S.2.1 dX5_run_147 (by decide) (fun c12 => ?_) (fun c12 => ?_)
                      · skip
                        refine lv_aload_n S.1 S.2.1 dX5_run_154 rfl (lv_at hl 1 rfl) ?_
                        refine mx_gI S hK hm hW 8 iX5 rfl (by decide) (by decide +kernel) dX5_run_155 (v := tF tt 8) (by simp [tF_uF, tF_uL, tF_uA, tF_uB, tL_uF, tL_uL, tL_uA, tL_uB, tA_uF, tA_uL, tA_uA, tA_uB, tB_uF, tB_uL, tB_uA, tB_uB]) ?_
                        refine mx_pI S hK hm hW hS 8 iX5 rfl (by decide) (by decide +kernel) rfl rfl dX5_run_158 (fun x H locs hm hW hS => ?_)
                        refine lv_aload_n S.1 S.2.1 dX5_run_161 rfl (lv_at hl 1 rfl) ?_
                        refine lv_iload S.1 S.2.1 dX5_run_162 (lv_at hl 0 rfl) ?_
                        refine mx_cV (As := [.int (tF tt 7)]) (rest := []) (st1 := []) S hK hZ hA hm hW hS (c_X5_passes l G nu x z mo ma (uF (uF (uF tt 6 ((tF tt 6) + (tF tt 7))) 7 ((tF tt 7) - (tF tt 7))) 8 (tF tt 8)) (tF tt 7) hm ) (cwV 1 S.2.2.2.2 gX5_run_X5_passes rfl rfl rfl (by decide +kernel) ⟨Nat.le_of_ble_eq_true rfl, Nat.le_of_ble_eq_true rfl⟩) rfl hl.1 rfl (Nat.le_of_ble_eq_true rfl) dX5_run_164 ⟨Nat.le_of_ble_eq_true rfl, Nat.le_of_ble_eq_true rfl⟩ rfl (fun x H locs hm hW hS => ?_)
                        refine lv_goto (tgt := 35) S.1 S.2.1 dX5_run_167 (by decide) ?_
                        exact ihloop (m_step tt (tF t 1 + ti)) (hst tt hIt (Int32.not_le.mp hgo)).1 (by have h8 := (hst tt hIt (Int32.not_le.mp hgo)).2; omega) (by rw [← hfin, m_runN, if_pos (Int32.not_le.mp hgo)]) x _ _ ls (hm.to (by first | (simp [m_step, m_step2, m_n, c1, c2, c4, c5, c6, c7, c8, c11, c12, tF_uF, tF_uL, tF_uA, tF_uB, tL_uF, tL_uL, tL_uA, tL_uB, tA_uF, tA_uL, tA_uA, tA_uB, tB_uF, tB_uL, tB_uA, tB_uB]; done) | (exfalso; have h9 := c12; simp [c1, c2, c4, c5, c6, c7, c8, c11] at h9; done) | (exfalso; have h9 := c11; simp [c1, c2, c4, c5, c6, c7, c8, c12] at h9; done) | (exfalso; have h9 := c8; simp [c1, c2, c4, c5, c6, c7, c11, c12] at h9; done) | (exfalso; have h9 := c7; simp [c1, c2, c4, c5, c6, c8, c11, c12] at h9; done) | (exfalso; have h9 := c6; simp [c1, c2, c4, c5, c7, c8, c11, c12] at h9; done) | (exfalso; have h9 := c5; simp [c1, c2, c4, c6, c7, c8, c11, c12] at h9; done) | (exfalso; have h9 := c4; simp [c1, c2, c5, c6, c7, c8, c11, c12] at h9; done) | (exfalso; have h9 := c2; simp [c1, c4, c5, c6, c7, c8, c11, c12] at h9; done) | (exfalso; have h9 := c1; simp [c2, c4, c5, c6, c7, c8, c11, c12] at h9; done))) hW hS (lv_sub hl [1, 2, 3, 4] rfl)
                      · skip
                        refine lv_iconst (v := (-1)) S.1 S.2.1 dX5_run_150 (by decide) ?_
                        refine lv_goto (tgt := 158) S.1 S.2.1 dX5_run_151 (by decide) ?_
                        refine mx_pI S hK hm hW hS 8 iX5 rfl (by decide) (by decide +kernel) rfl rfl dX5_run_158 (fun x H locs hm hW hS => ?_)
                        refine lv_aload_n S.1 S.2.1 dX5_run_161 rfl (lv_at hl 1 rfl) ?_
                        refine lv_iload S.1 S.2.1 dX5_run_162 (lv_at hl 0 rfl) ?_
                        refine mx_cV (As := [.int (tF tt 7)]) (rest := []) (st1 := []) S hK hZ hA hm hW hS (c_X5_passes l G nu x z mo ma (uF (uF (uF tt 6 ((tF tt 6) + (tF tt 7))) 7 ((tF tt 7) - (tF tt 7))) 8 (-1)) (tF tt 7) hm ) (cwV 1 S.2.2.2.2 gX5_run_X5_passes rfl rfl rfl (by decide +kernel) ⟨Nat.le_of_ble_eq_true rfl, Nat.le_of_ble_eq_true rfl⟩) rfl hl.1 rfl (Nat.le_of_ble_eq_true rfl) dX5_run_164 ⟨Nat.le_of_ble_eq_true rfl, Nat.le_of_ble_eq_true rfl⟩ rfl (fun x H locs hm hW hS => ?_)
                        refine lv_goto (tgt := 35) S.1 S.2.1 dX5_run_167 (by decide) ?_
                        exact ihloop (m_step tt (tF t 1 + ti)) (hst tt hIt (Int32.not_le.mp hgo)).1 (by have h8 := (hst tt hIt (Int32.not_le.mp hgo)).2; omega) (by rw [← hfin, m_runN, if_pos (Int32.not_le.mp hgo)]) x _ _ ls (hm.to (by first | (simp [m_step, m_step2, m_n, c1, c2, c4, c5, c6, c7, c8, c11, eq_true c12, tF_uF, tF_uL, tF_uA, tF_uB, tL_uF, tL_uL, tL_uA, tL_uB, tA_uF, tA_uL, tA_uA, tA_uB, tB_uF, tB_uL, tB_uA, tB_uB]; done) | (exfalso; have h9 := c12; simp [c1, c2, c4, c5, c6, c7, c8, c11] at h9; done) | (exfalso; have h9 := c11; simp [c1, c2, c4, c5, c6, c7, c8, c12] at h9; done) | (exfalso; have h9 := c8; simp [c1, c2, c4, c5, c6, c7, c11, c12] at h9; done) | (exfalso; have h9 := c7; simp [c1, c2, c4, c5, c6, c8, c11, c12] at h9; done) | (exfalso; have h9 := c6; simp [c1, c2, c4, c5, c7, c8, c11, c12] at h9; done) | (exfalso; have h9 := c5; simp [c1, c2, c4, c6, c7, c8, c11, c12] at h9; done) | (exfalso; have h9 := c4; simp [c1, c2, c5, c6, c7, c8, c11, c12] at h9; done) | (exfalso; have h9 := c2; simp [c1, c4, c5, c6, c7, c8, c11, c12] at h9; done) | (exfalso; have h9 := c1; simp [c2, c4, c5, c6, c7, c8, c11, c12] at h9; done))) hW hS (lv_sub hl [1, 2, 3, 4] rfl)
                · skip
                  refine lv_iconst (v := 1) S.1 S.2.1 dX5_run_81 (by decide) ?_
                  refine lv_goto (tgt := 111) S.1 S.2.1 dX5_run_82 (by decide) ?_
                  refine lv_istore (lv' := [(4, .int (1)), (0, .ref mo), (1, .int (ti)), (2, .int (tF t 5)), (3, .int ((tF t 1) + (ti)))]) S.1 S.2.1 dX5_run_111 hl (by decide) rfl (fun ls hl => ?_)
                  refine lv_aload_n S.1 S.2.1 dX5_run_113 rfl (lv_at hl 1 rfl) ?_
                  refine mx_gI S hK hm hW 7 iX5 rfl (by decide) (by decide +kernel) dX5_run_114 (v := tF tt 7) rfl ?_
                  refine lv_if_le (tgt := 161) S.1 S.2.1 dX5_run_117 (by decide) (fun c13 => ?_) (fun c13 => ?_)
                  · skip
                    refine lv_aload_n S.1 S.2.1 dX5_run_161 rfl (lv_at hl 1 rfl) ?_
                    refine lv_iload S.1 S.2.1 dX5_run_162 (lv_at hl 0 rfl) ?_
                    refine mx_cV (As := [.int (1)]) (rest := []) (st1 := []) S hK hZ hA hm hW hS (c_X5_passes l G nu x z mo ma tt 1 hm ) (cwV 1 S.2.2.2.2 gX5_run_X5_passes rfl rfl rfl (by decide +kernel) ⟨Nat.le_of_ble_eq_true rfl, Nat.le_of_ble_eq_true rfl⟩) rfl hl.1 rfl (Nat.le_of_ble_eq_true rfl) dX5_run_164 ⟨Nat.le_of_ble_eq_true rfl, Nat.le_of_ble_eq_true rfl⟩ rfl (fun x H locs hm hW hS => ?_)
                    refine lv_goto (tgt := 35) S.1 S.2.1 dX5_run_167 (by decide) ?_
                    exact ihloop (m_step tt (tF t 1 + ti)) (hst tt hIt (Int32.not_le.mp hgo)).1 (by have h8 := (hst tt hIt (Int32.not_le.mp hgo)).2; omega) (by rw [← hfin, m_runN, if_pos (Int32.not_le.mp hgo)]) x _ _ ls (hm.to (by first | (simp [m_step, m_step2, m_n, c1, c2, c4, c5, c6, eq_true c7, c13, tF_uF, tF_uL, tF_uA, tF_uB, tL_uF, tL_uL, tL_uA, tL_uB, tA_uF, tA_uL, tA_uA, tA_uB, tB_uF, tB_uL, tB_uA, tB_uB]; done) | (exfalso; have h9 := c13; simp [c1, c2, c4, c5, c6, c7] at h9; done) | (exfalso; have h9 := c7; simp [c1, c2, c4, c5, c6, c13] at h9; done) | (exfalso; have h9 := c6; simp [c1, c2, c4, c5, c7, c13] at h9; done) | (exfalso; have h9 := c5; simp [c1, c2, c4, c6, c7, c13] at h9; done) | (exfalso; have h9 := c4; simp [c1, c2, c5, c6, c7, c13] at h9; done) | (exfalso; have h9 := c2; simp [c1, c4, c5, c6, c7, c13] at h9; done) | (exfalso; have h9 := c1; simp [c2, c4, c5, c6, c7, c13] at h9; done))) hW hS (lv_sub hl [1, 2, 3, 4] rfl)
                  · skip
                    refine lv_aload_n S.1 S.2.1 dX5_run_120 rfl (lv_at hl 1 rfl) ?_
                    refine lv_dup S.1 S.2.1 dX5_run_121 rfl ?_
                    refine mx_gI S hK hm hW 6 iX5 rfl (by decide) (by decide +kernel) dX5_run_122 (v := tF tt 6) rfl ?_
                    refine lv_iload S.1 S.2.1 dX5_run_125 (lv_at hl 0 rfl) ?_
                    refine lv_iadd S.1 S.2.1 dX5_run_127 ?_
                    refine mx_pI S hK hm hW hS 6 iX5 rfl (by decide) (by decide +kernel) rfl rfl dX5_run_128 (fun x H locs hm hW hS => ?_)
                    refine lv_aload_n S.1 S.2.1 dX5_run_131 rfl (lv_at hl 1 rfl) ?_
                    refine lv_dup S.1 S.2.1 dX5_run_132 rfl ?_
                    refine mx_gI S hK hm hW 7 iX5 rfl (by decide) (by decide +kernel) dX5_run_133 (v := tF tt 7) (by simp [tF_uF, tF_uL, tF_uA, tF_uB, tL_uF, tL_uL, tL_uA, tL_uB, tA_uF, tA_uL, tA_uA, tA_uB, tB_uF, tB_uL, tB_uA, tB_uB]) ?_
                    refine lv_iload S.1 S.2.1 dX5_run_136 (lv_at hl 0 rfl) ?_
                    refine lv_isub S.1 S.2.1 dX5_run_138 ?_
                    refine mx_pI S hK hm hW hS 7 iX5 rfl (by decide) (by decide +kernel) rfl rfl dX5_run_139 (fun x H locs hm hW hS => ?_)
                    refine lv_aload_n S.1 S.2.1 dX5_run_142 rfl (lv_at hl 1 rfl) ?_
                    refine lv_aload_n S.1 S.2.1 dX5_run_143 rfl (lv_at hl 1 rfl) ?_
                    refine mx_gI S hK hm hW 7 iX5 rfl (by decide) (by decide +kernel) dX5_run_144 (v := (tF tt 7) - (1)) (by simp [tF_uF, tF_uL, tF_uA, tF_uB, tL_uF, tL_uL, tL_uA, tL_uB, tA_uF, tA_uL, tA_uA, tA_uB, tB_uF, tB_uL, tB_uA, tB_uB]) ?_
                    refine lv_if_ne (tgt := 154) S.1 S.2.1 dX5_run_147 (by decide) (fun c14 => ?_) (fun c14 => ?_)
                    · skip
                      refine lv_aload_n S.1 S.2.1 dX5_run_154 rfl (lv_at hl 1 rfl) ?_
                      refine mx_gI S hK hm hW 8 iX5 rfl (by decide) (by decide +kernel) dX5_run_155 (v := tF tt 8) (by simp [tF_uF, tF_uL, tF_uA, tF_uB, tL_uF, tL_uL, tL_uA, tL_uB, tA_uF, tA_uL, tA_uA, tA_uB, tB_uF, tB_uL, tB_uA, tB_uB]) ?_
                      refine mx_pI S hK hm hW hS 8 iX5 rfl (by decide) (by decide +kernel) rfl rfl dX5_run_158 (fun x H locs hm hW hS => ?_)
                      refine lv_aload_n S.1 S.2.1 dX5_run_161 rfl (lv_at hl 1 rfl) ?_
                      refine lv_iload S.1 S.2.1 dX5_run_162 (lv_at hl 0 rfl) ?_
                      refine mx_cV (As := [.int (1)]) (rest := []) (st1 := []) S hK hZ hA hm hW hS (c_X5_passes l G nu x z mo ma (uF (uF (uF tt 6 ((tF tt 6) + (1))) 7 ((tF tt 7) - (1))) 8 (tF tt 8)) 1 hm ) (cwV 1 S.2.2.2.2 gX5_run_X5_passes rfl rfl rfl (by decide +kernel) ⟨Nat.le_of_ble_eq_true rfl, Nat.le_of_ble_eq_true rfl⟩) rfl hl.1 rfl (Nat.le_of_ble_eq_true rfl) dX5_run_164 ⟨Nat.le_of_ble_eq_true rfl, Nat.le_of_ble_eq_true rfl⟩ rfl (fun x H locs hm hW hS => ?_)
                      refine lv_goto (tgt := 35) S.1 S.2.1 dX5_run_167 (by decide) ?_
                      exact ihloop (m_step tt (tF t 1 + ti)) (hst tt hIt (Int32.not_le.mp hgo)).1 (by have h8 := (hst tt hIt (Int32.not_le.mp hgo)).2; omega) (by rw [← hfin, m_runN, if_pos (Int32.not_le.mp hgo)]) x _ _ ls (hm.to (by first | (simp [m_step, m_step2, m_n, c1, c2, c4, c5, c6, eq_true c7, c13, c14, tF_uF, tF_uL, tF_uA, tF_uB, tL_uF, tL_uL, tL_uA, tL_uB, tA_uF, tA_uL, tA_uA, tA_uB, tB_uF, tB_uL, tB_uA, tB_uB]; done) | (exfalso; have h9 := c14; simp [c1, c2, c4, c5, c6, c7, c13] at h9; done) | (exfalso; have h9 := c13; simp [c1, c2, c4, c5, c6, c7, c14] at h9; done) | (exfalso; have h9 := c7; simp [c1, c2, c4, c5, c6, c13, c14] at h9; done) | (exfalso; have h9 := c6; simp [c1, c2, c4, c5, c7, c13, c14] at h9; done) | (exfalso; have h9 := c5; simp [c1, c2, c4, c6, c7, c13, c14] at h9; done) | (exfalso; have h9 := c4; simp [c1, c2, c5, c6, c7, c13, c14] at h9; done) | (exfalso; have h9 := c2; simp [c1, c4, c5, c6, c7, c13, c14] at h9; done) | (exfalso; have h9 := c1; simp [c2, c4, c5, c6, c7, c13, c14] at h9; done))) hW hS (lv_sub hl [1, 2, 3, 4] rfl)
                    · skip
                      refine lv_iconst (v := (-1)) S.1 S.2.1 dX5_run_150 (by decide) ?_
                      refine lv_goto (tgt := 158) S.1 S.2.1 dX5_run_151 (by decide) ?_
                      refine mx_pI S hK hm hW hS 8 iX5 rfl (by decide) (by decide +kernel) rfl rfl dX5_run_158 (fun x H locs hm hW hS => ?_)
                      refine lv_aload_n S.1 S.2.1 dX5_run_161 rfl (lv_at hl 1 rfl) ?_
                      refine lv_iload S.1 S.2.1 dX5_run_162 (lv_at hl 0 rfl) ?_
                      refine mx_cV (As := [.int (1)]) (rest := []) (st1 := []) S hK hZ hA hm hW hS (c_X5_passes l G nu x z mo ma (uF (uF (uF tt 6 ((tF tt 6) + (1))) 7 ((tF tt 7) - (1))) 8 (-1)) 1 hm ) (cwV 1 S.2.2.2.2 gX5_run_X5_passes rfl rfl rfl (by decide +kernel) ⟨Nat.le_of_ble_eq_true rfl, Nat.le_of_ble_eq_true rfl⟩) rfl hl.1 rfl (Nat.le_of_ble_eq_true rfl) dX5_run_164 ⟨Nat.le_of_ble_eq_true rfl, Nat.le_of_ble_eq_true rfl⟩ rfl (fun x H locs hm hW hS => ?_)
                      refine lv_goto (tgt := 35) S.1 S.2.1 dX5_run_167 (by decide) ?_
                      exact ihloop (m_step tt (tF t 1 + ti)) (hst tt hIt (Int32.not_le.mp hgo)).1 (by have h8 := (hst tt hIt (Int32.not_le.mp hgo)).2; omega) (by rw [← hfin, m_runN, if_pos (Int32.not_le.mp hgo)]) x _ _ ls (hm.to (by first | (simp [m_step, m_step2, m_n, c1, c2, c4, c5, c6, eq_true c7, c13, eq_true c14, tF_uF, tF_uL, tF_uA, tF_uB, tL_uF, tL_uL, tL_uA, tL_uB, tA_uF, tA_uL, tA_uA, tA_uB, tB_uF, tB_uL, tB_uA, tB_uB]; done) | (exfalso; have h9 := c14; simp [c1, c2, c4, c5, c6, c7, c13] at h9; done) | (exfalso; have h9 := c13; simp [c1, c2, c4, c5, c6, c7, c14] at h9; done) | (exfalso; have h9 := c7; simp [c1, c2, c4, c5, c6, c13, c14] at h9; done) | (exfalso; have h9 := c6; simp [c1, c2, c4, c5, c7, c13, c14] at h9; done) | (exfalso; have h9 := c5; simp [c1, c2, c4, c6, c7, c13, c14] at h9; done) | (exfalso; have h9 := c4; simp [c1, c2, c5, c6, c7, c13, c14] at h9; done) | (exfalso; have h9 := c2; simp [c1, c4, c5, c6, c7, c13, c14] at h9; done) | (exfalso; have h9 := c1; simp [c2, c4, c5, c6, c7, c13, c14] at h9; done))) hW hS (lv_sub hl [1, 2, 3, 4] rfl)
              · skip
                refine lv_aload_n S.1 S.2.1 dX5_run_70 rfl (lv_at hl 0 rfl) ?_
                refine mx_cV (As := []) (rest := []) (st1 := []) S hK hZ hA hm hW hS (c_X5_begins l G nu x z mo ma tt (fpT tt) (grT tt) (nlT tt) (ngT tt) (nbT tt) hm hng hg4 hnl hn8 hfp hgr hwe hgw hnb hb9) (cwV 0 S.2.2.2.2 gX5_run_X5_begins rfl rfl rfl (by decide +kernel) ⟨Nat.le_of_ble_eq_true rfl, Nat.le_of_ble_eq_true rfl⟩) rfl hl.1 rfl (Nat.le_of_ble_eq_true rfl) dX5_run_71 ⟨Nat.le_of_ble_eq_true rfl, Nat.le_of_ble_eq_true rfl⟩ rfl (fun x H locs hm hW hS => ?_)
                refine lv_aload_n S.1 S.2.1 dX5_run_74 rfl (lv_at hl 0 rfl) ?_
                refine mx_gI S hK hm hW 7 iX5 rfl (by decide) (by decide +kernel) dX5_run_75 (v := tF (m_begins tt (fpT tt) (grT tt) (nlT tt) (ngT tt) (nbT tt)) 7) rfl ?_
                refine lv_if_ne (tgt := 85) S.1 S.2.1 dX5_run_78 (by decide) (fun c15 => ?_) (fun c15 => ?_)
                · skip
                  refine lv_aload_n S.1 S.2.1 dX5_run_85 rfl (lv_at hl 0 rfl) ?_
                  refine mx_gI S hK hm hW 7 iX5 rfl (by decide) (by decide +kernel) dX5_run_86 (v := tF (m_begins tt (fpT tt) (grT tt) (nlT tt) (ngT tt) (nbT tt)) 7) rfl ?_
                  refine lv_iload_n S.1 S.2.1 dX5_run_89 rfl (lv_at hl 3 rfl) ?_
                  refine lv_aload_n S.1 S.2.1 dX5_run_90 rfl (lv_at hl 0 rfl) ?_
                  refine mx_gI S hK hm hW 1 iX5 rfl (by decide) (by decide +kernel) dX5_run_91 (v := tF (m_begins tt (fpT tt) (grT tt) (nlT tt) (ngT tt) (nbT tt)) 1) rfl ?_
                  refine lv_isub S.1 S.2.1 dX5_run_94 ?_
                  refine lv_icmp_ge (tgt := 105) S.1 S.2.1 dX5_run_95 (by decide) (fun c16 => ?_) (fun c16 => ?_)
                  · skip
                    refine lv_iload_n S.1 S.2.1 dX5_run_105 rfl (lv_at hl 3 rfl) ?_
                    refine lv_aload_n S.1 S.2.1 dX5_run_106 rfl (lv_at hl 0 rfl) ?_
                    refine mx_gI S hK hm hW 1 iX5 rfl (by decide) (by decide +kernel) dX5_run_107 (v := tF (m_begins tt (fpT tt) (grT tt) (nlT tt) (ngT tt) (nbT tt)) 1) rfl ?_
                    refine lv_isub S.1 S.2.1 dX5_run_110 ?_
                    refine lv_istore (lv' := [(4, .int (((tF t 1) + (ti)) - (tF (m_begins tt (fpT tt) (grT tt) (nlT tt) (ngT tt) (nbT tt)) 1))), (0, .ref mo), (1, .int (ti)), (2, .int (tF t 5)), (3, .int ((tF t 1) + (ti)))]) S.1 S.2.1 dX5_run_111 hl (by decide) rfl (fun ls hl => ?_)
                    refine lv_aload_n S.1 S.2.1 dX5_run_113 rfl (lv_at hl 1 rfl) ?_
                    refine mx_gI S hK hm hW 7 iX5 rfl (by decide) (by decide +kernel) dX5_run_114 (v := tF (m_begins tt (fpT tt) (grT tt) (nlT tt) (ngT tt) (nbT tt)) 7) rfl ?_
                    refine lv_if_le (tgt := 161) S.1 S.2.1 dX5_run_117 (by decide) (fun c17 => ?_) (fun c17 => ?_)
                    · skip
                      refine lv_aload_n S.1 S.2.1 dX5_run_161 rfl (lv_at hl 1 rfl) ?_
                      refine lv_iload S.1 S.2.1 dX5_run_162 (lv_at hl 0 rfl) ?_
                      refine mx_cV (As := [.int (((tF t 1) + (ti)) - (tF (m_begins tt (fpT tt) (grT tt) (nlT tt) (ngT tt) (nbT tt)) 1))]) (rest := []) (st1 := []) S hK hZ hA hm hW hS (c_X5_passes l G nu x z mo ma (m_begins tt (fpT tt) (grT tt) (nlT tt) (ngT tt) (nbT tt)) (((tF t 1) + (ti)) - (tF (m_begins tt (fpT tt) (grT tt) (nlT tt) (ngT tt) (nbT tt)) 1)) hm ) (cwV 1 S.2.2.2.2 gX5_run_X5_passes rfl rfl rfl (by decide +kernel) ⟨Nat.le_of_ble_eq_true rfl, Nat.le_of_ble_eq_true rfl⟩) rfl hl.1 rfl (Nat.le_of_ble_eq_true rfl) dX5_run_164 ⟨Nat.le_of_ble_eq_true rfl, Nat.le_of_ble_eq_true rfl⟩ rfl (fun x H locs hm hW hS => ?_)
                      refine lv_goto (tgt := 35) S.1 S.2.1 dX5_run_167 (by decide) ?_
                      exact ihloop (m_step tt (tF t 1 + ti)) (hst tt hIt (Int32.not_le.mp hgo)).1 (by have h8 := (hst tt hIt (Int32.not_le.mp hgo)).2; omega) (by rw [← hfin, m_runN, if_pos (Int32.not_le.mp hgo)]) x _ _ ls (hm.to (by first | (simp [m_step, m_step2, m_n, c1, c2, c4, c5, eq_true c6, c15, c16, c17, tF_uF, tF_uL, tF_uA, tF_uB, tL_uF, tL_uL, tL_uA, tL_uB, tA_uF, tA_uL, tA_uA, tA_uB, tB_uF, tB_uL, tB_uA, tB_uB]; done) | (exfalso; have h9 := c17; simp [c1, c2, c4, c5, c6, c15, c16] at h9; done) | (exfalso; have h9 := c16; simp [c1, c2, c4, c5, c6, c15, c17] at h9; done) | (exfalso; have h9 := c15; simp [c1, c2, c4, c5, c6, c16, c17] at h9; done) | (exfalso; have h9 := c6; simp [c1, c2, c4, c5, c15, c16, c17] at h9; done) | (exfalso; have h9 := c5; simp [c1, c2, c4, c6, c15, c16, c17] at h9; done) | (exfalso; have h9 := c4; simp [c1, c2, c5, c6, c15, c16, c17] at h9; done) | (exfalso; have h9 := c2; simp [c1, c4, c5, c6, c15, c16, c17] at h9; done) | (exfalso; have h9 := c1; simp [c2, c4, c5, c6, c15, c16, c17] at h9; done))) hW hS (lv_sub hl [1, 2, 3, 4] rfl)
                    · skip
                      refine lv_aload_n S.1 S.2.1 dX5_run_120 rfl (lv_at hl 1 rfl) ?_
                      refine lv_dup S.1 S.2.1 dX5_run_121 rfl ?_
                      refine mx_gI S hK hm hW 6 iX5 rfl (by decide) (by decide +kernel) dX5_run_122 (v := tF (m_begins tt (fpT tt) (grT tt) (nlT tt) (ngT tt) (nbT tt)) 6) rfl ?_
                      refine lv_iload S.1 S.2.1 dX5_run_125 (lv_at hl 0 rfl) ?_
                      refine lv_iadd S.1 S.2.1 dX5_run_127 ?_
                      refine mx_pI S hK hm hW hS 6 iX5 rfl (by decide) (by decide +kernel) rfl rfl dX5_run_128 (fun x H locs hm hW hS => ?_)
                      refine lv_aload_n S.1 S.2.1 dX5_run_131 rfl (lv_at hl 1 rfl) ?_
                      refine lv_dup S.1 S.2.1 dX5_run_132 rfl ?_
                      refine mx_gI S hK hm hW 7 iX5 rfl (by decide) (by decide +kernel) dX5_run_133 (v := tF (m_begins tt (fpT tt) (grT tt) (nlT tt) (ngT tt) (nbT tt)) 7) (by simp [tF_uF, tF_uL, tF_uA, tF_uB, tL_uF, tL_uL, tL_uA, tL_uB, tA_uF, tA_uL, tA_uA, tA_uB, tB_uF, tB_uL, tB_uA, tB_uB]) ?_
                      refine lv_iload S.1 S.2.1 dX5_run_136 (lv_at hl 0 rfl) ?_
                      refine lv_isub S.1 S.2.1 dX5_run_138 ?_
                      refine mx_pI S hK hm hW hS 7 iX5 rfl (by decide) (by decide +kernel) rfl rfl dX5_run_139 (fun x H locs hm hW hS => ?_)
                      refine lv_aload_n S.1 S.2.1 dX5_run_142 rfl (lv_at hl 1 rfl) ?_
                      refine lv_aload_n S.1 S.2.1 dX5_run_143 rfl (lv_at hl 1 rfl) ?_
                      refine mx_gI S hK hm hW 7 iX5 rfl (by decide) (by decide +kernel) dX5_run_144 (v := (tF (m_begins tt (fpT tt) (grT tt) (nlT tt) (ngT tt) (nbT tt)) 7) - (((tF t 1) + (ti)) - (tF (m_begins tt (fpT tt) (grT tt) (nlT tt) (ngT tt) (nbT tt)) 1))) (by simp [tF_uF, tF_uL, tF_uA, tF_uB, tL_uF, tL_uL, tL_uA, tL_uB, tA_uF, tA_uL, tA_uA, tA_uB, tB_uF, tB_uL, tB_uA, tB_uB]) ?_
                      refine lv_if_ne (tgt := 154) S.1 S.2.1 dX5_run_147 (by decide) (fun c18 => ?_) (fun c18 => ?_)
                      · skip
                        refine lv_aload_n S.1 S.2.1 dX5_run_154 rfl (lv_at hl 1 rfl) ?_
                        refine mx_gI S hK hm hW 8 iX5 rfl (by decide) (by decide +kernel) dX5_run_155 (v := tF (m_begins tt (fpT tt) (grT tt) (nlT tt) (ngT tt) (nbT tt)) 8) (by simp [tF_uF, tF_uL, tF_uA, tF_uB, tL_uF, tL_uL, tL_uA, tL_uB, tA_uF, tA_uL, tA_uA, tA_uB, tB_uF, tB_uL, tB_uA, tB_uB]) ?_
                        refine mx_pI S hK hm hW hS 8 iX5 rfl (by decide) (by decide +kernel) rfl rfl dX5_run_158 (fun x H locs hm hW hS => ?_)
                        refine lv_aload_n S.1 S.2.1 dX5_run_161 rfl (lv_at hl 1 rfl) ?_
                        refine lv_iload S.1 S.2.1 dX5_run_162 (lv_at hl 0 rfl) ?_
                        refine mx_cV (As := [.int (((tF t 1) + (ti)) - (tF (m_begins tt (fpT tt) (grT tt) (nlT tt) (ngT tt) (nbT tt)) 1))]) (rest := []) (st1 := []) S hK hZ hA hm hW hS (c_X5_passes l G nu x z mo ma (uF (uF (uF (m_begins tt (fpT tt) (grT tt) (nlT tt) (ngT tt) (nbT tt)) 6 ((tF (m_begins tt (fpT tt) (grT tt) (nlT tt) (ngT tt) (nbT tt)) 6) + (((tF t 1) + (ti)) - (tF (m_begins tt (fpT tt) (grT tt) (nlT tt) (ngT tt) (nbT tt)) 1)))) 7 ((tF (m_begins tt (fpT tt) (grT tt) (nlT tt) (ngT tt) (nbT tt)) 7) - (((tF t 1) + (ti)) - (tF (m_begins tt (fpT tt) (grT tt) (nlT tt) (ngT tt) (nbT tt)) 1)))) 8 (tF (m_begins tt (fpT tt) (grT tt) (nlT tt) (ngT tt) (nbT tt)) 8)) (((tF t 1) + (ti)) - (tF (m_begins tt (fpT tt) (grT tt) (nlT tt) (ngT tt) (nbT tt)) 1)) hm ) (cwV 1 S.2.2.2.2 gX5_run_X5_passes rfl rfl rfl (by decide +kernel) ⟨Nat.le_of_ble_eq_true rfl, Nat.le_of_ble_eq_true rfl⟩) rfl hl.1 rfl (Nat.le_of_ble_eq_true rfl) dX5_run_164 ⟨Nat.le_of_ble_eq_true rfl, Nat.le_of_ble_eq_true rfl⟩ rfl (fun x H locs hm hW hS => ?_)
                        refine lv_goto (tgt := 35) S.1 S.2.1 dX5_run_167 (by decide) ?_
                        exact ihloop (m_step tt (tF t 1 + ti)) (hst tt hIt (Int32.not_le.mp hgo)).1 (by have h8 := (hst tt hIt (Int32.not_le.mp hgo)).2; omega) (by rw [← hfin, m_runN, if_pos (Int32.not_le.mp hgo)]) x _ _ ls (hm.to (by first | (simp [m_step, m_step2, m_n, c1, c2, c4, c5, eq_true c6, c15, c16, c17, c18, tF_uF, tF_uL, tF_uA, tF_uB, tL_uF, tL_uL, tL_uA, tL_uB, tA_uF, tA_uL, tA_uA, tA_uB, tB_uF, tB_uL, tB_uA, tB_uB]; done) | (exfalso; have h9 := c18; simp [c1, c2, c4, c5, c6, c15, c16, c17] at h9; done) | (exfalso; have h9 := c17; simp [c1, c2, c4, c5, c6, c15, c16, c18] at h9; done) | (exfalso; have h9 := c16; simp [c1, c2, c4, c5, c6, c15, c17, c18] at h9; done) | (exfalso; have h9 := c15; simp [c1, c2, c4, c5, c6, c16, c17, c18] at h9; done) | (exfalso; have h9 := c6; simp [c1, c2, c4, c5, c15, c16, c17, c18] at h9; done) | (exfalso; have h9 := c5; simp [c1, c2, c4, c6, c15, c16, c17, c18] at h9; done) | (exfalso; have h9 := c4; simp [c1, c2, c5, c6, c15, c16, c17, c18] at h9; done) | (exfalso; have h9 := c2; simp [c1, c4, c5, c6, c15, c16, c17, c18] at h9; done) | (exfalso; have h9 := c1; simp [c2, c4, c5, c6, c15, c16, c17, c18] at h9; done))) hW hS (lv_sub hl [1, 2, 3, 4] rfl)
                      · skip
                        refine lv_iconst (v := (-1)) S.1 S.2.1 dX5_run_150 (by decide) ?_
                        refine lv_goto (tgt := 158) S.1 S.2.1 dX5_run_151 (by decide) ?_
                        refine mx_pI S hK hm hW hS 8 iX5 rfl (by decide) (by decide +kernel) rfl rfl dX5_run_158 (fun x H locs hm hW hS => ?_)
                        refine lv_aload_n S.1 S.2.1 dX5_run_161 rfl (lv_at hl 1 rfl) ?_
                        refine lv_iload S.1 S.2.1 dX5_run_162 (lv_at hl 0 rfl) ?_
                        refine mx_cV (As := [.int (((tF t 1) + (ti)) - (tF (m_begins tt (fpT tt) (grT tt) (nlT tt) (ngT tt) (nbT tt)) 1))]) (rest := []) (st1 := []) S hK hZ hA hm hW hS (c_X5_passes l G nu x z mo ma (uF (uF (uF (m_begins tt (fpT tt) (grT tt) (nlT tt) (ngT tt) (nbT tt)) 6 ((tF (m_begins tt (fpT tt) (grT tt) (nlT tt) (ngT tt) (nbT tt)) 6) + (((tF t 1) + (ti)) - (tF (m_begins tt (fpT tt) (grT tt) (nlT tt) (ngT tt) (nbT tt)) 1)))) 7 ((tF (m_begins tt (fpT tt) (grT tt) (nlT tt) (ngT tt) (nbT tt)) 7) - (((tF t 1) + (ti)) - (tF (m_begins tt (fpT tt) (grT tt) (nlT tt) (ngT tt) (nbT tt)) 1)))) 8 (-1)) (((tF t 1) + (ti)) - (tF (m_begins tt (fpT tt) (grT tt) (nlT tt) (ngT tt) (nbT tt)) 1)) hm ) (cwV 1 S.2.2.2.2 gX5_run_X5_passes rfl rfl rfl (by decide +kernel) ⟨Nat.le_of_ble_eq_true rfl, Nat.le_of_ble_eq_true rfl⟩) rfl hl.1 rfl (Nat.le_of_ble_eq_true rfl) dX5_run_164 ⟨Nat.le_of_ble_eq_true rfl, Nat.le_of_ble_eq_true rfl⟩ rfl (fun x H locs hm hW hS => ?_)
                        refine lv_goto (tgt := 35) S.1 S.2.1 dX5_run_167 (by decide) ?_
                        exact ihloop (m_step tt (tF t 1 + ti)) (hst tt hIt (Int32.not_le.mp hgo)).1 (by have h8 := (hst tt hIt (Int32.not_le.mp hgo)).2; omega) (by rw [← hfin, m_runN, if_pos (Int32.not_le.mp hgo)]) x _ _ ls (hm.to (by first | (simp [m_step, m_step2, m_n, c1, c2, c4, c5, eq_true c6, c15, c16, c17, eq_true c18, tF_uF, tF_uL, tF_uA, tF_uB, tL_uF, tL_uL, tL_uA, tL_uB, tA_uF, tA_uL, tA_uA, tA_uB, tB_uF, tB_uL, tB_uA, tB_uB]; done) | (exfalso; have h9 := c18; simp [c1, c2, c4, c5, c6, c15, c16, c17] at h9; done) | (exfalso; have h9 := c17; simp [c1, c2, c4, c5, c6, c15, c16, c18] at h9; done) | (exfalso; have h9 := c16; simp [c1, c2, c4, c5, c6, c15, c17, c18] at h9; done) | (exfalso; have h9 := c15; simp [c1, c2, c4, c5, c6, c16, c17, c18] at h9; done) | (exfalso; have h9 := c6; simp [c1, c2, c4, c5, c15, c16, c17, c18] at h9; done) | (exfalso; have h9 := c5; simp [c1, c2, c4, c6, c15, c16, c17, c18] at h9; done) | (exfalso; have h9 := c4; simp [c1, c2, c5, c6, c15, c16, c17, c18] at h9; done) | (exfalso; have h9 := c2; simp [c1, c4, c5, c6, c15, c16, c17, c18] at h9; done) | (exfalso; have h9 := c1; simp [c2, c4, c5, c6, c15, c16, c17, c18] at h9; done))) hW hS (lv_sub hl [1, 2, 3, 4] rfl)
                  · skip
                    refine lv_aload_n S.1 S.2.1 dX5_run_98 rfl (lv_at hl 0 rfl) ?_
                    refine mx_gI S hK hm hW 7 iX5 rfl (by decide) (by decide +kernel) dX5_run_99 (v := tF (m_begins tt (fpT tt) (grT tt) (nlT tt) (ngT tt) (nbT tt)) 7) rfl ?_
                    refine lv_goto (tgt := 111) S.1 S.2.1 dX5_run_102 (by decide) ?_
                    refine lv_istore (lv' := [(4, .int (tF (m_begins tt (fpT tt) (grT tt) (nlT tt) (ngT tt) (nbT tt)) 7)), (0, .ref mo), (1, .int (ti)), (2, .int (tF t 5)), (3, .int ((tF t 1) + (ti)))]) S.1 S.2.1 dX5_run_111 hl (by decide) rfl (fun ls hl => ?_)
                    refine lv_aload_n S.1 S.2.1 dX5_run_113 rfl (lv_at hl 1 rfl) ?_
                    refine mx_gI S hK hm hW 7 iX5 rfl (by decide) (by decide +kernel) dX5_run_114 (v := tF (m_begins tt (fpT tt) (grT tt) (nlT tt) (ngT tt) (nbT tt)) 7) rfl ?_
                    refine lv_if_le (tgt := 161) S.1 S.2.1 dX5_run_117 (by decide) (fun c19 => ?_) (fun c19 => ?_)
                    · skip
                      refine lv_aload_n S.1 S.2.1 dX5_run_161 rfl (lv_at hl 1 rfl) ?_
                      refine lv_iload S.1 S.2.1 dX5_run_162 (lv_at hl 0 rfl) ?_
                      refine mx_cV (As := [.int (tF (m_begins tt (fpT tt) (grT tt) (nlT tt) (ngT tt) (nbT tt)) 7)]) (rest := []) (st1 := []) S hK hZ hA hm hW hS (c_X5_passes l G nu x z mo ma (m_begins tt (fpT tt) (grT tt) (nlT tt) (ngT tt) (nbT tt)) (tF (m_begins tt (fpT tt) (grT tt) (nlT tt) (ngT tt) (nbT tt)) 7) hm ) (cwV 1 S.2.2.2.2 gX5_run_X5_passes rfl rfl rfl (by decide +kernel) ⟨Nat.le_of_ble_eq_true rfl, Nat.le_of_ble_eq_true rfl⟩) rfl hl.1 rfl (Nat.le_of_ble_eq_true rfl) dX5_run_164 ⟨Nat.le_of_ble_eq_true rfl, Nat.le_of_ble_eq_true rfl⟩ rfl (fun x H locs hm hW hS => ?_)
                      refine lv_goto (tgt := 35) S.1 S.2.1 dX5_run_167 (by decide) ?_
                      exact ihloop (m_step tt (tF t 1 + ti)) (hst tt hIt (Int32.not_le.mp hgo)).1 (by have h8 := (hst tt hIt (Int32.not_le.mp hgo)).2; omega) (by rw [← hfin, m_runN, if_pos (Int32.not_le.mp hgo)]) x _ _ ls (hm.to (by first | (simp [m_step, m_step2, m_n, c1, c2, c4, c5, eq_true c6, c15, c16, c19, tF_uF, tF_uL, tF_uA, tF_uB, tL_uF, tL_uL, tL_uA, tL_uB, tA_uF, tA_uL, tA_uA, tA_uB, tB_uF, tB_uL, tB_uA, tB_uB]; done) | (exfalso; have h9 := c19; simp [c1, c2, c4, c5, c6, c15, c16] at h9; done) | (exfalso; have h9 := c16; simp [c1, c2, c4, c5, c6, c15, c19] at h9; done) | (exfalso; have h9 := c15; simp [c1, c2, c4, c5, c6, c16, c19] at h9; done) | (exfalso; have h9 := c6; simp [c1, c2, c4, c5, c15, c16, c19] at h9; done) | (exfalso; have h9 := c5; simp [c1, c2, c4, c6, c15, c16, c19] at h9; done) | (exfalso; have h9 := c4; simp [c1, c2, c5, c6, c15, c16, c19] at h9; done) | (exfalso; have h9 := c2; simp [c1, c4, c5, c6, c15, c16, c19] at h9; done) | (exfalso; have h9 := c1; simp [c2, c4, c5, c6, c15, c16, c19] at h9; done))) hW hS (lv_sub hl [1, 2, 3, 4] rfl)
                    · skip
                      refine lv_aload_n S.1 S.2.1 dX5_run_120 rfl (lv_at hl 1 rfl) ?_
                      refine lv_dup S.1 S.2.1 dX5_run_121 rfl ?_
                      refine mx_gI S hK hm hW 6 iX5 rfl (by decide) (by decide +kernel) dX5_run_122 (v := tF (m_begins tt (fpT tt) (grT tt) (nlT tt) (ngT tt) (nbT tt)) 6) rfl ?_
                      refine lv_iload S.1 S.2.1 dX5_run_125 (lv_at hl 0 rfl) ?_
                      refine lv_iadd S.1 S.2.1 dX5_run_127 ?_
                      refine mx_pI S hK hm hW hS 6 iX5 rfl (by decide) (by decide +kernel) rfl rfl dX5_run_128 (fun x H locs hm hW hS => ?_)
                      refine lv_aload_n S.1 S.2.1 dX5_run_131 rfl (lv_at hl 1 rfl) ?_
                      refine lv_dup S.1 S.2.1 dX5_run_132 rfl ?_
                      refine mx_gI S hK hm hW 7 iX5 rfl (by decide) (by decide +kernel) dX5_run_133 (v := tF (m_begins tt (fpT tt) (grT tt) (nlT tt) (ngT tt) (nbT tt)) 7) (by simp [tF_uF, tF_uL, tF_uA, tF_uB, tL_uF, tL_uL, tL_uA, tL_uB, tA_uF, tA_uL, tA_uA, tA_uB, tB_uF, tB_uL, tB_uA, tB_uB]) ?_
                      refine lv_iload S.1 S.2.1 dX5_run_136 (lv_at hl 0 rfl) ?_
                      refine lv_isub S.1 S.2.1 dX5_run_138 ?_
                      refine mx_pI S hK hm hW hS 7 iX5 rfl (by decide) (by decide +kernel) rfl rfl dX5_run_139 (fun x H locs hm hW hS => ?_)
                      refine lv_aload_n S.1 S.2.1 dX5_run_142 rfl (lv_at hl 1 rfl) ?_
                      refine lv_aload_n S.1 S.2.1 dX5_run_143 rfl (lv_at hl 1 rfl) ?_
                      refine mx_gI S hK hm hW 7 iX5 rfl (by decide) (by decide +kernel) dX5_run_144 (v := (tF (m_begins tt (fpT tt) (grT tt) (nlT tt) (ngT tt) (nbT tt)) 7) - (tF (m_begins tt (fpT tt) (grT tt) (nlT tt) (ngT tt) (nbT tt)) 7)) (by simp [tF_uF, tF_uL, tF_uA, tF_uB, tL_uF, tL_uL, tL_uA, tL_uB, tA_uF, tA_uL, tA_uA, tA_uB, tB_uF, tB_uL, tB_uA, tB_uB]) ?_
                      refine lv_if_ne (tgt := 154) S.1 S.2.1 dX5_run_147 (by decide) (fun c20 => ?_) (fun c20 => ?_)
                      · skip
                        refine lv_aload_n S.1 S.2.1 dX5_run_154 rfl (lv_at hl 1 rfl) ?_
                        refine mx_gI S hK hm hW 8 iX5 rfl (by decide) (by decide +kernel) dX5_run_155 (v := tF (m_begins tt (fpT tt) (grT tt) (nlT tt) (ngT tt) (nbT tt)) 8) (by simp [tF_uF, tF_uL, tF_uA, tF_uB, tL_uF, tL_uL, tL_uA, tL_uB, tA_uF, tA_uL, tA_uA, tA_uB, tB_uF, tB_uL, tB_uA, tB_uB]) ?_
                        refine mx_pI S hK hm hW hS 8 iX5 rfl (by decide) (by decide +kernel) rfl rfl dX5_run_158 (fun x H locs hm hW hS => ?_)
                        refine lv_aload_n S.1 S.2.1 dX5_run_161 rfl (lv_at hl 1 rfl) ?_
                        refine lv_iload S.1 S.2.1 dX5_run_162 (lv_at hl 0 rfl) ?_
                        refine mx_cV (As := [.int (tF (m_begins tt (fpT tt) (grT tt) (nlT tt) (ngT tt) (nbT tt)) 7)]) (rest := []) (st1 := []) S hK hZ hA hm hW hS (c_X5_passes l G nu x z mo ma (uF (uF (uF (m_begins tt (fpT tt) (grT tt) (nlT tt) (ngT tt) (nbT tt)) 6 ((tF (m_begins tt (fpT tt) (grT tt) (nlT tt) (ngT tt) (nbT tt)) 6) + (tF (m_begins tt (fpT tt) (grT tt) (nlT tt) (ngT tt) (nbT tt)) 7))) 7 ((tF (m_begins tt (fpT tt) (grT tt) (nlT tt) (ngT tt) (nbT tt)) 7) - (tF (m_begins tt (fpT tt) (grT tt) (nlT tt) (ngT tt) (nbT tt)) 7))) 8 (tF (m_begins tt (fpT tt) (grT tt) (nlT tt) (ngT tt) (nbT tt)) 8)) (tF (m_begins tt (fpT tt) (grT tt) (nlT tt) (ngT tt) (nbT tt)) 7) hm ) (cwV 1 S.2.2.2.2 gX5_run_X5_passes rfl rfl rfl (by decide +kernel) ⟨Nat.le_of_ble_eq_true rfl, Nat.le_of_ble_eq_true rfl⟩) rfl hl.1 rfl (Nat.le_of_ble_eq_true rfl) dX5_run_164 ⟨Nat.le_of_ble_eq_true rfl, Nat.le_of_ble_eq_true rfl⟩ rfl (fun x H locs hm hW hS => ?_)
                        refine lv_goto (tgt := 35) S.1 S.2.1 dX5_run_167 (by decide) ?_
                        exact ihloop (m_step tt (tF t 1 + ti)) (hst tt hIt (Int32.not_le.mp hgo)).1 (by have h8 := (hst tt hIt (Int32.not_le.mp hgo)).2; omega) (by rw [← hfin, m_runN, if_pos (Int32.not_le.mp hgo)]) x _ _ ls (hm.to (by first | (simp [m_step, m_step2, m_n, c1, c2, c4, c5, eq_true c6, c15, c16, c19, c20, tF_uF, tF_uL, tF_uA, tF_uB, tL_uF, tL_uL, tL_uA, tL_uB, tA_uF, tA_uL, tA_uA, tA_uB, tB_uF, tB_uL, tB_uA, tB_uB]; done) | (exfalso; have h9 := c20; simp [c1, c2, c4, c5, c6, c15, c16, c19] at h9; done) | (exfalso; have h9 := c19; simp [c1, c2, c4, c5, c6, c15, c16, c20] at h9; done) | (exfalso; have h9 := c16; simp [c1, c2, c4, c5, c6, c15, c19, c20] at h9; done) | (exfalso; have h9 := c15; simp [c1, c2, c4, c5, c6, c16, c19, c20] at h9; done) | (exfalso; have h9 := c6; simp [c1, c2, c4, c5, c15, c16, c19, c20] at h9; done) | (exfalso; have h9 := c5; simp [c1, c2, c4, c6, c15, c16, c19, c20] at h9; done) | (exfalso; have h9 := c4; simp [c1, c2, c5, c6, c15, c16, c19, c20] at h9; done) | (exfalso; have h9 := c2; simp [c1, c4, c5, c6, c15, c16, c19, c20] at h9; done) | (exfalso; have h9 := c1; simp [c2, c4, c5, c6, c15, c16, c19, c20] at h9; done))) hW hS (lv_sub hl [1, 2, 3, 4] rfl)
                      · skip
                        refine lv_iconst (v := (-1)) S.1 S.2.1 dX5_run_150 (by decide) ?_
                        refine lv_goto (tgt := 158) S.1 S.2.1 dX5_run_151 (by decide) ?_
                        refine mx_pI S hK hm hW hS 8 iX5 rfl (by decide) (by decide +kernel) rfl rfl dX5_run_158 (fun x H locs hm hW hS => ?_)
                        refine lv_aload_n S.1 S.2.1 dX5_run_161 rfl (lv_at hl 1 rfl) ?_
                        refine lv_iload S.1 S.2.1 dX5_run_162 (lv_at hl 0 rfl) ?_
                        refine mx_cV (As := [.int (tF (m_begins tt (fpT tt) (grT tt) (nlT tt) (ngT tt) (nbT tt)) 7)]) (rest := []) (st1 := []) S hK hZ hA hm hW hS (c_X5_passes l G nu x z mo ma (uF (uF (uF (m_begins tt (fpT tt) (grT tt) (nlT tt) (ngT tt) (nbT tt)) 6 ((tF (m_begins tt (fpT tt) (grT tt) (nlT tt) (ngT tt) (nbT tt)) 6) + (tF (m_begins tt (fpT tt) (grT tt) (nlT tt) (ngT tt) (nbT tt)) 7))) 7 ((tF (m_begins tt (fpT tt) (grT tt) (nlT tt) (ngT tt) (nbT tt)) 7) - (tF (m_begins tt (fpT tt) (grT tt) (nlT tt) (ngT tt) (nbT tt)) 7))) 8 (-1)) (tF (m_begins tt (fpT tt) (grT tt) (nlT tt) (ngT tt) (nbT tt)) 7) hm ) (cwV 1 S.2.2.2.2 gX5_run_X5_passes rfl rfl rfl (by decide +kernel) ⟨Nat.le_of_ble_eq_true rfl, Nat.le_of_ble_eq_true rfl⟩) rfl hl.1 rfl (Nat.le_of_ble_eq_true rfl) dX5_run_164 ⟨Nat.le_of_ble_eq_true rfl, Nat.le_of_ble_eq_true rfl⟩ rfl (fun x H locs hm hW hS => ?_)
                        refine lv_goto (tgt := 35) S.1 S.2.1 dX5_run_167 (by decide) ?_
                        exact ihloop (m_step tt (tF t 1 + ti)) (hst tt hIt (Int32.not_le.mp hgo)).1 (by have h8 := (hst tt hIt (Int32.not_le.mp hgo)).2; omega) (by rw [← hfin, m_runN, if_pos (Int32.not_le.mp hgo)]) x _ _ ls (hm.to (by first | (simp [m_step, m_step2, m_n, c1, c2, c4, c5, eq_true c6, c15, c16, c19, eq_true c20, tF_uF, tF_uL, tF_uA, tF_uB, tL_uF, tL_uL, tL_uA, tL_uB, tA_uF, tA_uL, tA_uA, tA_uB, tB_uF, tB_uL, tB_uA, tB_uB]; done) | (exfalso; have h9 := c20; simp [c1, c2, c4, c5, c6, c15, c16, c19] at h9; done) | (exfalso; have h9 := c19; simp [c1, c2, c4, c5, c6, c15, c16, c20] at h9; done) | (exfalso; have h9 := c16; simp [c1, c2, c4, c5, c6, c15, c19, c20] at h9; done) | (exfalso; have h9 := c15; simp [c1, c2, c4, c5, c6, c16, c19, c20] at h9; done) | (exfalso; have h9 := c6; simp [c1, c2, c4, c5, c15, c16, c19, c20] at h9; done) | (exfalso; have h9 := c5; simp [c1, c2, c4, c6, c15, c16, c19, c20] at h9; done) | (exfalso; have h9 := c4; simp [c1, c2, c5, c6, c15, c16, c19, c20] at h9; done) | (exfalso; have h9 := c2; simp [c1, c4, c5, c6, c15, c16, c19, c20] at h9; done) | (exfalso; have h9 := c1; simp [c2, c4, c5, c6, c15, c16, c19, c20] at h9; done))) hW hS (lv_sub hl [1, 2, 3, 4] rfl)
                · skip
                  refine lv_iconst (v := 1) S.1 S.2.1 dX5_run_81 (by decide) ?_
                  refine lv_goto (tgt := 111) S.1 S.2.1 dX5_run_82 (by decide) ?_
                  refine lv_istore (lv' := [(4, .int (1)), (0, .ref mo), (1, .int (ti)), (2, .int (tF t 5)), (3, .int ((tF t 1) + (ti)))]) S.1 S.2.1 dX5_run_111 hl (by decide) rfl (fun ls hl => ?_)
                  refine lv_aload_n S.1 S.2.1 dX5_run_113 rfl (lv_at hl 1 rfl) ?_
                  refine mx_gI S hK hm hW 7 iX5 rfl (by decide) (by decide +kernel) dX5_run_114 (v := tF (m_begins tt (fpT tt) (grT tt) (nlT tt) (ngT tt) (nbT tt)) 7) rfl ?_
                  refine lv_if_le (tgt := 161) S.1 S.2.1 dX5_run_117 (by decide) (fun c21 => ?_) (fun c21 => ?_)
                  · skip
                    refine lv_aload_n S.1 S.2.1 dX5_run_161 rfl (lv_at hl 1 rfl) ?_
                    refine lv_iload S.1 S.2.1 dX5_run_162 (lv_at hl 0 rfl) ?_
                    refine mx_cV (As := [.int (1)]) (rest := []) (st1 := []) S hK hZ hA hm hW hS (c_X5_passes l G nu x z mo ma (m_begins tt (fpT tt) (grT tt) (nlT tt) (ngT tt) (nbT tt)) 1 hm ) (cwV 1 S.2.2.2.2 gX5_run_X5_passes rfl rfl rfl (by decide +kernel) ⟨Nat.le_of_ble_eq_true rfl, Nat.le_of_ble_eq_true rfl⟩) rfl hl.1 rfl (Nat.le_of_ble_eq_true rfl) dX5_run_164 ⟨Nat.le_of_ble_eq_true rfl, Nat.le_of_ble_eq_true rfl⟩ rfl (fun x H locs hm hW hS => ?_)
                    refine lv_goto (tgt := 35) S.1 S.2.1 dX5_run_167 (by decide) ?_
                    exact ihloop (m_step tt (tF t 1 + ti)) (hst tt hIt (Int32.not_le.mp hgo)).1 (by have h8 := (hst tt hIt (Int32.not_le.mp hgo)).2; omega) (by rw [← hfin, m_runN, if_pos (Int32.not_le.mp hgo)]) x _ _ ls (hm.to (by first | (simp [m_step, m_step2, m_n, c1, c2, c4, c5, eq_true c6, eq_true c15, c21, tF_uF, tF_uL, tF_uA, tF_uB, tL_uF, tL_uL, tL_uA, tL_uB, tA_uF, tA_uL, tA_uA, tA_uB, tB_uF, tB_uL, tB_uA, tB_uB]; done) | (exfalso; have h9 := c21; simp [c1, c2, c4, c5, c6, c15] at h9; done) | (exfalso; have h9 := c15; simp [c1, c2, c4, c5, c6, c21] at h9; done) | (exfalso; have h9 := c6; simp [c1, c2, c4, c5, c15, c21] at h9; done) | (exfalso; have h9 := c5; simp [c1, c2, c4, c6, c15, c21] at h9; done) | (exfalso; have h9 := c4; simp [c1, c2, c5, c6, c15, c21] at h9; done) | (exfalso; have h9 := c2; simp [c1, c4, c5, c6, c15, c21] at h9; done) | (exfalso; have h9 := c1; simp [c2, c4, c5, c6, c15, c21] at h9; done))) hW hS (lv_sub hl [1, 2, 3, 4] rfl)
                  · skip
                    refine lv_aload_n S.1 S.2.1 dX5_run_120 rfl (lv_at hl 1 rfl) ?_
                    refine lv_dup S.1 S.2.1 dX5_run_121 rfl ?_
                    refine mx_gI S hK hm hW 6 iX5 rfl (by decide) (by decide +kernel) dX5_run_122 (v := tF (m_begins tt (fpT tt) (grT tt) (nlT tt) (ngT tt) (nbT tt)) 6) rfl ?_
                    refine lv_iload S.1 S.2.1 dX5_run_125 (lv_at hl 0 rfl) ?_
                    refine lv_iadd S.1 S.2.1 dX5_run_127 ?_
                    refine mx_pI S hK hm hW hS 6 iX5 rfl (by decide) (by decide +kernel) rfl rfl dX5_run_128 (fun x H locs hm hW hS => ?_)
                    refine lv_aload_n S.1 S.2.1 dX5_run_131 rfl (lv_at hl 1 rfl) ?_
                    refine lv_dup S.1 S.2.1 dX5_run_132 rfl ?_
                    refine mx_gI S hK hm hW 7 iX5 rfl (by decide) (by decide +kernel) dX5_run_133 (v := tF (m_begins tt (fpT tt) (grT tt) (nlT tt) (ngT tt) (nbT tt)) 7) (by simp [tF_uF, tF_uL, tF_uA, tF_uB, tL_uF, tL_uL, tL_uA, tL_uB, tA_uF, tA_uL, tA_uA, tA_uB, tB_uF, tB_uL, tB_uA, tB_uB]) ?_
                    refine lv_iload S.1 S.2.1 dX5_run_136 (lv_at hl 0 rfl) ?_
                    refine lv_isub S.1 S.2.1 dX5_run_138 ?_
                    refine mx_pI S hK hm hW hS 7 iX5 rfl (by decide) (by decide +kernel) rfl rfl dX5_run_139 (fun x H locs hm hW hS => ?_)
                    refine lv_aload_n S.1 S.2.1 dX5_run_142 rfl (lv_at hl 1 rfl) ?_
                    refine lv_aload_n S.1 S.2.1 dX5_run_143 rfl (lv_at hl 1 rfl) ?_
                    refine mx_gI S hK hm hW 7 iX5 rfl (by decide) (by decide +kernel) dX5_run_144 (v := (tF (m_begins tt (fpT tt) (grT tt) (nlT tt) (ngT tt) (nbT tt)) 7) - (1)) (by simp [tF_uF, tF_uL, tF_uA, tF_uB, tL_uF, tL_uL, tL_uA, tL_uB, tA_uF, tA_uL, tA_uA, tA_uB, tB_uF, tB_uL, tB_uA, tB_uB]) ?_
                    refine lv_if_ne (tgt := 154) S.1 S.2.1 dX5_run_147 (by decide) (fun c22 => ?_) (fun c22 => ?_)
                    · skip
                      refine lv_aload_n S.1 S.2.1 dX5_run_154 rfl (lv_at hl 1 rfl) ?_
                      refine mx_gI S hK hm hW 8 iX5 rfl (by decide) (by decide +kernel) dX5_run_155 (v := tF (m_begins tt (fpT tt) (grT tt) (nlT tt) (ngT tt) (nbT tt)) 8) (by simp [tF_uF, tF_uL, tF_uA, tF_uB, tL_uF, tL_uL, tL_uA, tL_uB, tA_uF, tA_uL, tA_uA, tA_uB, tB_uF, tB_uL, tB_uA, tB_uB]) ?_
                      refine mx_pI S hK hm hW hS 8 iX5 rfl (by decide) (by decide +kernel) rfl rfl dX5_run_158 (fun x H locs hm hW hS => ?_)
                      refine lv_aload_n S.1 S.2.1 dX5_run_161 rfl (lv_at hl 1 rfl) ?_
                      refine lv_iload S.1 S.2.1 dX5_run_162 (lv_at hl 0 rfl) ?_
                      refine mx_cV (As := [.int (1)]) (rest := []) (st1 := []) S hK hZ hA hm hW hS (c_X5_passes l G nu x z mo ma (uF (uF (uF (m_begins tt (fpT tt) (grT tt) (nlT tt) (ngT tt) (nbT tt)) 6 ((tF (m_begins tt (fpT tt) (grT tt) (nlT tt) (ngT tt) (nbT tt)) 6) + (1))) 7 ((tF (m_begins tt (fpT tt) (grT tt) (nlT tt) (ngT tt) (nbT tt)) 7) - (1))) 8 (tF (m_begins tt (fpT tt) (grT tt) (nlT tt) (ngT tt) (nbT tt)) 8)) 1 hm ) (cwV 1 S.2.2.2.2 gX5_run_X5_passes rfl rfl rfl (by decide +kernel) ⟨Nat.le_of_ble_eq_true rfl, Nat.le_of_ble_eq_true rfl⟩) rfl hl.1 rfl (Nat.le_of_ble_eq_true rfl) dX5_run_164 ⟨Nat.le_of_ble_eq_true rfl, Nat.le_of_ble_eq_true rfl⟩ rfl (fun x H locs hm hW hS => ?_)
                      refine lv_goto (tgt := 35) S.1 S.2.1 dX5_run_167 (by decide) ?_
                      exact ihloop (m_step tt (tF t 1 + ti)) (hst tt hIt (Int32.not_le.mp hgo)).1 (by have h8 := (hst tt hIt (Int32.not_le.mp hgo)).2; omega) (by rw [← hfin, m_runN, if_pos (Int32.not_le.mp hgo)]) x _ _ ls (hm.to (by first | (simp [m_step, m_step2, m_n, c1, c2, c4, c5, eq_true c6, eq_true c15, c21, c22, tF_uF, tF_uL, tF_uA, tF_uB, tL_uF, tL_uL, tL_uA, tL_uB, tA_uF, tA_uL, tA_uA, tA_uB, tB_uF, tB_uL, tB_uA, tB_uB]; done) | (exfalso; have h9 := c22; simp [c1, c2, c4, c5, c6, c15, c21] at h9; done) | (exfalso; have h9 := c21; simp [c1, c2, c4, c5, c6, c15, c22] at h9; done) | (exfalso; have h9 := c15; simp [c1, c2, c4, c5, c6, c21, c22] at h9; done) | (exfalso; have h9 := c6; simp [c1, c2, c4, c5, c15, c21, c22] at h9; done) | (exfalso; have h9 := c5; simp [c1, c2, c4, c6, c15, c21, c22] at h9; done) | (exfalso; have h9 := c4; simp [c1, c2, c5, c6, c15, c21, c22] at h9; done) | (exfalso; have h9 := c2; simp [c1, c4, c5, c6, c15, c21, c22] at h9; done) | (exfalso; have h9 := c1; simp [c2, c4, c5, c6, c15, c21, c22] at h9; done))) hW hS (lv_sub hl [1, 2, 3, 4] rfl)
                    · skip
                      refine lv_iconst (v := (-1)) S.1 S.2.1 dX5_run_150 (by decide) ?_
                      refine lv_goto (tgt := 158) S.1 S.2.1 dX5_run_151 (by decide) ?_
                      refine mx_pI S hK hm hW hS 8 iX5 rfl (by decide) (by decide +kernel) rfl rfl dX5_run_158 (fun x H locs hm hW hS => ?_)
                      refine lv_aload_n S.1 S.2.1 dX5_run_161 rfl (lv_at hl 1 rfl) ?_
                      refine lv_iload S.1 S.2.1 dX5_run_162 (lv_at hl 0 rfl) ?_
                      refine mx_cV (As := [.int (1)]) (rest := []) (st1 := []) S hK hZ hA hm hW hS (c_X5_passes l G nu x z mo ma (uF (uF (uF (m_begins tt (fpT tt) (grT tt) (nlT tt) (ngT tt) (nbT tt)) 6 ((tF (m_begins tt (fpT tt) (grT tt) (nlT tt) (ngT tt) (nbT tt)) 6) + (1))) 7 ((tF (m_begins tt (fpT tt) (grT tt) (nlT tt) (ngT tt) (nbT tt)) 7) - (1))) 8 (-1)) 1 hm ) (cwV 1 S.2.2.2.2 gX5_run_X5_passes rfl rfl rfl (by decide +kernel) ⟨Nat.le_of_ble_eq_true rfl, Nat.le_of_ble_eq_true rfl⟩) rfl hl.1 rfl (Nat.le_of_ble_eq_true rfl) dX5_run_164 ⟨Nat.le_of_ble_eq_true rfl, Nat.le_of_ble_eq_true rfl⟩ rfl (fun x H locs hm hW hS => ?_)
                      refine lv_goto (tgt := 35) S.1 S.2.1 dX5_run_167 (by decide) ?_
                      exact ihloop (m_step tt (tF t 1 + ti)) (hst tt hIt (Int32.not_le.mp hgo)).1 (by have h8 := (hst tt hIt (Int32.not_le.mp hgo)).2; omega) (by rw [← hfin, m_runN, if_pos (Int32.not_le.mp hgo)]) x _ _ ls (hm.to (by first | (simp [m_step, m_step2, m_n, c1, c2, c4, c5, eq_true c6, eq_true c15, c21, eq_true c22, tF_uF, tF_uL, tF_uA, tF_uB, tL_uF, tL_uL, tL_uA, tL_uB, tA_uF, tA_uL, tA_uA, tA_uB, tB_uF, tB_uL, tB_uA, tB_uB]; done) | (exfalso; have h9 := c22; simp [c1, c2, c4, c5, c6, c15, c21] at h9; done) | (exfalso; have h9 := c21; simp [c1, c2, c4, c5, c6, c15, c22] at h9; done) | (exfalso; have h9 := c15; simp [c1, c2, c4, c5, c6, c21, c22] at h9; done) | (exfalso; have h9 := c6; simp [c1, c2, c4, c5, c15, c21, c22] at h9; done) | (exfalso; have h9 := c5; simp [c1, c2, c4, c6, c15, c21, c22] at h9; done) | (exfalso; have h9 := c4; simp [c1, c2, c5, c6, c15, c21, c22] at h9; done) | (exfalso; have h9 := c2; simp [c1, c4, c5, c6, c15, c21, c22] at h9; done) | (exfalso; have h9 := c1; simp [c2, c4, c5, c6, c15, c21, c22] at h9; done))) hW hS (lv_sub hl [1, 2, 3, 4] rfl)
            · skip
              refine lv_aload_n S.1 S.2.1 dX5_run_50 rfl (lv_at hl 0 rfl) ?_
              refine lv_iload_n S.1 S.2.1 dX5_run_51 rfl (lv_at hl 3 rfl) ?_
              refine lv_aload_n S.1 S.2.1 dX5_run_52 rfl (lv_at hl 0 rfl) ?_
              refine mx_gI S hK hm hW 1 iX5 rfl (by decide) (by decide +kernel) dX5_run_53 (v := tF tt 1) rfl ?_
              refine lv_isub S.1 S.2.1 dX5_run_56 ?_
              refine mx_cV (As := [.int (((tF t 1) + (ti)) - (tF tt 1))]) (rest := []) (st1 := []) S hK hZ hA hm hW hS (c_X5_passes l G nu x z mo ma tt (((tF t 1) + (ti)) - (tF tt 1)) hm ) (cwV 1 S.2.2.2.2 gX5_run_X5_passes rfl rfl rfl (by decide +kernel) ⟨Nat.le_of_ble_eq_true rfl, Nat.le_of_ble_eq_true rfl⟩) rfl hl.1 rfl (Nat.le_of_ble_eq_true rfl) dX5_run_57 ⟨Nat.le_of_ble_eq_true rfl, Nat.le_of_ble_eq_true rfl⟩ rfl (fun x H locs hm hW hS => ?_)
              refine lv_goto (tgt := 35) S.1 S.2.1 dX5_run_60 (by decide) ?_
              exact ihloop (m_step tt (tF t 1 + ti)) (hst tt hIt (Int32.not_le.mp hgo)).1 (by have h8 := (hst tt hIt (Int32.not_le.mp hgo)).2; omega) (by rw [← hfin, m_runN, if_pos (Int32.not_le.mp hgo)]) x _ _ ls (hm.to (by first | (simp [m_step, m_step2, m_n, c1, c2, c4, c5, tF_uF, tF_uL, tF_uA, tF_uB, tL_uF, tL_uL, tL_uA, tL_uB, tA_uF, tA_uL, tA_uA, tA_uB, tB_uF, tB_uL, tB_uA, tB_uB]; done) | (exfalso; have h9 := c5; simp [c1, c2, c4] at h9; done) | (exfalso; have h9 := c4; simp [c1, c2, c5] at h9; done) | (exfalso; have h9 := c2; simp [c1, c4, c5] at h9; done) | (exfalso; have h9 := c1; simp [c2, c4, c5] at h9; done))) hW hS (lv_sub hl [0, 1, 2, 3] rfl)
      exact loop (m_mu (tF t 1 + ti) t) t h0 (Nat.le_refl _) rfl x _ _ ls (hm.to rfl) hW hS (lv_sub hl [2, 3, 1, 0] rfl)
    · skip
      refine lv_iconst (v := (-1)) S.1 S.2.1 dX5_run_21 (by decide) ?_
      rw [hQQ]
      refine kw_iret S hr hlk hW hS (by decide) (by decide) dX5_run_22 ?_
      refine ⟨?_, rfl, hm.to ?_⟩ <;> first | rfl | (simp [m_run, m_rok, c1, c2, kw_b]; done) | (simp [m_run, m_rok, c1, c2, kw_b, tF_uF, tF_uL, tF_uA, tF_uB, tL_uF, tL_uL, tL_uA, tL_uB, tA_uF, tA_uL, tA_uA, tA_uB, tB_uF, tB_uL, tB_uA, tB_uB]; done) | contradiction
