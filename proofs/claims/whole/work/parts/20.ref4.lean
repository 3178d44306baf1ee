/-! the reference: EXCESS, DUE, and what begins -/
def m_xs (T t : mo_T) (fp gr : Nat → Nat) (b nb : Nat) : mo_T := uA (m_goes (uL (uB (uB (uB T 27 b (m_tg t fp b)) 11 (gr b) (if m_tg t fp b ≤ tB t 11 (gr b) then tB t 11 (gr b) else m_tg t fp b)) 10 (gr b) (m_gtg t fp gr b)) (if m_gtg t fp gr b ≤ tL t then tL t else m_gtg t fp gr b)) b (fp b) (gr b) nb 2) 22 b (tA t 22 b + tA t 34 (fp b))
def m_excess (t : mo_T) (fp gr : Nat → Nat) (nl ng nb : Nat) : mo_T := match m_best t fp gr nl ng with
  | none => m_outT t fp nl ng
  | some b => m_xs (m_outT t fp nl ng) t fp gr b nb
theorem m_goes_A {t : mo_T} {k pk g nb i : Nat} {w : Int32} (r : Nat) (h : i ≠ 17 ∧ i ≠ 19 ∧ i ≠ 20 ∧ i ≠ 36 ∧ i ≠ 37 ∧ i ≠ 40) : tA (m_goes t k pk g nb w) i r = tA t i r := by
  simp [m_goes, tA_uB, tA_uF, tA_uA, h]
theorem m_goes_L {t : mo_T} {k pk g nb : Nat} {w : Int32} : tL (m_goes t k pk g nb w) = tL t := rfl
theorem m_goes_F {t : mo_T} {k pk g nb i : Nat} {w : Int32} (h : i ≠ 5 ∧ i ≠ 7 ∧ i ≠ 8) : tF (m_goes t k pk g nb w) i = tF t i := by
  simp [m_goes, tF_uB, tF_uF, tF_uA, h]
theorem m_goes_B {t : mo_T} {k pk g nb i : Nat} {w : Int32} (r : Nat) (h : i ≠ 32) : tB (m_goes t k pk g nb w) i r = tB t i r := by
  simp [m_goes, tB_uB, tB_uF, tB_uA, h]
set_option maxHeartbeats 1000000 in
set_option maxRecDepth 100000 in
/-- excess -/
theorem c_X5_excess (l : Launch) (G : kw_G) (nu : Nat → Option Nat) (x z : kw_St) (mo : Nat) (ma : Nat → Nat) (t : mo_T) (fp : Nat → Nat) (gr : Nat → Nat) (nl : Nat) (ng : Nat) (nb : Nat) (hm : mw nu z mo ma t x) (hng : tF t 2 = nI ng) (hg4 : ng ≤ 4) (hnl : tF t 3 = nI nl) (hn8 : nl ≤ 8) (hfp : ∀ k, k < nl → ¬ tA t 19 k = 0 → tA t 17 k = nI (fp k) ∧ fp k < 1000) (hgr : ∀ k, k < nl → tA t 13 k = nI (gr k) ∧ gr k < ng) (hwe : ∀ k, k < nl → 0 < tA t 14 k) (hgw : ∀ g, g < ng → 0 < tA t 9 g) (hnb : tF t 5 = nI nb) (hb9 : nb < 1000) : kw_M l G yX5_excess wsX5_excess { frames := 1, cells := 0, slots := 0, locals := 23 } 0 0 [.ref mo] nu x (fun v nu' y => v = none ∧ nu' = nu ∧ mw nu z mo ma (m_excess t fp gr nl ng nb) y) := by
  refine kw_M.ofW (cc := cX5_excess) (maxL := 8) (ret := none) (by decide) rfl (Nat.le_of_ble_eq_true rfl) ?_
  intro p e s m args below meth c A ls S hr hlk hnm hK hZ hA hW hS hl
  have hl : lv_has ls 8 [(0, .ref mo)] := hl
  have iX5 : ∀ w ∈ wsX50, w ∈ wsX5_excess := by decide +kernel
  obtain ⟨QQ, hQQ⟩ : ∃ q, q = MQ below (kw_Qc G A (fun v nu' y => v = none ∧ nu' = nu ∧ mw nu z mo ma (m_excess t fp gr nl ng nb) y)) args s 0 0 A := ⟨_, rfl⟩
  rw [← hQQ]
  refine lv_iconst (v := (-1)) S.1 S.2.1 dX5_excess_0 (by decide) ?_
  refine lv_istore_n (lv' := [(1, .int (-1)), (0, .ref mo)]) S.1 S.2.1 dX5_excess_1 rfl hl (by decide) rfl (fun ls hl => ?_)
  refine lv_iconst (v := 0) S.1 S.2.1 dX5_excess_2 (by decide) ?_
  refine lv_istore_n (lv' := [(2, .int (0)), (1, .int (-1)), (0, .ref mo)]) S.1 S.2.1 dX5_excess_3 rfl hl (by decide) rfl (fun ls hl => ?_)
  have lpo : ∀ (dn gg : Nat) (bo : Option Nat), gg + dn = ng → (bo = m_best t fp gr nl gg) → ∀ (x : kw_St) (H : Heap) (locs : List Loc) (ls : Array Slot), mw nu z mo ma (m_outT t fp nl gg) x → kw_W G A nu x H → va_S A s.heap H locs → lv_has ls 8 [(0, .ref mo), (1, .int (m_ob bo)), (2, .int (nI gg))] → W p l e { frames := 1, cells := 0, slots := 0, locals := 23 } s m args below meth c H locs 0 0 QQ (F0 m 4 ls []) := by
    intro dn
    induction dn with
    | zero =>
      intro gg bo hndgg hbo x H locs ls hm hW hS hl
      rcases bo with _ | b
      · skip
        have hl : lv_has ls 8 [(0, .ref mo), (1, .int (-1)), (2, .int (nI gg))] := hl
        refine lv_iload_n S.1 S.2.1 dX5_excess_4 rfl (lv_at hl 2 rfl) ?_
        refine lv_aload_n S.1 S.2.1 dX5_excess_5 rfl (lv_at hl 0 rfl) ?_
        refine mx_gI S hK hm hW 2 iX5 rfl (by decide) (by decide +kernel) dX5_excess_6 (v := nI ng) (Eq.trans (b := tF t 2) (by simp [tF_uF, tF_uL, tF_uA, tF_uB, tL_uF, tL_uL, tL_uA, tL_uB, tA_uF, tA_uL, tA_uA, tA_uB, tB_uF, tB_uL, tB_uA, tB_uB, m_inT_F, m_inT_L, m_inT_A, m_inT_B, m_outT_F, m_outT_L, m_outT_A, m_outT_B, m_goes_A, m_goes_B, m_goes_L, m_goes_F]) hng) ?_
        refine lv_icmp_ge (tgt := 172) S.1 S.2.1 dX5_excess_9 (by decide) (fun c1 => ?_) (fun c1 => ?_)
        · skip
          have hnn2 : ng = gg := by omega
          subst hnn2
          refine lv_iload_n S.1 S.2.1 dX5_excess_172 rfl (lv_at hl 1 rfl) ?_
          refine lv_iconst (v := (-1)) S.1 S.2.1 dX5_excess_173 (by decide) ?_
          refine lv_icmp_ne (tgt := 178) S.1 S.2.1 dX5_excess_174 (by decide) (fun c3 => ?_) (fun c3 => ?_)
          · skip
            exact absurd c3 (by decide)
          · skip
            rw [hQQ]
            refine kw_vret S hr hlk hW hS (by decide) (by decide) dX5_excess_177 ?_
            refine ⟨?_, rfl, hm.to ?_⟩ <;> first | rfl | (simp [m_excess, m_xs, hbo.symm, eq_true c3, kw_b]; done) | (simp [m_excess, m_xs, hbo.symm, eq_true c3, kw_b, tF_uF, tF_uL, tF_uA, tF_uB, tL_uF, tL_uL, tL_uA, tL_uB, tA_uF, tA_uL, tA_uA, tA_uB, tB_uF, tB_uL, tB_uA, tB_uB, m_inT_F, m_inT_L, m_inT_A, m_inT_B, m_outT_F, m_outT_L, m_outT_A, m_outT_B, m_goes_A, m_goes_B, m_goes_L, m_goes_F]; done) | contradiction
        · skip
          exact absurd (nI_le (a := ng) (b := gg) (by omega) (by omega)) c1
      · skip
        have hl : lv_has ls 8 [(0, .ref mo), (1, .int (nI b)), (2, .int (nI gg))] := hl
        obtain ⟨hb1, gb, hb2, hb3⟩ := m_best_some hbo.symm
        have hbw : ¬ tA t 19 b = 0 := by have h := hb3; simp [m_exf, m_wt] at h; exact h.1.2
        have hbp := hfp b hb1 hbw
        have hbq := hbp.2
        have hbg := (hgr b hb1).2
        refine lv_iload_n S.1 S.2.1 dX5_excess_4 rfl (lv_at hl 2 rfl) ?_
        refine lv_aload_n S.1 S.2.1 dX5_excess_5 rfl (lv_at hl 0 rfl) ?_
        refine mx_gI S hK hm hW 2 iX5 rfl (by decide) (by decide +kernel) dX5_excess_6 (v := nI ng) (Eq.trans (b := tF t 2) (by simp [tF_uF, tF_uL, tF_uA, tF_uB, tL_uF, tL_uL, tL_uA, tL_uB, tA_uF, tA_uL, tA_uA, tA_uB, tB_uF, tB_uL, tB_uA, tB_uB, m_inT_F, m_inT_L, m_inT_A, m_inT_B, m_outT_F, m_outT_L, m_outT_A, m_outT_B, m_goes_A, m_goes_B, m_goes_L, m_goes_F]) hng) ?_
        refine lv_icmp_ge (tgt := 172) S.1 S.2.1 dX5_excess_9 (by decide) (fun c4 => ?_) (fun c4 => ?_)
        · skip
          have hnn5 : ng = gg := by omega
          subst hnn5
          refine lv_iload_n S.1 S.2.1 dX5_excess_172 rfl (lv_at hl 1 rfl) ?_
          refine lv_iconst (v := (-1)) S.1 S.2.1 dX5_excess_173 (by decide) ?_
          refine lv_icmp_ne (tgt := 178) S.1 S.2.1 dX5_excess_174 (by decide) (fun c6 => ?_) (fun c6 => ?_)
          · skip
            refine lv_aload_n S.1 S.2.1 dX5_excess_178 rfl (lv_at hl 0 rfl) ?_
            refine mx_gA S hK hm hW 13 iX5 rfl (by decide) (by decide) (by decide +kernel) dX5_excess_179 ?_
            refine lv_iload_n S.1 S.2.1 dX5_excess_182 rfl (lv_at hl 1 rfl) ?_
            refine mx_ild S hK hm hW 13 (by decide) (k := b) (kw_ixof (k := b) (n := 8) rfl (by omega) (by decide)) dX5_excess_183 (v := nI (gr b)) (Eq.trans (b := tA t 13 b) (by simp [tF_uF, tF_uL, tF_uA, tF_uB, tL_uF, tL_uL, tL_uA, tL_uB, tA_uF, tA_uL, tA_uA, tA_uB, tB_uF, tB_uL, tB_uA, tB_uB, m_inT_F, m_inT_L, m_inT_A, m_inT_B, m_outT_F, m_outT_L, m_outT_A, m_outT_B, m_goes_A, m_goes_B, m_goes_L, m_goes_F]) (hgr b (by omega)).1) ?_
            refine lv_istore_n (lv' := [(2, .int (nI (gr b))), (0, .ref mo), (1, .int (nI b))]) S.1 S.2.1 dX5_excess_184 rfl hl (by decide) rfl (fun ls hl => ?_)
            refine lv_aload_n S.1 S.2.1 dX5_excess_185 rfl (lv_at hl 1 rfl) ?_
            refine lv_iload_n S.1 S.2.1 dX5_excess_186 rfl (lv_at hl 2 rfl) ?_
            refine mx_cV (As := [.int (nI b)]) (rest := []) (st1 := [.long ((m_tg t fp b))]) S hK hZ hA hm hW hS (c_X5_tagOf l G nu x z mo ma (m_outT t fp nl ng) b (m_tg t fp b) (fp b) hm (by simp [m_tg, tF_uF, tF_uL, tF_uA, tF_uB, tL_uF, tL_uL, tL_uA, tL_uB, tA_uF, tA_uL, tA_uA, tA_uB, tB_uF, tB_uL, tB_uA, tB_uB, m_inT_F, m_inT_L, m_inT_A, m_inT_B, m_outT_F, m_outT_L, m_outT_A, m_outT_B, m_goes_A, m_goes_B, m_goes_L, m_goes_F]) (by omega) (by simp [tF_uF, tF_uL, tF_uA, tF_uB, tL_uF, tL_uL, tL_uA, tL_uB, tA_uF, tA_uL, tA_uA, tA_uB, tB_uF, tB_uL, tB_uA, tB_uB, m_inT_F, m_inT_L, m_inT_A, m_inT_B, m_outT_F, m_outT_L, m_outT_A, m_outT_B, m_goes_A, m_goes_B, m_goes_L, m_goes_F]; exact hbp.1) hbp.2 (by simp [tF_uF, tF_uL, tF_uA, tF_uB, tL_uF, tL_uL, tL_uA, tL_uB, tA_uF, tA_uL, tA_uA, tA_uB, tB_uF, tB_uL, tB_uA, tB_uB, m_inT_F, m_inT_L, m_inT_A, m_inT_B, m_outT_F, m_outT_L, m_outT_A, m_outT_B, m_goes_A, m_goes_B, m_goes_L, m_goes_F]; exact hwe b (by omega))) (cwV 1 S.2.2.2.2 gX5_excess_X5_tagOf rfl rfl rfl (by decide +kernel) ⟨Nat.le_of_ble_eq_true rfl, Nat.le_of_ble_eq_true rfl⟩) rfl hl.1 rfl (Nat.le_of_ble_eq_true rfl) dX5_excess_187 ⟨Nat.le_of_ble_eq_true rfl, Nat.le_of_ble_eq_true rfl⟩ rfl (fun x H locs hm hW hS => ?_)
            refine lv_lstore_n (lv' := [(3, .long ((m_tg t fp b))), (2, .int (nI (gr b))), (0, .ref mo), (1, .int (nI b))]) S.1 S.2.1 dX5_excess_190 rfl hl (by decide) rfl (fun ls hl => ?_)
            refine lv_aload_n S.1 S.2.1 dX5_excess_191 rfl (lv_at hl 2 rfl) ?_
            refine lv_iload_n S.1 S.2.1 dX5_excess_192 rfl (lv_at hl 3 rfl) ?_
            refine mx_cV (As := [.int (nI b)]) (rest := []) (st1 := [.long ((m_gtg t fp gr b))]) S hK hZ hA hm hW hS (c_X5_groupTagOf l G nu x z mo ma (m_outT t fp nl ng) b (m_gtg t fp gr b) (fp b) (gr b) hm (by simp [m_gtg, tF_uF, tF_uL, tF_uA, tF_uB, tL_uF, tL_uL, tL_uA, tL_uB, tA_uF, tA_uL, tA_uA, tA_uB, tB_uF, tB_uL, tB_uA, tB_uB, m_inT_F, m_inT_L, m_inT_A, m_inT_B, m_outT_F, m_outT_L, m_outT_A, m_outT_B, m_goes_A, m_goes_B, m_goes_L, m_goes_F]) (by omega) (by simp [tF_uF, tF_uL, tF_uA, tF_uB, tL_uF, tL_uL, tL_uA, tL_uB, tA_uF, tA_uL, tA_uA, tA_uB, tB_uF, tB_uL, tB_uA, tB_uB, m_inT_F, m_inT_L, m_inT_A, m_inT_B, m_outT_F, m_outT_L, m_outT_A, m_outT_B, m_goes_A, m_goes_B, m_goes_L, m_goes_F]; exact hbp.1) hbp.2 (by simp [tF_uF, tF_uL, tF_uA, tF_uB, tL_uF, tL_uL, tL_uA, tL_uB, tA_uF, tA_uL, tA_uA, tA_uB, tB_uF, tB_uL, tB_uA, tB_uB, m_inT_F, m_inT_L, m_inT_A, m_inT_B, m_outT_F, m_outT_L, m_outT_A, m_outT_B, m_goes_A, m_goes_B, m_goes_L, m_goes_F]; exact (hgr b (by omega)).1) (by have := (hgr b (by omega)).2; omega) (by simp [tF_uF, tF_uL, tF_uA, tF_uB, tL_uF, tL_uL, tL_uA, tL_uB, tA_uF, tA_uL, tA_uA, tA_uB, tB_uF, tB_uL, tB_uA, tB_uB, m_inT_F, m_inT_L, m_inT_A, m_inT_B, m_outT_F, m_outT_L, m_outT_A, m_outT_B, m_goes_A, m_goes_B, m_goes_L, m_goes_F]; exact hgw (gr b) (hgr b (by omega)).2)) (cwV 1 S.2.2.2.2 gX5_excess_X5_groupTagOf rfl rfl rfl (by decide +kernel) ⟨Nat.le_of_ble_eq_true rfl, Nat.le_of_ble_eq_true rfl⟩) rfl hl.1 rfl (Nat.le_of_ble_eq_true rfl) dX5_excess_193 ⟨Nat.le_of_ble_eq_true rfl, Nat.le_of_ble_eq_true rfl⟩ rfl (fun x H locs hm hW hS => ?_)
            refine lv_lstore (lv' := [(5, .long ((m_gtg t fp gr b))), (3, .long ((m_tg t fp b))), (2, .int (nI (gr b))), (0, .ref mo), (1, .int (nI b))]) S.1 S.2.1 dX5_excess_196 hl (by decide) rfl (fun ls hl => ?_)
            refine lv_aload_n S.1 S.2.1 dX5_excess_198 rfl (lv_at hl 3 rfl) ?_
            refine mx_gA S hK hm hW 27 iX5 rfl (by decide) (by decide) (by decide +kernel) dX5_excess_199 ?_
            refine lv_iload_n S.1 S.2.1 dX5_excess_202 rfl (lv_at hl 4 rfl) ?_
            refine lv_lload_n S.1 S.2.1 dX5_excess_203 rfl (lv_at hl 1 rfl) ?_
            refine mx_lst S hK hm hW hS 27 (by decide) (k := b) (kw_ixof (k := b) (n := 8) rfl (by omega) (by decide)) dX5_excess_204 (fun x H locs hm hW hS => ?_)
            refine lv_aload_n S.1 S.2.1 dX5_excess_205 rfl (lv_at hl 3 rfl) ?_
            refine mx_gA S hK hm hW 11 iX5 rfl (by decide) (by decide) (by decide +kernel) dX5_excess_206 ?_
            refine lv_iload_n S.1 S.2.1 dX5_excess_209 rfl (lv_at hl 2 rfl) ?_
            refine lv_aload_n S.1 S.2.1 dX5_excess_210 rfl (lv_at hl 3 rfl) ?_
            refine mx_gA S hK hm hW 11 iX5 rfl (by decide) (by decide) (by decide +kernel) dX5_excess_211 ?_
            refine lv_iload_n S.1 S.2.1 dX5_excess_214 rfl (lv_at hl 2 rfl) ?_
            refine mx_lld S hK hm hW 11 (by decide) (k := (gr b)) (kw_ixof (k := gr b) (n := 4) rfl (by omega) (by decide)) dX5_excess_215 (v := tB t 11 (gr b)) (by simp [tF_uF, tF_uL, tF_uA, tF_uB, tL_uF, tL_uL, tL_uA, tL_uB, tA_uF, tA_uL, tA_uA, tA_uB, tB_uF, tB_uL, tB_uA, tB_uB, m_inT_F, m_inT_L, m_inT_A, m_inT_B, m_outT_F, m_outT_L, m_outT_A, m_outT_B, m_goes_A, m_goes_B, m_goes_L, m_goes_F]) ?_
            refine lv_lload_n S.1 S.2.1 dX5_excess_216 rfl (lv_at hl 1 rfl) ?_
            refine kx_lc_ge (tgt := 225) S dX5_excess_217 dX5_excess_218 (by decide) (fun c7 => ?_) (fun c7 => ?_)
            · skip
              refine lv_aload_n S.1 S.2.1 dX5_excess_225 rfl (lv_at hl 3 rfl) ?_
              refine mx_gA S hK hm hW 11 iX5 rfl (by decide) (by decide) (by decide +kernel) dX5_excess_226 ?_
              refine lv_iload_n S.1 S.2.1 dX5_excess_229 rfl (lv_at hl 2 rfl) ?_
              refine mx_lld S hK hm hW 11 (by decide) (k := (gr b)) (kw_ixof (k := gr b) (n := 4) rfl (by omega) (by decide)) dX5_excess_230 (v := tB t 11 (gr b)) (by simp [tF_uF, tF_uL, tF_uA, tF_uB, tL_uF, tL_uL, tL_uA, tL_uB, tA_uF, tA_uL, tA_uA, tA_uB, tB_uF, tB_uL, tB_uA, tB_uB, m_inT_F, m_inT_L, m_inT_A, m_inT_B, m_outT_F, m_outT_L, m_outT_A, m_outT_B, m_goes_A, m_goes_B, m_goes_L, m_goes_F]) ?_
              refine mx_lst S hK hm hW hS 11 (by decide) (k := (gr b)) (kw_ixof (k := gr b) (n := 4) rfl (by omega) (by decide)) dX5_excess_231 (fun x H locs hm hW hS => ?_)
              refine lv_aload_n S.1 S.2.1 dX5_excess_232 rfl (lv_at hl 3 rfl) ?_
              refine mx_gA S hK hm hW 10 iX5 rfl (by decide) (by decide) (by decide +kernel) dX5_excess_233 ?_
              refine lv_iload_n S.1 S.2.1 dX5_excess_236 rfl (lv_at hl 2 rfl) ?_
              refine lv_lload S.1 S.2.1 dX5_excess_237 (lv_at hl 0 rfl) ?_
              refine mx_lst S hK hm hW hS 10 (by decide) (k := (gr b)) (kw_ixof (k := gr b) (n := 4) rfl (by omega) (by decide)) dX5_excess_239 (fun x H locs hm hW hS => ?_)
              refine lv_aload_n S.1 S.2.1 dX5_excess_240 rfl (lv_at hl 3 rfl) ?_
              refine lv_aload_n S.1 S.2.1 dX5_excess_241 rfl (lv_at hl 3 rfl) ?_
              refine mx_gJ S hK hm hW iX5 (by decide +kernel) dX5_excess_242 (v := tL t) (by simp [tF_uF, tF_uL, tF_uA, tF_uB, tL_uF, tL_uL, tL_uA, tL_uB, tA_uF, tA_uL, tA_uA, tA_uB, tB_uF, tB_uL, tB_uA, tB_uB, m_inT_F, m_inT_L, m_inT_A, m_inT_B, m_outT_F, m_outT_L, m_outT_A, m_outT_B, m_goes_A, m_goes_B, m_goes_L, m_goes_F]) ?_
              refine lv_lload S.1 S.2.1 dX5_excess_245 (lv_at hl 0 rfl) ?_
              refine kx_lc_ge (tgt := 256) S dX5_excess_247 dX5_excess_248 (by decide) (fun c8 => ?_) (fun c8 => ?_)
              · skip
                refine lv_aload_n S.1 S.2.1 dX5_excess_256 rfl (lv_at hl 3 rfl) ?_
                refine mx_gJ S hK hm hW iX5 (by decide +kernel) dX5_excess_257 (v := tL t) (by simp [tF_uF, tF_uL, tF_uA, tF_uB, tL_uF, tL_uL, tL_uA, tL_uB, tA_uF, tA_uL, tA_uA, tA_uB, tB_uF, tB_uL, tB_uA, tB_uB, m_inT_F, m_inT_L, m_inT_A, m_inT_B, m_outT_F, m_outT_L, m_outT_A, m_outT_B, m_goes_A, m_goes_B, m_goes_L, m_goes_F]) ?_
                refine mx_pJ S hK hm hW hS iX5 (by decide +kernel) dX5_excess_260 (fun x H locs hm hW hS => ?_)
                refine lv_aload_n S.1 S.2.1 dX5_excess_263 rfl (lv_at hl 3 rfl) ?_
                refine lv_iload_n S.1 S.2.1 dX5_excess_264 rfl (lv_at hl 4 rfl) ?_
                refine lv_iconst (v := 2) S.1 S.2.1 dX5_excess_265 (by decide) ?_
                refine mx_cV (As := [.int (nI b), .int (2)]) (rest := []) (st1 := [.int (nI (fp b))]) S hK hZ hA hm hW hS (c_X5_goes l G nu x z mo ma (uL (uB (uB (uB (m_outT t fp nl ng) 27 (b) ((m_tg t fp b))) 11 ((gr b)) (tB t 11 (gr b))) 10 ((gr b)) ((m_gtg t fp gr b))) (tL t)) b 2 (fp b) (gr b) nb hm (by omega) (by simp [tF_uF, tF_uL, tF_uA, tF_uB, tL_uF, tL_uL, tL_uA, tL_uB, tA_uF, tA_uL, tA_uA, tA_uB, tB_uF, tB_uL, tB_uA, tB_uB, m_inT_F, m_inT_L, m_inT_A, m_inT_B, m_outT_F, m_outT_L, m_outT_A, m_outT_B, m_goes_A, m_goes_B, m_goes_L, m_goes_F]; exact hbp.1) hbp.2 (by simp [tF_uF, tF_uL, tF_uA, tF_uB, tL_uF, tL_uL, tL_uA, tL_uB, tA_uF, tA_uL, tA_uA, tA_uB, tB_uF, tB_uL, tB_uA, tB_uB, m_inT_F, m_inT_L, m_inT_A, m_inT_B, m_outT_F, m_outT_L, m_outT_A, m_outT_B, m_goes_A, m_goes_B, m_goes_L, m_goes_F]; exact (hgr b (by omega)).1) (by have := (hgr b (by omega)).2; omega) (by simp [tF_uF, tF_uL, tF_uA, tF_uB, tL_uF, tL_uL, tL_uA, tL_uB, tA_uF, tA_uL, tA_uA, tA_uB, tB_uF, tB_uL, tB_uA, tB_uB, m_inT_F, m_inT_L, m_inT_A, m_inT_B, m_outT_F, m_outT_L, m_outT_A, m_outT_B, m_goes_A, m_goes_B, m_goes_L, m_goes_F]; exact hnb) hb9) (cwV 2 S.2.2.2.2 gX5_excess_X5_goes rfl rfl rfl (by decide +kernel) ⟨Nat.le_of_ble_eq_true rfl, Nat.le_of_ble_eq_true rfl⟩) rfl hl.1 rfl (Nat.le_of_ble_eq_true rfl) dX5_excess_266 ⟨Nat.le_of_ble_eq_true rfl, Nat.le_of_ble_eq_true rfl⟩ rfl (fun x H locs hm hW hS => ?_)
                refine lv_istore (lv' := [(7, .int (nI (fp b))), (5, .long ((m_gtg t fp gr b))), (3, .long ((m_tg t fp b))), (2, .int (nI (gr b))), (0, .ref mo), (1, .int (nI b))]) S.1 S.2.1 dX5_excess_269 hl (by decide) rfl (fun ls hl => ?_)
                refine lv_aload_n S.1 S.2.1 dX5_excess_271 rfl (lv_at hl 4 rfl) ?_
                refine mx_gA S hK hm hW 22 iX5 rfl (by decide) (by decide) (by decide +kernel) dX5_excess_272 ?_
                refine lv_iload_n S.1 S.2.1 dX5_excess_275 rfl (lv_at hl 5 rfl) ?_
                refine lv_dup2_11 S.1 S.2.1 dX5_excess_276 rfl rfl ?_
                refine mx_ild S hK hm hW 22 (by decide) (k := b) (kw_ixof (k := b) (n := 8) rfl (by omega) (by decide)) dX5_excess_277 (v := tA t 22 b) (by simp [tF_uF, tF_uL, tF_uA, tF_uB, tL_uF, tL_uL, tL_uA, tL_uB, tA_uF, tA_uL, tA_uA, tA_uB, tB_uF, tB_uL, tB_uA, tB_uB, m_inT_F, m_inT_L, m_inT_A, m_inT_B, m_outT_F, m_outT_L, m_outT_A, m_outT_B, m_goes_A, m_goes_B, m_goes_L, m_goes_F]) ?_
                refine lv_aload_n S.1 S.2.1 dX5_excess_278 rfl (lv_at hl 4 rfl) ?_
                refine mx_gA S hK hm hW 34 iX5 rfl (by decide) (by decide) (by decide +kernel) dX5_excess_279 ?_
                refine lv_iload S.1 S.2.1 dX5_excess_282 (lv_at hl 0 rfl) ?_
                refine mx_ild S hK hm hW 34 (by decide) (k := (fp b)) (kw_ixof (k := fp b) (n := 1000) rfl (by omega) (by decide)) dX5_excess_284 (v := tA t 34 (fp b)) (by simp [tF_uF, tF_uL, tF_uA, tF_uB, tL_uF, tL_uL, tL_uA, tL_uB, tA_uF, tA_uL, tA_uA, tA_uB, tB_uF, tB_uL, tB_uA, tB_uB, m_inT_F, m_inT_L, m_inT_A, m_inT_B, m_outT_F, m_outT_L, m_outT_A, m_outT_B, m_goes_A, m_goes_B, m_goes_L, m_goes_F]) ?_
                refine lv_iadd S.1 S.2.1 dX5_excess_285 ?_
                refine mx_ist S hK hm hW hS 22 (by decide) (k := b) (kw_ixof (k := b) (n := 8) rfl (by omega) (by decide)) dX5_excess_286 (fun x H locs hm hW hS => ?_)
                rw [hQQ]
                refine kw_vret S hr hlk hW hS (by decide) (by decide) dX5_excess_287 ?_
                refine ⟨?_, rfl, hm.to ?_⟩ <;> first | rfl | (simp [m_excess, m_xs, hbo.symm, c6, c7, c8, kw_b]; done) | (simp [m_excess, m_xs, hbo.symm, c6, c7, c8, kw_b, tF_uF, tF_uL, tF_uA, tF_uB, tL_uF, tL_uL, tL_uA, tL_uB, tA_uF, tA_uL, tA_uA, tA_uB, tB_uF, tB_uL, tB_uA, tB_uB, m_inT_F, m_inT_L, m_inT_A, m_inT_B, m_outT_F, m_outT_L, m_outT_A, m_outT_B, m_goes_A, m_goes_B, m_goes_L, m_goes_F]; done) | contradiction
              · skip
                refine lv_lload S.1 S.2.1 dX5_excess_251 (lv_at hl 0 rfl) ?_
                refine lv_goto (tgt := 260) S.1 S.2.1 dX5_excess_253 (by decide) ?_
                refine mx_pJ S hK hm hW hS iX5 (by decide +kernel) dX5_excess_260 (fun x H locs hm hW hS => ?_)
                refine lv_aload_n S.1 S.2.1 dX5_excess_263 rfl (lv_at hl 3 rfl) ?_
                refine lv_iload_n S.1 S.2.1 dX5_excess_264 rfl (lv_at hl 4 rfl) ?_
                refine lv_iconst (v := 2) S.1 S.2.1 dX5_excess_265 (by decide) ?_
                refine mx_cV (As := [.int (nI b), .int (2)]) (rest := []) (st1 := [.int (nI (fp b))]) S hK hZ hA hm hW hS (c_X5_goes l G nu x z mo ma (uL (uB (uB (uB (m_outT t fp nl ng) 27 (b) ((m_tg t fp b))) 11 ((gr b)) (tB t 11 (gr b))) 10 ((gr b)) ((m_gtg t fp gr b))) ((m_gtg t fp gr b))) b 2 (fp b) (gr b) nb hm (by omega) (by simp [tF_uF, tF_uL, tF_uA, tF_uB, tL_uF, tL_uL, tL_uA, tL_uB, tA_uF, tA_uL, tA_uA, tA_uB, tB_uF, tB_uL, tB_uA, tB_uB, m_inT_F, m_inT_L, m_inT_A, m_inT_B, m_outT_F, m_outT_L, m_outT_A, m_outT_B, m_goes_A, m_goes_B, m_goes_L, m_goes_F]; exact hbp.1) hbp.2 (by simp [tF_uF, tF_uL, tF_uA, tF_uB, tL_uF, tL_uL, tL_uA, tL_uB, tA_uF, tA_uL, tA_uA, tA_uB, tB_uF, tB_uL, tB_uA, tB_uB, m_inT_F, m_inT_L, m_inT_A, m_inT_B, m_outT_F, m_outT_L, m_outT_A, m_outT_B, m_goes_A, m_goes_B, m_goes_L, m_goes_F]; exact (hgr b (by omega)).1) (by have := (hgr b (by omega)).2; omega) (by simp [tF_uF, tF_uL, tF_uA, tF_uB, tL_uF, tL_uL, tL_uA, tL_uB, tA_uF, tA_uL, tA_uA, tA_uB, tB_uF, tB_uL, tB_uA, tB_uB, m_inT_F, m_inT_L, m_inT_A, m_inT_B, m_outT_F, m_outT_L, m_outT_A, m_outT_B, m_goes_A, m_goes_B, m_goes_L, m_goes_F]; exact hnb) hb9) (cwV 2 S.2.2.2.2 gX5_excess_X5_goes rfl rfl rfl (by decide +kernel) ⟨Nat.le_of_ble_eq_true rfl, Nat.le_of_ble_eq_true rfl⟩) rfl hl.1 rfl (Nat.le_of_ble_eq_true rfl) dX5_excess_266 ⟨Nat.le_of_ble_eq_true rfl, Nat.le_of_ble_eq_true rfl⟩ rfl (fun x H locs hm hW hS => ?_)
                refine lv_istore (lv' := [(7, .int (nI (fp b))), (5, .long ((m_gtg t fp gr b))), (3, .long ((m_tg t fp b))), (2, .int (nI (gr b))), (0, .ref mo), (1, .int (nI b))]) S.1 S.2.1 dX5_excess_269 hl (by decide) rfl (fun ls hl => ?_)
                refine lv_aload_n S.1 S.2.1 dX5_excess_271 rfl (lv_at hl 4 rfl) ?_
                refine mx_gA S hK hm hW 22 iX5 rfl (by decide) (by decide) (by decide +kernel) dX5_excess_272 ?_
                refine lv_iload_n S.1 S.2.1 dX5_excess_275 rfl (lv_at hl 5 rfl) ?_
                refine lv_dup2_11 S.1 S.2.1 dX5_excess_276 rfl rfl ?_
                refine mx_ild S hK hm hW 22 (by decide) (k := b) (kw_ixof (k := b) (n := 8) rfl (by omega) (by decide)) dX5_excess_277 (v := tA t 22 b) (by simp [tF_uF, tF_uL, tF_uA, tF_uB, tL_uF, tL_uL, tL_uA, tL_uB, tA_uF, tA_uL, tA_uA, tA_uB, tB_uF, tB_uL, tB_uA, tB_uB, m_inT_F, m_inT_L, m_inT_A, m_inT_B, m_outT_F, m_outT_L, m_outT_A, m_outT_B, m_goes_A, m_goes_B, m_goes_L, m_goes_F]) ?_
                refine lv_aload_n S.1 S.2.1 dX5_excess_278 rfl (lv_at hl 4 rfl) ?_
                refine mx_gA S hK hm hW 34 iX5 rfl (by decide) (by decide) (by decide +kernel) dX5_excess_279 ?_
                refine lv_iload S.1 S.2.1 dX5_excess_282 (lv_at hl 0 rfl) ?_
                refine mx_ild S hK hm hW 34 (by decide) (k := (fp b)) (kw_ixof (k := fp b) (n := 1000) rfl (by omega) (by decide)) dX5_excess_284 (v := tA t 34 (fp b)) (by simp [tF_uF, tF_uL, tF_uA, tF_uB, tL_uF, tL_uL, tL_uA, tL_uB, tA_uF, tA_uL, tA_uA, tA_uB, tB_uF, tB_uL, tB_uA, tB_uB, m_inT_F, m_inT_L, m_inT_A, m_inT_B, m_outT_F, m_outT_L, m_outT_A, m_outT_B, m_goes_A, m_goes_B, m_goes_L, m_goes_F]) ?_
                refine lv_iadd S.1 S.2.1 dX5_excess_285 ?_
                refine mx_ist S hK hm hW hS 22 (by decide) (k := b) (kw_ixof (k := b) (n := 8) rfl (by omega) (by decide)) dX5_excess_286 (fun x H locs hm hW hS => ?_)
                rw [hQQ]
                refine kw_vret S hr hlk hW hS (by decide) (by decide) dX5_excess_287 ?_
                refine ⟨?_, rfl, hm.to ?_⟩ <;> first | rfl | (simp [m_excess, m_xs, hbo.symm, c6, c7, c8, kw_b]; done) | (simp [m_excess, m_xs, hbo.symm, c6, c7, c8, kw_b, tF_uF, tF_uL, tF_uA, tF_uB, tL_uF, tL_uL, tL_uA, tL_uB, tA_uF, tA_uL, tA_uA, tA_uB, tB_uF, tB_uL, tB_uA, tB_uB, m_inT_F, m_inT_L, m_inT_A, m_inT_B, m_outT_F, m_outT_L, m_outT_A, m_outT_B, m_goes_A, m_goes_B, m_goes_L, m_goes_F]; done) | contradiction
            · skip
              refine lv_lload_n S.1 S.2.1 dX5_excess_221 rfl (lv_at hl 1 rfl) ?_
              refine lv_goto (tgt := 231) S.1 S.2.1 dX5_excess_222 (by decide) ?_
              refine mx_lst S hK hm hW hS 11 (by decide) (k := (gr b)) (kw_ixof (k := gr b) (n := 4) rfl (by omega) (by decide)) dX5_excess_231 (fun x H locs hm hW hS => ?_)
              refine lv_aload_n S.1 S.2.1 dX5_excess_232 rfl (lv_at hl 3 rfl) ?_
              refine mx_gA S hK hm hW 10 iX5 rfl (by decide) (by decide) (by decide +kernel) dX5_excess_233 ?_
              refine lv_iload_n S.1 S.2.1 dX5_excess_236 rfl (lv_at hl 2 rfl) ?_
              refine lv_lload S.1 S.2.1 dX5_excess_237 (lv_at hl 0 rfl) ?_
              refine mx_lst S hK hm hW hS 10 (by decide) (k := (gr b)) (kw_ixof (k := gr b) (n := 4) rfl (by omega) (by decide)) dX5_excess_239 (fun x H locs hm hW hS => ?_)
              refine lv_aload_n S.1 S.2.1 dX5_excess_240 rfl (lv_at hl 3 rfl) ?_
              refine lv_aload_n S.1 S.2.1 dX5_excess_241 rfl (lv_at hl 3 rfl) ?_
              refine mx_gJ S hK hm hW iX5 (by decide +kernel) dX5_excess_242 (v := tL t) (by simp [tF_uF, tF_uL, tF_uA, tF_uB, tL_uF, tL_uL, tL_uA, tL_uB, tA_uF, tA_uL, tA_uA, tA_uB, tB_uF, tB_uL, tB_uA, tB_uB, m_inT_F, m_inT_L, m_inT_A, m_inT_B, m_outT_F, m_outT_L, m_outT_A, m_outT_B, m_goes_A, m_goes_B, m_goes_L, m_goes_F]) ?_
              refine lv_lload S.1 S.2.1 dX5_excess_245 (lv_at hl 0 rfl) ?_
              refine kx_lc_ge (tgt := 256) S dX5_excess_247 dX5_excess_248 (by decide) (fun c9 => ?_) (fun c9 => ?_)
              · skip
                refine lv_aload_n S.1 S.2.1 dX5_excess_256 rfl (lv_at hl 3 rfl) ?_
                refine mx_gJ S hK hm hW iX5 (by decide +kernel) dX5_excess_257 (v := tL t) (by simp [tF_uF, tF_uL, tF_uA, tF_uB, tL_uF, tL_uL, tL_uA, tL_uB, tA_uF, tA_uL, tA_uA, tA_uB, tB_uF, tB_uL, tB_uA, tB_uB, m_inT_F, m_inT_L, m_inT_A, m_inT_B, m_outT_F, m_outT_L, m_outT_A, m_outT_B, m_goes_A, m_goes_B, m_goes_L, m_goes_F]) ?_
                refine mx_pJ S hK hm hW hS iX5 (by decide +kernel) dX5_excess_260 (fun x H locs hm hW hS => ?_)
                refine lv_aload_n S.1 S.2.1 dX5_excess_263 rfl (lv_at hl 3 rfl) ?_
                refine lv_iload_n S.1 S.2.1 dX5_excess_264 rfl (lv_at hl 4 rfl) ?_
                refine lv_iconst (v := 2) S.1 S.2.1 dX5_excess_265 (by decide) ?_
                refine mx_cV (As := [.int (nI b), .int (2)]) (rest := []) (st1 := [.int (nI (fp b))]) S hK hZ hA hm hW hS (c_X5_goes l G nu x z mo ma (uL (uB (uB (uB (m_outT t fp nl ng) 27 (b) ((m_tg t fp b))) 11 ((gr b)) ((m_tg t fp b))) 10 ((gr b)) ((m_gtg t fp gr b))) (tL t)) b 2 (fp b) (gr b) nb hm (by omega) (by simp [tF_uF, tF_uL, tF_uA, tF_uB, tL_uF, tL_uL, tL_uA, tL_uB, tA_uF, tA_uL, tA_uA, tA_uB, tB_uF, tB_uL, tB_uA, tB_uB, m_inT_F, m_inT_L, m_inT_A, m_inT_B, m_outT_F, m_outT_L, m_outT_A, m_outT_B, m_goes_A, m_goes_B, m_goes_L, m_goes_F]; exact hbp.1) hbp.2 (by simp [tF_uF, tF_uL, tF_uA, tF_uB, tL_uF, tL_uL, tL_uA, tL_uB, tA_uF, tA_uL, tA_uA, tA_uB, tB_uF, tB_uL, tB_uA, tB_uB, m_inT_F, m_inT_L, m_inT_A, m_inT_B, m_outT_F, m_outT_L, m_outT_A, m_outT_B, m_goes_A, m_goes_B, m_goes_L, m_goes_F]; exact (hgr b (by omega)).1) (by have := (hgr b (by omega)).2; omega) (by simp [tF_uF, tF_uL, tF_uA, tF_uB, tL_uF, tL_uL, tL_uA, tL_uB, tA_uF, tA_uL, tA_uA, tA_uB, tB_uF, tB_uL, tB_uA, tB_uB, m_inT_F, m_inT_L, m_inT_A, m_inT_B, m_outT_F, m_outT_L, m_outT_A, m_outT_B, m_goes_A, m_goes_B, m_goes_L, m_goes_F]; exact hnb) hb9) (cwV 2 S.2.2.2.2 gX5_excess_X5_goes rfl rfl rfl (by decide +kernel) ⟨Nat.le_of_ble_eq_true rfl, Nat.le_of_ble_eq_true rfl⟩) rfl hl.1 rfl (Nat.le_of_ble_eq_true rfl) dX5_excess_266 ⟨Nat.le_of_ble_eq_true rfl, Nat.le_of_ble_eq_true rfl⟩ rfl (fun x H locs hm hW hS => ?_)
                refine lv_istore (lv' := [(7, .int (nI (fp b))), (5, .long ((m_gtg t fp gr b))), (3, .long ((m_tg t fp b))), (2, .int (nI (gr b))), (0, .ref mo), (1, .int (nI b))]) S.1 S.2.1 dX5_excess_269 hl (by decide) rfl (fun ls hl => ?_)
                refine lv_aload_n S.1 S.2.1 dX5_excess_271 rfl (lv_at hl 4 rfl) ?_
                refine mx_gA S hK hm hW 22 iX5 rfl (by decide) (by decide) (by decide +kernel) dX5_excess_272 ?_
                refine lv_iload_n S.1 S.2.1 dX5_excess_275 rfl (lv_at hl 5 rfl) ?_
                refine lv_dup2_11 S.1 S.2.1 dX5_excess_276 rfl rfl ?_
                refine mx_ild S hK hm hW 22 (by decide) (k := b) (kw_ixof (k := b) (n := 8) rfl (by omega) (by decide)) dX5_excess_277 (v := tA t 22 b) (by simp [tF_uF, tF_uL, tF_uA, tF_uB, tL_uF, tL_uL, tL_uA, tL_uB, tA_uF, tA_uL, tA_uA, tA_uB, tB_uF, tB_uL, tB_uA, tB_uB, m_inT_F, m_inT_L, m_inT_A, m_inT_B, m_outT_F, m_outT_L, m_outT_A, m_outT_B, m_goes_A, m_goes_B, m_goes_L, m_goes_F]) ?_
                refine lv_aload_n S.1 S.2.1 dX5_excess_278 rfl (lv_at hl 4 rfl) ?_
                refine mx_gA S hK hm hW 34 iX5 rfl (by decide) (by decide) (by decide +kernel) dX5_excess_279 ?_
                refine lv_iload S.1 S.2.1 dX5_excess_282 (lv_at hl 0 rfl) ?_
                refine mx_ild S hK hm hW 34 (by decide) (k := (fp b)) (kw_ixof (k := fp b) (n := 1000) rfl (by omega) (by decide)) dX5_excess_284 (v := tA t 34 (fp b)) (by simp [tF_uF, tF_uL, tF_uA, tF_uB, tL_uF, tL_uL, tL_uA, tL_uB, tA_uF, tA_uL, tA_uA, tA_uB, tB_uF, tB_uL, tB_uA, tB_uB, m_inT_F, m_inT_L, m_inT_A, m_inT_B, m_outT_F, m_outT_L, m_outT_A, m_outT_B, m_goes_A, m_goes_B, m_goes_L, m_goes_F]) ?_
                refine lv_iadd S.1 S.2.1 dX5_excess_285 ?_
                refine mx_ist S hK hm hW hS 22 (by decide) (k := b) (kw_ixof (k := b) (n := 8) rfl (by omega) (by decide)) dX5_excess_286 (fun x H locs hm hW hS => ?_)
                rw [hQQ]
                refine kw_vret S hr hlk hW hS (by decide) (by decide) dX5_excess_287 ?_
                refine ⟨?_, rfl, hm.to ?_⟩ <;> first | rfl | (simp [m_excess, m_xs, hbo.symm, c6, c7, c9, kw_b]; done) | (simp [m_excess, m_xs, hbo.symm, c6, c7, c9, kw_b, tF_uF, tF_uL, tF_uA, tF_uB, tL_uF, tL_uL, tL_uA, tL_uB, tA_uF, tA_uL, tA_uA, tA_uB, tB_uF, tB_uL, tB_uA, tB_uB, m_inT_F, m_inT_L, m_inT_A, m_inT_B, m_outT_F, m_outT_L, m_outT_A, m_outT_B, m_goes_A, m_goes_B, m_goes_L, m_goes_F]; done) | contradiction
              · skip
                refine lv_lload S.1 S.2.1 dX5_excess_251 (lv_at hl 0 rfl) ?_
                refine lv_goto (tgt := 260) S.1 S.2.1 dX5_excess_253 (by decide) ?_
                refine mx_pJ S hK hm hW hS iX5 (by decide +kernel) dX5_excess_260 (fun x H locs hm hW hS => ?_)
                refine lv_aload_n S.1 S.2.1 dX5_excess_263 rfl (lv_at hl 3 rfl) ?_
                refine lv_iload_n S.1 S.2.1 dX5_excess_264 rfl (lv_at hl 4 rfl) ?_
                refine lv_iconst (v := 2) S.1 S.2.1 dX5_excess_265 (by decide) ?_
                refine mx_cV (As := [.int (nI b), .int (2)]) (rest := []) (st1 := [.int (nI (fp b))]) S hK hZ hA hm hW hS (c_X5_goes l G nu x z mo ma (uL (uB (uB (uB (m_outT t fp nl ng) 27 (b) ((m_tg t fp b))) 11 ((gr b)) ((m_tg t fp b))) 10 ((gr b)) ((m_gtg t fp gr b))) ((m_gtg t fp gr b))) b 2 (fp b) (gr b) nb hm (by omega) (by simp [tF_uF, tF_uL, tF_uA, tF_uB, tL_uF, tL_uL, tL_uA, tL_uB, tA_uF, tA_uL, tA_uA, tA_uB, tB_uF, tB_uL, tB_uA, tB_uB, m_inT_F, m_inT_L, m_inT_A, m_inT_B, m_outT_F, m_outT_L, m_outT_A, m_outT_B, m_goes_A, m_goes_B, m_goes_L, m_goes_F]; exact hbp.1) hbp.2 (by simp [tF_uF, tF_uL, tF_uA, tF_uB, tL_uF, tL_uL, tL_uA, tL_uB, tA_uF, tA_uL, tA_uA, tA_uB, tB_uF, tB_uL, tB_uA, tB_uB, m_inT_F, m_inT_L, m_inT_A, m_inT_B, m_outT_F, m_outT_L, m_outT_A, m_outT_B, m_goes_A, m_goes_B, m_goes_L, m_goes_F]; exact (hgr b (by omega)).1) (by have := (hgr b (by omega)).2; omega) (by simp [tF_uF, tF_uL, tF_uA, tF_uB, tL_uF, tL_uL, tL_uA, tL_uB, tA_uF, tA_uL, tA_uA, tA_uB, tB_uF, tB_uL, tB_uA, tB_uB, m_inT_F, m_inT_L, m_inT_A, m_inT_B, m_outT_F, m_outT_L, m_outT_A, m_outT_B, m_goes_A, m_goes_B, m_goes_L, m_goes_F]; exact hnb) hb9) (cwV 2 S.2.2.2.2 gX5_excess_X5_goes rfl rfl rfl (by decide +kernel) ⟨Nat.le_of_ble_eq_true rfl, Nat.le_of_ble_eq_true rfl⟩) rfl hl.1 rfl (Nat.le_of_ble_eq_true rfl) dX5_excess_266 ⟨Nat.le_of_ble_eq_true rfl, Nat.le_of_ble_eq_true rfl⟩ rfl (fun x H locs hm hW hS => ?_)
                refine lv_istore (lv' := [(7, .int (nI (fp b))), (5, .long ((m_gtg t fp gr b))), (3, .long ((m_tg t fp b))), (2, .int (nI (gr b))), (0, .ref mo), (1, .int (nI b))]) S.1 S.2.1 dX5_excess_269 hl (by decide) rfl (fun ls hl => ?_)
                refine lv_aload_n S.1 S.2.1 dX5_excess_271 rfl (lv_at hl 4 rfl) ?_
                refine mx_gA S hK hm hW 22 iX5 rfl (by decide) (by decide) (by decide +kernel) dX5_excess_272 ?_
                refine lv_iload_n S.1 S.2.1 dX5_excess_275 rfl (lv_at hl 5 rfl) ?_
                refine lv_dup2_11 S.1 S.2.1 dX5_excess_276 rfl rfl ?_
                refine mx_ild S hK hm hW 22 (by decide) (k := b) (kw_ixof (k := b) (n := 8) rfl (by omega) (by decide)) dX5_excess_277 (v := tA t 22 b) (by simp [tF_uF, tF_uL, tF_uA, tF_uB, tL_uF, tL_uL, tL_uA, tL_uB, tA_uF, tA_uL, tA_uA, tA_uB, tB_uF, tB_uL, tB_uA, tB_uB, m_inT_F, m_inT_L, m_inT_A, m_inT_B, m_outT_F, m_outT_L, m_outT_A, m_outT_B, m_goes_A, m_goes_B, m_goes_L, m_goes_F]) ?_
                refine lv_aload_n S.1 S.2.1 dX5_excess_278 rfl (lv_at hl 4 rfl) ?_
                refine mx_gA S hK hm hW 34 iX5 rfl (by decide) (by decide) (by decide +kernel) dX5_excess_279 ?_
                refine lv_iload S.1 S.2.1 dX5_excess_282 (lv_at hl 0 rfl) ?_
                refine mx_ild S hK hm hW 34 (by decide) (k := (fp b)) (kw_ixof (k := fp b) (n := 1000) rfl (by omega) (by decide)) dX5_excess_284 (v := tA t 34 (fp b)) (by simp [tF_uF, tF_uL, tF_uA, tF_uB, tL_uF, tL_uL, tL_uA, tL_uB, tA_uF, tA_uL, tA_uA, tA_uB, tB_uF, tB_uL, tB_uA, tB_uB, m_inT_F, m_inT_L, m_inT_A, m_inT_B, m_outT_F, m_outT_L, m_outT_A, m_outT_B, m_goes_A, m_goes_B, m_goes_L, m_goes_F]) ?_
                refine lv_iadd S.1 S.2.1 dX5_excess_285 ?_
                refine mx_ist S hK hm hW hS 22 (by decide) (k := b) (kw_ixof (k := b) (n := 8) rfl (by omega) (by decide)) dX5_excess_286 (fun x H locs hm hW hS => ?_)
                rw [hQQ]
                refine kw_vret S hr hlk hW hS (by decide) (by decide) dX5_excess_287 ?_
                refine ⟨?_, rfl, hm.to ?_⟩ <;> first | rfl | (simp [m_excess, m_xs, hbo.symm, c6, c7, c9, kw_b]; done) | (simp [m_excess, m_xs, hbo.symm, c6, c7, c9, kw_b, tF_uF, tF_uL, tF_uA, tF_uB, tL_uF, tL_uL, tL_uA, tL_uB, tA_uF, tA_uL, tA_uA, tA_uB, tB_uF, tB_uL, tB_uA, tB_uB, m_inT_F, m_inT_L, m_inT_A, m_inT_B, m_outT_F, m_outT_L, m_outT_A, m_outT_B, m_goes_A, m_goes_B, m_goes_L, m_goes_F]; done) | contradiction
          · skip
            exact absurd (by first | exact c6 | exact Classical.not_not.mp c6) (nI_nm1 (by omega))
        · skip
          exact absurd (nI_le (a := ng) (b := gg) (by omega) (by omega)) c4
    | succ dn ihlpo =>
      intro gg bo hndgg hbo x H locs ls hm hW hS hl
      rcases bo with _ | b
      · skip
        have hl : lv_has ls 8 [(0, .ref mo), (1, .int (-1)), (2, .int (nI gg))] := hl
        refine lv_iload_n S.1 S.2.1 dX5_excess_4 rfl (lv_at hl 2 rfl) ?_
        refine lv_aload_n S.1 S.2.1 dX5_excess_5 rfl (lv_at hl 0 rfl) ?_
        refine mx_gI S hK hm hW 2 iX5 rfl (by decide) (by decide +kernel) dX5_excess_6 (v := nI ng) (Eq.trans (b := tF t 2) (by simp [tF_uF, tF_uL, tF_uA, tF_uB, tL_uF, tL_uL, tL_uA, tL_uB, tA_uF, tA_uL, tA_uA, tA_uB, tB_uF, tB_uL, tB_uA, tB_uB, m_inT_F, m_inT_L, m_inT_A, m_inT_B, m_outT_F, m_outT_L, m_outT_A, m_outT_B, m_goes_A, m_goes_B, m_goes_L, m_goes_F]) hng) ?_
        refine lv_icmp_ge (tgt := 172) S.1 S.2.1 dX5_excess_9 (by decide) (fun c10 => ?_) (fun c10 => ?_)
        · skip
          exact absurd c10 (nI_ge (a := gg) (b := ng) (by omega) (by omega))
        · skip
          refine lv_iconst (v := (-1)) S.1 S.2.1 dX5_excess_12 (by decide) ?_
          refine lv_istore_n (lv' := [(3, .int (-1)), (0, .ref mo), (1, .int (-1)), (2, .int (nI gg))]) S.1 S.2.1 dX5_excess_13 rfl hl (by decide) rfl (fun ls hl => ?_)
          refine lv_iconst (v := 0) S.1 S.2.1 dX5_excess_14 (by decide) ?_
          refine lv_istore (lv' := [(4, .int (0)), (3, .int (-1)), (0, .ref mo), (1, .int (-1)), (2, .int (nI gg))]) S.1 S.2.1 dX5_excess_15 hl (by decide) rfl (fun ls hl => ?_)
          have lpi : ∀ (dn n : Nat) (io : Option Nat), n + dn = nl → (io = m_am (m_exf t fp gg) (m_exl t fp) n) → ∀ (x : kw_St) (H : Heap) (locs : List Loc) (ls : Array Slot), mw nu z mo ma (m_inT t fp gg (m_outT t fp nl gg) n) x → kw_W G A nu x H → va_S A s.heap H locs → lv_has ls 8 [(0, .ref mo), (1, .int (-1)), (2, .int (nI gg)), (3, .int (m_ob io)), (4, .int (nI n))] → W p l e { frames := 1, cells := 0, slots := 0, locals := 23 } s m args below meth c H locs 0 0 QQ (F0 m 17 ls []) := by
            intro dn
            induction dn with
            | zero =>
              intro n io hndn hio x H locs ls hm hW hS hl
              rcases io with _ | a
              · skip
                have hl : lv_has ls 8 [(0, .ref mo), (1, .int (-1)), (2, .int (nI gg)), (3, .int (-1)), (4, .int (nI n))] := hl
                refine lv_iload S.1 S.2.1 dX5_excess_17 (lv_at hl 4 rfl) ?_
                refine lv_aload_n S.1 S.2.1 dX5_excess_19 rfl (lv_at hl 0 rfl) ?_
                refine mx_gI S hK hm hW 3 iX5 rfl (by decide) (by decide +kernel) dX5_excess_20 (v := nI nl) (Eq.trans (b := tF t 3) (by simp [tF_uF, tF_uL, tF_uA, tF_uB, tL_uF, tL_uL, tL_uA, tL_uB, tA_uF, tA_uL, tA_uA, tA_uB, tB_uF, tB_uL, tB_uA, tB_uB, m_inT_F, m_inT_L, m_inT_A, m_inT_B, m_outT_F, m_outT_L, m_outT_A, m_outT_B, m_goes_A, m_goes_B, m_goes_L, m_goes_F, m_inT_F, m_inT_L, m_inT_A, m_inT_B, m_outT_F, m_outT_L, m_outT_A, m_outT_B, m_goes_A, m_goes_B, m_goes_L, m_goes_F]) hnl) ?_
                refine lv_icmp_ge (tgt := 140) S.1 S.2.1 dX5_excess_23 (by decide) (fun c11 => ?_) (fun c11 => ?_)
                · skip
                  have hnn12 : nl = n := by omega
                  subst hnn12
                  refine lv_iload_n S.1 S.2.1 dX5_excess_140 rfl (lv_at hl 3 rfl) ?_
                  refine lv_iconst (v := (-1)) S.1 S.2.1 dX5_excess_141 (by decide) ?_
                  refine lv_icmp_eq (tgt := 166) S.1 S.2.1 dX5_excess_142 (by decide) (fun c13 => ?_) (fun c13 => ?_)
                  · skip
                    refine lv_iinc (v := nI (gg + 1)) (lv' := [(2, .int (nI (gg + 1))), (0, .ref mo), (1, .int (-1)), (3, .int (-1)), (4, .int (nI nl))]) S.1 S.2.1 dX5_excess_166 hl (k := 2) rfl (nI_1 _) (by decide) rfl (fun ls hl => ?_)
                    refine lv_goto (tgt := 4) S.1 S.2.1 dX5_excess_169 (by decide) ?_
                    exact ihlpo (gg + 1) none (by omega) (by simp [m_best, m_its1, hio.symm, hbo.symm, c10, eq_true c13]) x _ _ ls (hm.to rfl) hW hS (lv_conv (lv_sub hl [1, 2, 0] rfl) (congr (congrArg List.cons rfl) (congr (congrArg List.cons (congrArg (fun z9 => ((1 : Nat), Value.int z9)) (show (-1 : Int32) = m_ob none from by first | rfl | (rfl)))) (congr (congrArg List.cons rfl) rfl))))
                  · skip
                    exact absurd c13 (by decide)
                · skip
                  exact absurd (nI_le (a := nl) (b := n) (by omega) (by omega)) c11
              · skip
                have hl : lv_has ls 8 [(0, .ref mo), (1, .int (-1)), (2, .int (nI gg)), (3, .int (nI a)), (4, .int (nI n))] := hl
                obtain ⟨ha1, ha2⟩ := m_am_some hio.symm
                have haw : ¬ tA t 19 a = 0 := by have h := ha2; simp [m_exf, m_wt] at h; exact h.1.2
                have hap := hfp a (by omega) haw
                refine lv_iload S.1 S.2.1 dX5_excess_17 (lv_at hl 4 rfl) ?_
                refine lv_aload_n S.1 S.2.1 dX5_excess_19 rfl (lv_at hl 0 rfl) ?_
                refine mx_gI S hK hm hW 3 iX5 rfl (by decide) (by decide +kernel) dX5_excess_20 (v := nI nl) (Eq.trans (b := tF t 3) (by simp [tF_uF, tF_uL, tF_uA, tF_uB, tL_uF, tL_uL, tL_uA, tL_uB, tA_uF, tA_uL, tA_uA, tA_uB, tB_uF, tB_uL, tB_uA, tB_uB, m_inT_F, m_inT_L, m_inT_A, m_inT_B, m_outT_F, m_outT_L, m_outT_A, m_outT_B, m_goes_A, m_goes_B, m_goes_L, m_goes_F, m_inT_F, m_inT_L, m_inT_A, m_inT_B, m_outT_F, m_outT_L, m_outT_A, m_outT_B, m_goes_A, m_goes_B, m_goes_L, m_goes_F]) hnl) ?_
                refine lv_icmp_ge (tgt := 140) S.1 S.2.1 dX5_excess_23 (by decide) (fun c14 => ?_) (fun c14 => ?_)
                · skip
                  have hnn15 : nl = n := by omega
                  subst hnn15
                  refine lv_iload_n S.1 S.2.1 dX5_excess_140 rfl (lv_at hl 3 rfl) ?_
                  refine lv_iconst (v := (-1)) S.1 S.2.1 dX5_excess_141 (by decide) ?_
                  refine lv_icmp_eq (tgt := 166) S.1 S.2.1 dX5_excess_142 (by decide) (fun c16 => ?_) (fun c16 => ?_)
                  · skip
                    exact absurd (by first | exact c16 | exact Classical.not_not.mp c16) (nI_nm1 (by omega))
                  · skip
                    refine lv_iload_n S.1 S.2.1 dX5_excess_145 rfl (lv_at hl 1 rfl) ?_
                    refine lv_iconst (v := (-1)) S.1 S.2.1 dX5_excess_146 (by decide) ?_
                    refine lv_icmp_eq (tgt := 164) S.1 S.2.1 dX5_excess_147 (by decide) (fun c17 => ?_) (fun c17 => ?_)
                    · skip
                      refine lv_iload_n S.1 S.2.1 dX5_excess_164 rfl (lv_at hl 3 rfl) ?_
                      refine lv_istore_n (lv' := [(1, .int (nI a)), (0, .ref mo), (2, .int (nI gg)), (3, .int (nI a)), (4, .int (nI nl))]) S.1 S.2.1 dX5_excess_165 rfl hl (by decide) rfl (fun ls hl => ?_)
                      refine lv_iinc (v := nI (gg + 1)) (lv' := [(2, .int (nI (gg + 1))), (1, .int (nI a)), (0, .ref mo), (3, .int (nI a)), (4, .int (nI nl))]) S.1 S.2.1 dX5_excess_166 hl (k := 2) rfl (nI_1 _) (by decide) rfl (fun ls hl => ?_)
                      refine lv_goto (tgt := 4) S.1 S.2.1 dX5_excess_169 (by decide) ?_
                      exact ihlpo (gg + 1) (some a) (by omega) (by simp [m_best, m_its1, hio.symm, hbo.symm, c10, c16, eq_true c17]) x _ _ ls (hm.to rfl) hW hS (lv_conv (lv_sub hl [2, 1, 0] rfl) (congr (congrArg List.cons rfl) (congr (congrArg List.cons (congrArg (fun z9 => ((1 : Nat), Value.int z9)) (show (nI a : Int32) = m_ob (some a) from by first | rfl | (rfl)))) (congr (congrArg List.cons rfl) rfl))))
                    · skip
                      exact absurd c17 (by decide)
                · skip
                  exact absurd (nI_le (a := nl) (b := n) (by omega) (by omega)) c14
            | succ dn ihlpi =>
              intro n io hndn hio x H locs ls hm hW hS hl
              rcases io with _ | a
              · skip
                have hl : lv_has ls 8 [(0, .ref mo), (1, .int (-1)), (2, .int (nI gg)), (3, .int (-1)), (4, .int (nI n))] := hl
                refine lv_iload S.1 S.2.1 dX5_excess_17 (lv_at hl 4 rfl) ?_
                refine lv_aload_n S.1 S.2.1 dX5_excess_19 rfl (lv_at hl 0 rfl) ?_
                refine mx_gI S hK hm hW 3 iX5 rfl (by decide) (by decide +kernel) dX5_excess_20 (v := nI nl) (Eq.trans (b := tF t 3) (by simp [tF_uF, tF_uL, tF_uA, tF_uB, tL_uF, tL_uL, tL_uA, tL_uB, tA_uF, tA_uL, tA_uA, tA_uB, tB_uF, tB_uL, tB_uA, tB_uB, m_inT_F, m_inT_L, m_inT_A, m_inT_B, m_outT_F, m_outT_L, m_outT_A, m_outT_B, m_goes_A, m_goes_B, m_goes_L, m_goes_F, m_inT_F, m_inT_L, m_inT_A, m_inT_B, m_outT_F, m_outT_L, m_outT_A, m_outT_B, m_goes_A, m_goes_B, m_goes_L, m_goes_F]) hnl) ?_
                refine lv_icmp_ge (tgt := 140) S.1 S.2.1 dX5_excess_23 (by decide) (fun c18 => ?_) (fun c18 => ?_)
                · skip
                  exact absurd c18 (nI_ge (a := n) (b := nl) (by omega) (by omega))
                · skip
                  refine lv_aload_n S.1 S.2.1 dX5_excess_26 rfl (lv_at hl 0 rfl) ?_
                  refine mx_gA S hK hm hW 13 iX5 rfl (by decide) (by decide) (by decide +kernel) dX5_excess_27 ?_
                  refine lv_iload S.1 S.2.1 dX5_excess_30 (lv_at hl 4 rfl) ?_
                  refine mx_ild S hK hm hW 13 (by decide) (k := n) (kw_ixof (k := n) (n := 8) rfl (by omega) (by decide)) dX5_excess_32 (v := tA t 13 n) (by simp [tF_uF, tF_uL, tF_uA, tF_uB, tL_uF, tL_uL, tL_uA, tL_uB, tA_uF, tA_uL, tA_uA, tA_uB, tB_uF, tB_uL, tB_uA, tB_uB, m_inT_F, m_inT_L, m_inT_A, m_inT_B, m_outT_F, m_outT_L, m_outT_A, m_outT_B, m_goes_A, m_goes_B, m_goes_L, m_goes_F, m_inT_F, m_inT_L, m_inT_A, m_inT_B, m_outT_F, m_outT_L, m_outT_A, m_outT_B, m_goes_A, m_goes_B, m_goes_L, m_goes_F]) ?_
                  refine lv_iload_n S.1 S.2.1 dX5_excess_33 rfl (lv_at hl 2 rfl) ?_
                  refine lv_icmp_ne (tgt := 134) S.1 S.2.1 dX5_excess_34 (by decide) (fun c19 => ?_) (fun c19 => ?_)
                  · skip
                    refine lv_iinc (v := nI (n + 1)) (lv' := [(4, .int (nI (n + 1))), (0, .ref mo), (1, .int (-1)), (2, .int (nI gg)), (3, .int (-1))]) S.1 S.2.1 dX5_excess_134 hl (k := 4) rfl (nI_1 _) (by decide) rfl (fun ls hl => ?_)
                    refine lv_goto (tgt := 17) S.1 S.2.1 dX5_excess_137 (by decide) ?_
                    exact ihlpi (n + 1) none (by omega) (by simp [m_am, hio.symm, m_exf, m_wt, m_rd, m_exl, c10, c18, c19]) x _ _ ls (hm.to (by simp [m_inT, m_wt, m_rd, c10, c18, c19])) hW hS (lv_conv (lv_sub hl [1, 2, 3, 4, 0] rfl) (congr (congrArg List.cons rfl) (congr (congrArg List.cons rfl) (congr (congrArg List.cons rfl) (congr (congrArg List.cons (congrArg (fun z9 => ((3 : Nat), Value.int z9)) (show (-1 : Int32) = m_ob none from by first | rfl | (rfl)))) (congr (congrArg List.cons rfl) rfl))))))
                  · skip
                    refine lv_aload_n S.1 S.2.1 dX5_excess_37 rfl (lv_at hl 0 rfl) ?_
                    refine mx_gA S hK hm hW 19 iX5 rfl (by decide) (by decide) (by decide +kernel) dX5_excess_38 ?_
                    refine lv_iload S.1 S.2.1 dX5_excess_41 (lv_at hl 4 rfl) ?_
                    refine mx_ild S hK hm hW 19 (by decide) (k := n) (kw_ixof (k := n) (n := 8) rfl (by omega) (by decide)) dX5_excess_43 (v := tA t 19 n) (by simp [tF_uF, tF_uL, tF_uA, tF_uB, tL_uF, tL_uL, tL_uA, tL_uB, tA_uF, tA_uL, tA_uA, tA_uB, tB_uF, tB_uL, tB_uA, tB_uB, m_inT_F, m_inT_L, m_inT_A, m_inT_B, m_outT_F, m_outT_L, m_outT_A, m_outT_B, m_goes_A, m_goes_B, m_goes_L, m_goes_F, m_inT_F, m_inT_L, m_inT_A, m_inT_B, m_outT_F, m_outT_L, m_outT_A, m_outT_B, m_goes_A, m_goes_B, m_goes_L, m_goes_F]) ?_
                    refine lv_if_ne (tgt := 50) S.1 S.2.1 dX5_excess_44 (by decide) (fun c20 => ?_) (fun c20 => ?_)
                    · skip
                      have hfn := hfp n (by omega) (by assumption)
                      have hfm := hfn.2
                      refine lv_ldc2 (v := 1000) S.1 S.2.1 S.2.2.2.1 (S.2.2.2.2 _ (by decide +kernel)) dX5_excess_50 ?_
                      refine lv_aload_n S.1 S.2.1 dX5_excess_53 rfl (lv_at hl 0 rfl) ?_
                      refine mx_gA S hK hm hW 34 iX5 rfl (by decide) (by decide) (by decide +kernel) dX5_excess_54 ?_
                      refine lv_aload_n S.1 S.2.1 dX5_excess_57 rfl (lv_at hl 0 rfl) ?_
                      refine mx_gA S hK hm hW 17 iX5 rfl (by decide) (by decide) (by decide +kernel) dX5_excess_58 ?_
                      refine lv_iload S.1 S.2.1 dX5_excess_61 (lv_at hl 4 rfl) ?_
                      refine mx_ild S hK hm hW 17 (by decide) (k := n) (kw_ixof (k := n) (n := 8) rfl (by omega) (by decide)) dX5_excess_63 (v := nI (fp n)) (Eq.trans (b := tA t 17 n) (by simp [tF_uF, tF_uL, tF_uA, tF_uB, tL_uF, tL_uL, tL_uA, tL_uB, tA_uF, tA_uL, tA_uA, tA_uB, tB_uF, tB_uL, tB_uA, tB_uB, m_inT_F, m_inT_L, m_inT_A, m_inT_B, m_outT_F, m_outT_L, m_outT_A, m_outT_B, m_goes_A, m_goes_B, m_goes_L, m_goes_F, m_inT_F, m_inT_L, m_inT_A, m_inT_B, m_outT_F, m_outT_L, m_outT_A, m_outT_B, m_goes_A, m_goes_B, m_goes_L, m_goes_F]) hfn.1) ?_
                      refine mx_ild S hK hm hW 34 (by decide) (k := (fp n)) (kw_ixof (k := fp n) (n := 1000) rfl (by omega) (by decide)) dX5_excess_64 (v := tA t 34 (fp n)) (by simp [tF_uF, tF_uL, tF_uA, tF_uB, tL_uF, tL_uL, tL_uA, tL_uB, tA_uF, tA_uL, tA_uA, tA_uB, tB_uF, tB_uL, tB_uA, tB_uB, m_inT_F, m_inT_L, m_inT_A, m_inT_B, m_outT_F, m_outT_L, m_outT_A, m_outT_B, m_goes_A, m_goes_B, m_goes_L, m_goes_F, m_inT_F, m_inT_L, m_inT_A, m_inT_B, m_outT_F, m_outT_L, m_outT_A, m_outT_B, m_goes_A, m_goes_B, m_goes_L, m_goes_F]) ?_
                      refine lv_i2l S.1 S.2.1 dX5_excess_65 rfl ?_
                      refine lv_lmul S.1 S.2.1 dX5_excess_66 ?_
                      refine lv_lstore (lv' := [(5, .long ((1000) * ((tA t 34 (fp n)).toInt64))), (0, .ref mo), (1, .int (-1)), (2, .int (nI gg)), (3, .int (-1)), (4, .int (nI n))]) S.1 S.2.1 dX5_excess_67 hl (by decide) rfl (fun ls hl => ?_)
                      refine lv_aload_n S.1 S.2.1 dX5_excess_69 rfl (lv_at hl 1 rfl) ?_
                      refine mx_gA S hK hm hW 32 iX5 rfl (by decide) (by decide) (by decide +kernel) dX5_excess_70 ?_
                      refine lv_iload S.1 S.2.1 dX5_excess_73 (lv_at hl 5 rfl) ?_
                      refine mx_lld S hK hm hW 32 (by decide) (k := n) (kw_ixof (k := n) (n := 20) rfl (by omega) (by decide)) dX5_excess_75 (v := tB t 32 n) (by simp [tF_uF, tF_uL, tF_uA, tF_uB, tL_uF, tL_uL, tL_uA, tL_uB, tA_uF, tA_uL, tA_uA, tA_uB, tB_uF, tB_uL, tB_uA, tB_uB, m_inT_F, m_inT_L, m_inT_A, m_inT_B, m_outT_F, m_outT_L, m_outT_A, m_outT_B, m_goes_A, m_goes_B, m_goes_L, m_goes_F, m_inT_F, m_inT_L, m_inT_A, m_inT_B, m_outT_F, m_outT_L, m_outT_A, m_outT_B, m_goes_A, m_goes_B, m_goes_L, m_goes_F]) ?_
                      refine lv_lload S.1 S.2.1 dX5_excess_76 (lv_at hl 0 rfl) ?_
                      refine kx_lc_lt (tgt := 97) S dX5_excess_78 dX5_excess_79 (by decide) (fun c21 => ?_) (fun c21 => ?_)
                      · skip
                        refine lv_aload_n S.1 S.2.1 dX5_excess_97 rfl (lv_at hl 1 rfl) ?_
                        refine mx_gA S hK hm hW 26 iX5 rfl (by decide) (by decide) (by decide +kernel) dX5_excess_98 ?_
                        refine lv_iload S.1 S.2.1 dX5_excess_101 (lv_at hl 5 rfl) ?_
                        refine lv_dup2_11 S.1 S.2.1 dX5_excess_103 rfl rfl ?_
                        refine mx_ild S hK hm hW 26 (by decide) (k := n) (kw_ixof (k := n) (n := 8) rfl (by omega) (by decide)) dX5_excess_104 (v := tA (m_inT t fp gg (m_outT t fp nl gg) n) 26 n) rfl ?_
                        refine lv_iconst (v := 1) S.1 S.2.1 dX5_excess_105 (by decide) ?_
                        refine lv_iadd S.1 S.2.1 dX5_excess_106 ?_
                        refine mx_ist S hK hm hW hS 26 (by decide) (k := n) (kw_ixof (k := n) (n := 8) rfl (by omega) (by decide)) dX5_excess_107 (fun x H locs hm hW hS => ?_)
                        refine lv_goto (tgt := 134) S.1 S.2.1 dX5_excess_108 (by decide) ?_
                        refine lv_iinc (v := nI (n + 1)) (lv' := [(4, .int (nI (n + 1))), (5, .long ((1000) * ((tA t 34 (fp n)).toInt64))), (0, .ref mo), (1, .int (-1)), (2, .int (nI gg)), (3, .int (-1))]) S.1 S.2.1 dX5_excess_134 hl (k := 5) rfl (nI_1 _) (by decide) rfl (fun ls hl => ?_)
                        refine lv_goto (tgt := 17) S.1 S.2.1 dX5_excess_137 (by decide) ?_
                        exact ihlpi (n + 1) none (by omega) (by simp [m_am, hio.symm, m_exf, m_wt, m_rd, m_exl, c10, c18, eq_true c19, c20, c21]) x _ _ ls (hm.to (by simp [m_inT, m_wt, m_rd, c10, c18, eq_true c19, c20, c21])) hW hS (lv_conv (lv_sub hl [2, 3, 4, 5, 0] rfl) (congr (congrArg List.cons rfl) (congr (congrArg List.cons rfl) (congr (congrArg List.cons rfl) (congr (congrArg List.cons (congrArg (fun z9 => ((3 : Nat), Value.int z9)) (show (-1 : Int32) = m_ob none from by first | rfl | (rfl)))) (congr (congrArg List.cons rfl) rfl))))))
                      · skip
                        refine lv_aload_n S.1 S.2.1 dX5_excess_82 rfl (lv_at hl 1 rfl) ?_
                        refine mx_gA S hK hm hW 32 iX5 rfl (by decide) (by decide) (by decide +kernel) dX5_excess_83 ?_
                        refine lv_bipush (v := 8) S.1 S.2.1 dX5_excess_86 (by decide) ?_
                        refine lv_iload_n S.1 S.2.1 dX5_excess_88 rfl (lv_at hl 3 rfl) ?_
                        refine lv_iadd S.1 S.2.1 dX5_excess_89 ?_
                        rw [show (8 : Int32) + nI gg = nI (8 + gg) from nI_add (8) (gg)]
                        refine mx_lld S hK hm hW 32 (by decide) (k := (8 + gg)) (kw_ixof (k := 8 + gg) (n := 20) rfl (by omega) (by decide)) dX5_excess_90 (v := tB t 32 (8 + gg)) (by simp [tF_uF, tF_uL, tF_uA, tF_uB, tL_uF, tL_uL, tL_uA, tL_uB, tA_uF, tA_uL, tA_uA, tA_uB, tB_uF, tB_uL, tB_uA, tB_uB, m_inT_F, m_inT_L, m_inT_A, m_inT_B, m_outT_F, m_outT_L, m_outT_A, m_outT_B, m_goes_A, m_goes_B, m_goes_L, m_goes_F, m_inT_F, m_inT_L, m_inT_A, m_inT_B, m_outT_F, m_outT_L, m_outT_A, m_outT_B, m_goes_A, m_goes_B, m_goes_L, m_goes_F]) ?_
                        refine lv_lload S.1 S.2.1 dX5_excess_91 (lv_at hl 0 rfl) ?_
                        refine kx_lc_ge (tgt := 111) S dX5_excess_93 dX5_excess_94 (by decide) (fun c22 => ?_) (fun c22 => ?_)
                        · skip
                          refine lv_iload_n S.1 S.2.1 dX5_excess_111 rfl (lv_at hl 4 rfl) ?_
                          refine lv_iconst (v := (-1)) S.1 S.2.1 dX5_excess_112 (by decide) ?_
                          refine lv_icmp_eq (tgt := 131) S.1 S.2.1 dX5_excess_113 (by decide) (fun c23 => ?_) (fun c23 => ?_)
                          · skip
                            refine lv_iload S.1 S.2.1 dX5_excess_131 (lv_at hl 5 rfl) ?_
                            refine lv_istore_n (lv' := [(3, .int (nI n)), (5, .long ((1000) * ((tA t 34 (fp n)).toInt64))), (0, .ref mo), (1, .int (-1)), (2, .int (nI gg)), (4, .int (nI n))]) S.1 S.2.1 dX5_excess_133 rfl hl (by decide) rfl (fun ls hl => ?_)
                            refine lv_iinc (v := nI (n + 1)) (lv' := [(4, .int (nI (n + 1))), (3, .int (nI n)), (5, .long ((1000) * ((tA t 34 (fp n)).toInt64))), (0, .ref mo), (1, .int (-1)), (2, .int (nI gg))]) S.1 S.2.1 dX5_excess_134 hl (k := 5) rfl (nI_1 _) (by decide) rfl (fun ls hl => ?_)
                            refine lv_goto (tgt := 17) S.1 S.2.1 dX5_excess_137 (by decide) ?_
                            exact ihlpi (n + 1) (some n) (by omega) (by simp [m_am, hio.symm, m_exf, m_wt, m_rd, m_exl, c10, c18, eq_true c19, c20, c21, c22, eq_true c23]) x _ _ ls (hm.to (by simp [m_inT, m_wt, m_rd, c10, c18, eq_true c19, c20, c21, c22, eq_true c23])) hW hS (lv_conv (lv_sub hl [3, 4, 5, 1, 0] rfl) (congr (congrArg List.cons rfl) (congr (congrArg List.cons rfl) (congr (congrArg List.cons rfl) (congr (congrArg List.cons (congrArg (fun z9 => ((3 : Nat), Value.int z9)) (show (nI n : Int32) = m_ob (some n) from by first | rfl | (rfl)))) (congr (congrArg List.cons rfl) rfl))))))
                          · skip
                            exact absurd c23 (by decide)
                        · skip
                          refine lv_aload_n S.1 S.2.1 dX5_excess_97 rfl (lv_at hl 1 rfl) ?_
                          refine mx_gA S hK hm hW 26 iX5 rfl (by decide) (by decide) (by decide +kernel) dX5_excess_98 ?_
                          refine lv_iload S.1 S.2.1 dX5_excess_101 (lv_at hl 5 rfl) ?_
                          refine lv_dup2_11 S.1 S.2.1 dX5_excess_103 rfl rfl ?_
                          refine mx_ild S hK hm hW 26 (by decide) (k := n) (kw_ixof (k := n) (n := 8) rfl (by omega) (by decide)) dX5_excess_104 (v := tA (m_inT t fp gg (m_outT t fp nl gg) n) 26 n) rfl ?_
                          refine lv_iconst (v := 1) S.1 S.2.1 dX5_excess_105 (by decide) ?_
                          refine lv_iadd S.1 S.2.1 dX5_excess_106 ?_
                          refine mx_ist S hK hm hW hS 26 (by decide) (k := n) (kw_ixof (k := n) (n := 8) rfl (by omega) (by decide)) dX5_excess_107 (fun x H locs hm hW hS => ?_)
                          refine lv_goto (tgt := 134) S.1 S.2.1 dX5_excess_108 (by decide) ?_
                          refine lv_iinc (v := nI (n + 1)) (lv' := [(4, .int (nI (n + 1))), (5, .long ((1000) * ((tA t 34 (fp n)).toInt64))), (0, .ref mo), (1, .int (-1)), (2, .int (nI gg)), (3, .int (-1))]) S.1 S.2.1 dX5_excess_134 hl (k := 5) rfl (nI_1 _) (by decide) rfl (fun ls hl => ?_)
                          refine lv_goto (tgt := 17) S.1 S.2.1 dX5_excess_137 (by decide) ?_
                          exact ihlpi (n + 1) none (by omega) (by simp [m_am, hio.symm, m_exf, m_wt, m_rd, m_exl, c10, c18, eq_true c19, c20, c21, c22]) x _ _ ls (hm.to (by simp [m_inT, m_wt, m_rd, c10, c18, eq_true c19, c20, c21, c22])) hW hS (lv_conv (lv_sub hl [2, 3, 4, 5, 0] rfl) (congr (congrArg List.cons rfl) (congr (congrArg List.cons rfl) (congr (congrArg List.cons rfl) (congr (congrArg List.cons (congrArg (fun z9 => ((3 : Nat), Value.int z9)) (show (-1 : Int32) = m_ob none from by first | rfl | (rfl)))) (congr (congrArg List.cons rfl) rfl))))))
                    · skip
                      refine lv_goto (tgt := 134) S.1 S.2.1 dX5_excess_47 (by decide) ?_
                      refine lv_iinc (v := nI (n + 1)) (lv' := [(4, .int (nI (n + 1))), (0, .ref mo), (1, .int (-1)), (2, .int (nI gg)), (3, .int (-1))]) S.1 S.2.1 dX5_excess_134 hl (k := 4) rfl (nI_1 _) (by decide) rfl (fun ls hl => ?_)
                      refine lv_goto (tgt := 17) S.1 S.2.1 dX5_excess_137 (by decide) ?_
                      exact ihlpi (n + 1) none (by omega) (by simp [m_am, hio.symm, m_exf, m_wt, m_rd, m_exl, c10, c18, eq_true c19, eq_true c20]) x _ _ ls (hm.to (by simp [m_inT, m_wt, m_rd, c10, c18, eq_true c19, eq_true c20])) hW hS (lv_conv (lv_sub hl [1, 2, 3, 4, 0] rfl) (congr (congrArg List.cons rfl) (congr (congrArg List.cons rfl) (congr (congrArg List.cons rfl) (congr (congrArg List.cons (congrArg (fun z9 => ((3 : Nat), Value.int z9)) (show (-1 : Int32) = m_ob none from by first | rfl | (rfl)))) (congr (congrArg List.cons rfl) rfl))))))
              · skip
                have hl : lv_has ls 8 [(0, .ref mo), (1, .int (-1)), (2, .int (nI gg)), (3, .int (nI a)), (4, .int (nI n))] := hl
                obtain ⟨ha1, ha2⟩ := m_am_some hio.symm
                have haw : ¬ tA t 19 a = 0 := by have h := ha2; simp [m_exf, m_wt] at h; exact h.1.2
                have hap := hfp a (by omega) haw
                refine lv_iload S.1 S.2.1 dX5_excess_17 (lv_at hl 4 rfl) ?_
                refine lv_aload_n S.1 S.2.1 dX5_excess_19 rfl (lv_at hl 0 rfl) ?_
                refine mx_gI S hK hm hW 3 iX5 rfl (by decide) (by decide +kernel) dX5_excess_20 (v := nI nl) (Eq.trans (b := tF t 3) (by simp [tF_uF, tF_uL, tF_uA, tF_uB, tL_uF, tL_uL, tL_uA, tL_uB, tA_uF, tA_uL, tA_uA, tA_uB, tB_uF, tB_uL, tB_uA, tB_uB, m_inT_F, m_inT_L, m_inT_A, m_inT_B, m_outT_F, m_outT_L, m_outT_A, m_outT_B, m_goes_A, m_goes_B, m_goes_L, m_goes_F, m_inT_F, m_inT_L, m_inT_A, m_inT_B, m_outT_F, m_outT_L, m_outT_A, m_outT_B, m_goes_A, m_goes_B, m_goes_L, m_goes_F]) hnl) ?_
                refine lv_icmp_ge (tgt := 140) S.1 S.2.1 dX5_excess_23 (by decide) (fun c24 => ?_) (fun c24 => ?_)
                · skip
                  exact absurd c24 (nI_ge (a := n) (b := nl) (by omega) (by omega))
                · skip
                  refine lv_aload_n S.1 S.2.1 dX5_excess_26 rfl (lv_at hl 0 rfl) ?_
                  refine mx_gA S hK hm hW 13 iX5 rfl (by decide) (by decide) (by decide +kernel) dX5_excess_27 ?_
                  refine lv_iload S.1 S.2.1 dX5_excess_30 (lv_at hl 4 rfl) ?_
                  refine mx_ild S hK hm hW 13 (by decide) (k := n) (kw_ixof (k := n) (n := 8) rfl (by omega) (by decide)) dX5_excess_32 (v := tA t 13 n) (by simp [tF_uF, tF_uL, tF_uA, tF_uB, tL_uF, tL_uL, tL_uA, tL_uB, tA_uF, tA_uL, tA_uA, tA_uB, tB_uF, tB_uL, tB_uA, tB_uB, m_inT_F, m_inT_L, m_inT_A, m_inT_B, m_outT_F, m_outT_L, m_outT_A, m_outT_B, m_goes_A, m_goes_B, m_goes_L, m_goes_F, m_inT_F, m_inT_L, m_inT_A, m_inT_B, m_outT_F, m_outT_L, m_outT_A, m_outT_B, m_goes_A, m_goes_B, m_goes_L, m_goes_F]) ?_
                  refine lv_iload_n S.1 S.2.1 dX5_excess_33 rfl (lv_at hl 2 rfl) ?_
                  refine lv_icmp_ne (tgt := 134) S.1 S.2.1 dX5_excess_34 (by decide) (fun c25 => ?_) (fun c25 => ?_)
                  · skip
                    refine lv_iinc (v := nI (n + 1)) (lv' := [(4, .int (nI (n + 1))), (0, .ref mo), (1, .int (-1)), (2, .int (nI gg)), (3, .int (nI a))]) S.1 S.2.1 dX5_excess_134 hl (k := 4) rfl (nI_1 _) (by decide) rfl (fun ls hl => ?_)
                    refine lv_goto (tgt := 17) S.1 S.2.1 dX5_excess_137 (by decide) ?_
                    exact ihlpi (n + 1) (some a) (by omega) (by simp [m_am, hio.symm, m_exf, m_wt, m_rd, m_exl, c10, c24, c25]) x _ _ ls (hm.to (by simp [m_inT, m_wt, m_rd, c10, c24, c25])) hW hS (lv_conv (lv_sub hl [1, 2, 3, 4, 0] rfl) (congr (congrArg List.cons rfl) (congr (congrArg List.cons rfl) (congr (congrArg List.cons rfl) (congr (congrArg List.cons (congrArg (fun z9 => ((3 : Nat), Value.int z9)) (show (nI a : Int32) = m_ob (some a) from by first | rfl | (rfl)))) (congr (congrArg List.cons rfl) rfl))))))
                  · skip
                    refine lv_aload_n S.1 S.2.1 dX5_excess_37 rfl (lv_at hl 0 rfl) ?_
                    refine mx_gA S hK hm hW 19 iX5 rfl (by decide) (by decide) (by decide +kernel) dX5_excess_38 ?_
                    refine lv_iload S.1 S.2.1 dX5_excess_41 (lv_at hl 4 rfl) ?_
                    refine mx_ild S hK hm hW 19 (by decide) (k := n) (kw_ixof (k := n) (n := 8) rfl (by omega) (by decide)) dX5_excess_43 (v := tA t 19 n) (by simp [tF_uF, tF_uL, tF_uA, tF_uB, tL_uF, tL_uL, tL_uA, tL_uB, tA_uF, tA_uL, tA_uA, tA_uB, tB_uF, tB_uL, tB_uA, tB_uB, m_inT_F, m_inT_L, m_inT_A, m_inT_B, m_outT_F, m_outT_L, m_outT_A, m_outT_B, m_goes_A, m_goes_B, m_goes_L, m_goes_F, m_inT_F, m_inT_L, m_inT_A, m_inT_B, m_outT_F, m_outT_L, m_outT_A, m_outT_B, m_goes_A, m_goes_B, m_goes_L, m_goes_F]) ?_
                    refine lv_if_ne (tgt := 50) S.1 S.2.1 dX5_excess_44 (by decide) (fun c26 => ?_) (fun c26 => ?_)
                    · skip
                      have hfn := hfp n (by omega) (by assumption)
                      have hfm := hfn.2
                      refine lv_ldc2 (v := 1000) S.1 S.2.1 S.2.2.2.1 (S.2.2.2.2 _ (by decide +kernel)) dX5_excess_50 ?_
                      refine lv_aload_n S.1 S.2.1 dX5_excess_53 rfl (lv_at hl 0 rfl) ?_
                      refine mx_gA S hK hm hW 34 iX5 rfl (by decide) (by decide) (by decide +kernel) dX5_excess_54 ?_
                      refine lv_aload_n S.1 S.2.1 dX5_excess_57 rfl (lv_at hl 0 rfl) ?_
                      refine mx_gA S hK hm hW 17 iX5 rfl (by decide) (by decide) (by decide +kernel) dX5_excess_58 ?_
                      refine lv_iload S.1 S.2.1 dX5_excess_61 (lv_at hl 4 rfl) ?_
                      refine mx_ild S hK hm hW 17 (by decide) (k := n) (kw_ixof (k := n) (n := 8) rfl (by omega) (by decide)) dX5_excess_63 (v := nI (fp n)) (Eq.trans (b := tA t 17 n) (by simp [tF_uF, tF_uL, tF_uA, tF_uB, tL_uF, tL_uL, tL_uA, tL_uB, tA_uF, tA_uL, tA_uA, tA_uB, tB_uF, tB_uL, tB_uA, tB_uB, m_inT_F, m_inT_L, m_inT_A, m_inT_B, m_outT_F, m_outT_L, m_outT_A, m_outT_B, m_goes_A, m_goes_B, m_goes_L, m_goes_F, m_inT_F, m_inT_L, m_inT_A, m_inT_B, m_outT_F, m_outT_L, m_outT_A, m_outT_B, m_goes_A, m_goes_B, m_goes_L, m_goes_F]) hfn.1) ?_
                      refine mx_ild S hK hm hW 34 (by decide) (k := (fp n)) (kw_ixof (k := fp n) (n := 1000) rfl (by omega) (by decide)) dX5_excess_64 (v := tA t 34 (fp n)) (by simp [tF_uF, tF_uL, tF_uA, tF_uB, tL_uF, tL_uL, tL_uA, tL_uB, tA_uF, tA_uL, tA_uA, tA_uB, tB_uF, tB_uL, tB_uA, tB_uB, m_inT_F, m_inT_L, m_inT_A, m_inT_B, m_outT_F, m_outT_L, m_outT_A, m_outT_B, m_goes_A, m_goes_B, m_goes_L, m_goes_F, m_inT_F, m_inT_L, m_inT_A, m_inT_B, m_outT_F, m_outT_L, m_outT_A, m_outT_B, m_goes_A, m_goes_B, m_goes_L, m_goes_F]) ?_
                      refine lv_i2l S.1 S.2.1 dX5_excess_65 rfl ?_
                      refine lv_lmul S.1 S.2.1 dX5_excess_66 ?_
                      refine lv_lstore (lv' := [(5, .long ((1000) * ((tA t 34 (fp n)).toInt64))), (0, .ref mo), (1, .int (-1)), (2, .int (nI gg)), (3, .int (nI a)), (4, .int (nI n))]) S.1 S.2.1 dX5_excess_67 hl (by decide) rfl (fun ls hl => ?_)
                      refine lv_aload_n S.1 S.2.1 dX5_excess_69 rfl (lv_at hl 1 rfl) ?_
                      refine mx_gA S hK hm hW 32 iX5 rfl (by decide) (by decide) (by decide +kernel) dX5_excess_70 ?_
                      refine lv_iload S.1 S.2.1 dX5_excess_73 (lv_at hl 5 rfl) ?_
                      refine mx_lld S hK hm hW 32 (by decide) (k := n) (kw_ixof (k := n) (n := 20) rfl (by omega) (by decide)) dX5_excess_75 (v := tB t 32 n) (by simp [tF_uF, tF_uL, tF_uA, tF_uB, tL_uF, tL_uL, tL_uA, tL_uB, tA_uF, tA_uL, tA_uA, tA_uB, tB_uF, tB_uL, tB_uA, tB_uB, m_inT_F, m_inT_L, m_inT_A, m_inT_B, m_outT_F, m_outT_L, m_outT_A, m_outT_B, m_goes_A, m_goes_B, m_goes_L, m_goes_F, m_inT_F, m_inT_L, m_inT_A, m_inT_B, m_outT_F, m_outT_L, m_outT_A, m_outT_B, m_goes_A, m_goes_B, m_goes_L, m_goes_F]) ?_
                      refine lv_lload S.1 S.2.1 dX5_excess_76 (lv_at hl 0 rfl) ?_
                      refine kx_lc_lt (tgt := 97) S dX5_excess_78 dX5_excess_79 (by decide) (fun c27 => ?_) (fun c27 => ?_)
                      · skip
                        refine lv_aload_n S.1 S.2.1 dX5_excess_97 rfl (lv_at hl 1 rfl) ?_
                        refine mx_gA S hK hm hW 26 iX5 rfl (by decide) (by decide) (by decide +kernel) dX5_excess_98 ?_
                        refine lv_iload S.1 S.2.1 dX5_excess_101 (lv_at hl 5 rfl) ?_
                        refine lv_dup2_11 S.1 S.2.1 dX5_excess_103 rfl rfl ?_
                        refine mx_ild S hK hm hW 26 (by decide) (k := n) (kw_ixof (k := n) (n := 8) rfl (by omega) (by decide)) dX5_excess_104 (v := tA (m_inT t fp gg (m_outT t fp nl gg) n) 26 n) rfl ?_
                        refine lv_iconst (v := 1) S.1 S.2.1 dX5_excess_105 (by decide) ?_
                        refine lv_iadd S.1 S.2.1 dX5_excess_106 ?_
                        refine mx_ist S hK hm hW hS 26 (by decide) (k := n) (kw_ixof (k := n) (n := 8) rfl (by omega) (by decide)) dX5_excess_107 (fun x H locs hm hW hS => ?_)
                        refine lv_goto (tgt := 134) S.1 S.2.1 dX5_excess_108 (by decide) ?_
                        refine lv_iinc (v := nI (n + 1)) (lv' := [(4, .int (nI (n + 1))), (5, .long ((1000) * ((tA t 34 (fp n)).toInt64))), (0, .ref mo), (1, .int (-1)), (2, .int (nI gg)), (3, .int (nI a))]) S.1 S.2.1 dX5_excess_134 hl (k := 5) rfl (nI_1 _) (by decide) rfl (fun ls hl => ?_)
                        refine lv_goto (tgt := 17) S.1 S.2.1 dX5_excess_137 (by decide) ?_
                        exact ihlpi (n + 1) (some a) (by omega) (by simp [m_am, hio.symm, m_exf, m_wt, m_rd, m_exl, c10, c24, eq_true c25, c26, c27]) x _ _ ls (hm.to (by simp [m_inT, m_wt, m_rd, c10, c24, eq_true c25, c26, c27])) hW hS (lv_conv (lv_sub hl [2, 3, 4, 5, 0] rfl) (congr (congrArg List.cons rfl) (congr (congrArg List.cons rfl) (congr (congrArg List.cons rfl) (congr (congrArg List.cons (congrArg (fun z9 => ((3 : Nat), Value.int z9)) (show (nI a : Int32) = m_ob (some a) from by first | rfl | (rfl)))) (congr (congrArg List.cons rfl) rfl))))))
                      · skip
                        refine lv_aload_n S.1 S.2.1 dX5_excess_82 rfl (lv_at hl 1 rfl) ?_
                        refine mx_gA S hK hm hW 32 iX5 rfl (by decide) (by decide) (by decide +kernel) dX5_excess_83 ?_
                        refine lv_bipush (v := 8) S.1 S.2.1 dX5_excess_86 (by decide) ?_
                        refine lv_iload_n S.1 S.2.1 dX5_excess_88 rfl (lv_at hl 3 rfl) ?_
                        refine lv_iadd S.1 S.2.1 dX5_excess_89 ?_
                        rw [show (8 : Int32) + nI gg = nI (8 + gg) from nI_add (8) (gg)]
                        refine mx_lld S hK hm hW 32 (by decide) (k := (8 + gg)) (kw_ixof (k := 8 + gg) (n := 20) rfl (by omega) (by decide)) dX5_excess_90 (v := tB t 32 (8 + gg)) (by simp [tF_uF, tF_uL, tF_uA, tF_uB, tL_uF, tL_uL, tL_uA, tL_uB, tA_uF, tA_uL, tA_uA, tA_uB, tB_uF, tB_uL, tB_uA, tB_uB, m_inT_F, m_inT_L, m_inT_A, m_inT_B, m_outT_F, m_outT_L, m_outT_A, m_outT_B, m_goes_A, m_goes_B, m_goes_L, m_goes_F, m_inT_F, m_inT_L, m_inT_A, m_inT_B, m_outT_F, m_outT_L, m_outT_A, m_outT_B, m_goes_A, m_goes_B, m_goes_L, m_goes_F]) ?_
                        refine lv_lload S.1 S.2.1 dX5_excess_91 (lv_at hl 0 rfl) ?_
                        refine kx_lc_ge (tgt := 111) S dX5_excess_93 dX5_excess_94 (by decide) (fun c28 => ?_) (fun c28 => ?_)
                        · skip
                          refine lv_iload_n S.1 S.2.1 dX5_excess_111 rfl (lv_at hl 4 rfl) ?_
                          refine lv_iconst (v := (-1)) S.1 S.2.1 dX5_excess_112 (by decide) ?_
                          refine lv_icmp_eq (tgt := 131) S.1 S.2.1 dX5_excess_113 (by decide) (fun c29 => ?_) (fun c29 => ?_)
                          · skip
                            exact absurd (by first | exact c29 | exact Classical.not_not.mp c29) (nI_nm1 (by omega))
                          · skip
                            refine lv_aload_n S.1 S.2.1 dX5_excess_116 rfl (lv_at hl 1 rfl) ?_
                            refine lv_iload S.1 S.2.1 dX5_excess_117 (lv_at hl 5 rfl) ?_
                            refine mx_cV (As := [.int (nI n)]) (rest := []) (st1 := [.long ((m_tg t fp n))]) S hK hZ hA hm hW hS (c_X5_tagOf l G nu x z mo ma (m_inT t fp gg (m_outT t fp nl gg) n) n (m_tg t fp n) (fp n) hm (by simp [m_tg, tF_uF, tF_uL, tF_uA, tF_uB, tL_uF, tL_uL, tL_uA, tL_uB, tA_uF, tA_uL, tA_uA, tA_uB, tB_uF, tB_uL, tB_uA, tB_uB, m_inT_F, m_inT_L, m_inT_A, m_inT_B, m_outT_F, m_outT_L, m_outT_A, m_outT_B, m_goes_A, m_goes_B, m_goes_L, m_goes_F]) (by omega) (by simp [tF_uF, tF_uL, tF_uA, tF_uB, tL_uF, tL_uL, tL_uA, tL_uB, tA_uF, tA_uL, tA_uA, tA_uB, tB_uF, tB_uL, tB_uA, tB_uB, m_inT_F, m_inT_L, m_inT_A, m_inT_B, m_outT_F, m_outT_L, m_outT_A, m_outT_B, m_goes_A, m_goes_B, m_goes_L, m_goes_F]; exact hfn.1) hfn.2 (by simp [tF_uF, tF_uL, tF_uA, tF_uB, tL_uF, tL_uL, tL_uA, tL_uB, tA_uF, tA_uL, tA_uA, tA_uB, tB_uF, tB_uL, tB_uA, tB_uB, m_inT_F, m_inT_L, m_inT_A, m_inT_B, m_outT_F, m_outT_L, m_outT_A, m_outT_B, m_goes_A, m_goes_B, m_goes_L, m_goes_F]; exact hwe n (by omega))) (cwV 1 S.2.2.2.2 gX5_excess_X5_tagOf rfl rfl rfl (by decide +kernel) ⟨Nat.le_of_ble_eq_true rfl, Nat.le_of_ble_eq_true rfl⟩) rfl hl.1 rfl (Nat.le_of_ble_eq_true rfl) dX5_excess_119 ⟨Nat.le_of_ble_eq_true rfl, Nat.le_of_ble_eq_true rfl⟩ rfl (fun x H locs hm hW hS => ?_)
                            refine lv_aload_n S.1 S.2.1 dX5_excess_122 rfl (lv_at hl 1 rfl) ?_
                            refine lv_iload_n S.1 S.2.1 dX5_excess_123 rfl (lv_at hl 4 rfl) ?_
                            refine mx_cV (As := [.int (nI a)]) (rest := [.long ((m_tg t fp n))]) (st1 := [.long ((m_tg t fp a)), .long ((m_tg t fp n))]) S hK hZ hA hm hW hS (c_X5_tagOf l G nu x z mo ma (m_inT t fp gg (m_outT t fp nl gg) n) a (m_tg t fp a) (fp a) hm (by simp [m_tg, tF_uF, tF_uL, tF_uA, tF_uB, tL_uF, tL_uL, tL_uA, tL_uB, tA_uF, tA_uL, tA_uA, tA_uB, tB_uF, tB_uL, tB_uA, tB_uB, m_inT_F, m_inT_L, m_inT_A, m_inT_B, m_outT_F, m_outT_L, m_outT_A, m_outT_B, m_goes_A, m_goes_B, m_goes_L, m_goes_F]) (by omega) (by simp [tF_uF, tF_uL, tF_uA, tF_uB, tL_uF, tL_uL, tL_uA, tL_uB, tA_uF, tA_uL, tA_uA, tA_uB, tB_uF, tB_uL, tB_uA, tB_uB, m_inT_F, m_inT_L, m_inT_A, m_inT_B, m_outT_F, m_outT_L, m_outT_A, m_outT_B, m_goes_A, m_goes_B, m_goes_L, m_goes_F]; exact hap.1) hap.2 (by simp [tF_uF, tF_uL, tF_uA, tF_uB, tL_uF, tL_uL, tL_uA, tL_uB, tA_uF, tA_uL, tA_uA, tA_uB, tB_uF, tB_uL, tB_uA, tB_uB, m_inT_F, m_inT_L, m_inT_A, m_inT_B, m_outT_F, m_outT_L, m_outT_A, m_outT_B, m_goes_A, m_goes_B, m_goes_L, m_goes_F]; exact hwe a (by omega))) (cwV 1 S.2.2.2.2 gX5_excess_X5_tagOf rfl rfl rfl (by decide +kernel) ⟨Nat.le_of_ble_eq_true rfl, Nat.le_of_ble_eq_true rfl⟩) rfl hl.1 rfl (Nat.le_of_ble_eq_true rfl) dX5_excess_124 ⟨Nat.le_of_ble_eq_true rfl, Nat.le_of_ble_eq_true rfl⟩ rfl (fun x H locs hm hW hS => ?_)
                            refine kx_lc_ge (tgt := 134) S dX5_excess_127 dX5_excess_128 (by decide) (fun c30 => ?_) (fun c30 => ?_)
                            · skip
                              refine lv_iinc (v := nI (n + 1)) (lv' := [(4, .int (nI (n + 1))), (5, .long ((1000) * ((tA t 34 (fp n)).toInt64))), (0, .ref mo), (1, .int (-1)), (2, .int (nI gg)), (3, .int (nI a))]) S.1 S.2.1 dX5_excess_134 hl (k := 5) rfl (nI_1 _) (by decide) rfl (fun ls hl => ?_)
                              refine lv_goto (tgt := 17) S.1 S.2.1 dX5_excess_137 (by decide) ?_
                              exact ihlpi (n + 1) (some a) (by omega) (by simp [m_am, hio.symm, m_exf, m_wt, m_rd, m_exl, c10, c24, eq_true c25, c26, c27, c28, c29, c30]) x _ _ ls (hm.to (by simp [m_inT, m_wt, m_rd, c10, c24, eq_true c25, c26, c27, c28, c29, c30])) hW hS (lv_conv (lv_sub hl [2, 3, 4, 5, 0] rfl) (congr (congrArg List.cons rfl) (congr (congrArg List.cons rfl) (congr (congrArg List.cons rfl) (congr (congrArg List.cons (congrArg (fun z9 => ((3 : Nat), Value.int z9)) (show (nI a : Int32) = m_ob (some a) from by first | rfl | (rfl)))) (congr (congrArg List.cons rfl) rfl))))))
                            · skip
                              refine lv_iload S.1 S.2.1 dX5_excess_131 (lv_at hl 5 rfl) ?_
                              refine lv_istore_n (lv' := [(3, .int (nI n)), (5, .long ((1000) * ((tA t 34 (fp n)).toInt64))), (0, .ref mo), (1, .int (-1)), (2, .int (nI gg)), (4, .int (nI n))]) S.1 S.2.1 dX5_excess_133 rfl hl (by decide) rfl (fun ls hl => ?_)
                              refine lv_iinc (v := nI (n + 1)) (lv' := [(4, .int (nI (n + 1))), (3, .int (nI n)), (5, .long ((1000) * ((tA t 34 (fp n)).toInt64))), (0, .ref mo), (1, .int (-1)), (2, .int (nI gg))]) S.1 S.2.1 dX5_excess_134 hl (k := 5) rfl (nI_1 _) (by decide) rfl (fun ls hl => ?_)
                              refine lv_goto (tgt := 17) S.1 S.2.1 dX5_excess_137 (by decide) ?_
                              exact ihlpi (n + 1) (some n) (by omega) (by simp [m_am, hio.symm, m_exf, m_wt, m_rd, m_exl, c10, c24, eq_true c25, c26, c27, c28, c29, c30]) x _ _ ls (hm.to (by simp [m_inT, m_wt, m_rd, c10, c24, eq_true c25, c26, c27, c28, c29, c30])) hW hS (lv_conv (lv_sub hl [3, 4, 5, 1, 0] rfl) (congr (congrArg List.cons rfl) (congr (congrArg List.cons rfl) (congr (congrArg List.cons rfl) (congr (congrArg List.cons (congrArg (fun z9 => ((3 : Nat), Value.int z9)) (show (nI n : Int32) = m_ob (some n) from by first | rfl | (rfl)))) (congr (congrArg List.cons rfl) rfl))))))
                        · skip
                          refine lv_aload_n S.1 S.2.1 dX5_excess_97 rfl (lv_at hl 1 rfl) ?_
                          refine mx_gA S hK hm hW 26 iX5 rfl (by decide) (by decide) (by decide +kernel) dX5_excess_98 ?_
                          refine lv_iload S.1 S.2.1 dX5_excess_101 (lv_at hl 5 rfl) ?_
                          refine lv_dup2_11 S.1 S.2.1 dX5_excess_103 rfl rfl ?_
                          refine mx_ild S hK hm hW 26 (by decide) (k := n) (kw_ixof (k := n) (n := 8) rfl (by omega) (by decide)) dX5_excess_104 (v := tA (m_inT t fp gg (m_outT t fp nl gg) n) 26 n) rfl ?_
                          refine lv_iconst (v := 1) S.1 S.2.1 dX5_excess_105 (by decide) ?_
                          refine lv_iadd S.1 S.2.1 dX5_excess_106 ?_
                          refine mx_ist S hK hm hW hS 26 (by decide) (k := n) (kw_ixof (k := n) (n := 8) rfl (by omega) (by decide)) dX5_excess_107 (fun x H locs hm hW hS => ?_)
                          refine lv_goto (tgt := 134) S.1 S.2.1 dX5_excess_108 (by decide) ?_
                          refine lv_iinc (v := nI (n + 1)) (lv' := [(4, .int (nI (n + 1))), (5, .long ((1000) * ((tA t 34 (fp n)).toInt64))), (0, .ref mo), (1, .int (-1)), (2, .int (nI gg)), (3, .int (nI a))]) S.1 S.2.1 dX5_excess_134 hl (k := 5) rfl (nI_1 _) (by decide) rfl (fun ls hl => ?_)
                          refine lv_goto (tgt := 17) S.1 S.2.1 dX5_excess_137 (by decide) ?_
                          exact ihlpi (n + 1) (some a) (by omega) (by simp [m_am, hio.symm, m_exf, m_wt, m_rd, m_exl, c10, c24, eq_true c25, c26, c27, c28]) x _ _ ls (hm.to (by simp [m_inT, m_wt, m_rd, c10, c24, eq_true c25, c26, c27, c28])) hW hS (lv_conv (lv_sub hl [2, 3, 4, 5, 0] rfl) (congr (congrArg List.cons rfl) (congr (congrArg List.cons rfl) (congr (congrArg List.cons rfl) (congr (congrArg List.cons (congrArg (fun z9 => ((3 : Nat), Value.int z9)) (show (nI a : Int32) = m_ob (some a) from by first | rfl | (rfl)))) (congr (congrArg List.cons rfl) rfl))))))
                    · skip
                      refine lv_goto (tgt := 134) S.1 S.2.1 dX5_excess_47 (by decide) ?_
                      refine lv_iinc (v := nI (n + 1)) (lv' := [(4, .int (nI (n + 1))), (0, .ref mo), (1, .int (-1)), (2, .int (nI gg)), (3, .int (nI a))]) S.1 S.2.1 dX5_excess_134 hl (k := 4) rfl (nI_1 _) (by decide) rfl (fun ls hl => ?_)
                      refine lv_goto (tgt := 17) S.1 S.2.1 dX5_excess_137 (by decide) ?_
                      exact ihlpi (n + 1) (some a) (by omega) (by simp [m_am, hio.symm, m_exf, m_wt, m_rd, m_exl, c10, c24, eq_true c25, eq_true c26]) x _ _ ls (hm.to (by simp [m_inT, m_wt, m_rd, c10, c24, eq_true c25, eq_true c26])) hW hS (lv_conv (lv_sub hl [1, 2, 3, 4, 0] rfl) (congr (congrArg List.cons rfl) (congr (congrArg List.cons rfl) (congr (congrArg List.cons rfl) (congr (congrArg List.cons (congrArg (fun z9 => ((3 : Nat), Value.int z9)) (show (nI a : Int32) = m_ob (some a) from by first | rfl | (rfl)))) (congr (congrArg List.cons rfl) rfl))))))
          exact lpi (nl - 0) 0 none (by omega) rfl x _ _ ls (hm.to rfl) hW hS (lv_conv (lv_sub hl [2, 3, 4, 1, 0] rfl) (congr (congrArg List.cons rfl) (congr (congrArg List.cons rfl) (congr (congrArg List.cons rfl) (congr (congrArg List.cons (congrArg (fun z9 => ((3 : Nat), Value.int z9)) (show (-1 : Int32) = m_ob none from by first | rfl | (rfl)))) (congr (congrArg List.cons (congrArg (fun z9 => ((4 : Nat), Value.int z9)) (show (0 : Int32) = nI 0 from by first | rfl | (rfl)))) rfl))))))
      · skip
        have hl : lv_has ls 8 [(0, .ref mo), (1, .int (nI b)), (2, .int (nI gg))] := hl
        obtain ⟨hb1, gb, hb2, hb3⟩ := m_best_some hbo.symm
        have hbw : ¬ tA t 19 b = 0 := by have h := hb3; simp [m_exf, m_wt] at h; exact h.1.2
        have hbp := hfp b hb1 hbw
        have hbq := hbp.2
        have hbg := (hgr b hb1).2
        refine lv_iload_n S.1 S.2.1 dX5_excess_4 rfl (lv_at hl 2 rfl) ?_
        refine lv_aload_n S.1 S.2.1 dX5_excess_5 rfl (lv_at hl 0 rfl) ?_
        refine mx_gI S hK hm hW 2 iX5 rfl (by decide) (by decide +kernel) dX5_excess_6 (v := nI ng) (Eq.trans (b := tF t 2) (by simp [tF_uF, tF_uL, tF_uA, tF_uB, tL_uF, tL_uL, tL_uA, tL_uB, tA_uF, tA_uL, tA_uA, tA_uB, tB_uF, tB_uL, tB_uA, tB_uB, m_inT_F, m_inT_L, m_inT_A, m_inT_B, m_outT_F, m_outT_L, m_outT_A, m_outT_B, m_goes_A, m_goes_B, m_goes_L, m_goes_F]) hng) ?_
        refine lv_icmp_ge (tgt := 172) S.1 S.2.1 dX5_excess_9 (by decide) (fun c31 => ?_) (fun c31 => ?_)
        · skip
          exact absurd c31 (nI_ge (a := gg) (b := ng) (by omega) (by omega))
        · skip
          refine lv_iconst (v := (-1)) S.1 S.2.1 dX5_excess_12 (by decide) ?_
          refine lv_istore_n (lv' := [(3, .int (-1)), (0, .ref mo), (1, .int (nI b)), (2, .int (nI gg))]) S.1 S.2.1 dX5_excess_13 rfl hl (by decide) rfl (fun ls hl => ?_)
          refine lv_iconst (v := 0) S.1 S.2.1 dX5_excess_14 (by decide) ?_
          refine lv_istore (lv' := [(4, .int (0)), (3, .int (-1)), (0, .ref mo), (1, .int (nI b)), (2, .int (nI gg))]) S.1 S.2.1 dX5_excess_15 hl (by decide) rfl (fun ls hl => ?_)
          have lpi : ∀ (dn n : Nat) (io : Option Nat), n + dn = nl → (io = m_am (m_exf t fp gg) (m_exl t fp) n) → ∀ (x : kw_St) (H : Heap) (locs : List Loc) (ls : Array Slot), mw nu z mo ma (m_inT t fp gg (m_outT t fp nl gg) n) x → kw_W G A nu x H → va_S A s.heap H locs → lv_has ls 8 [(0, .ref mo), (1, .int (nI b)), (2, .int (nI gg)), (3, .int (m_ob io)), (4, .int (nI n))] → W p l e { frames := 1, cells := 0, slots := 0, locals := 23 } s m args below meth c H locs 0 0 QQ (F0 m 17 ls []) := by
            intro dn
            induction dn with
            | zero =>
              intro n io hndn hio x H locs ls hm hW hS hl
              rcases io with _ | a
              · skip
                have hl : lv_has ls 8 [(0, .ref mo), (1, .int (nI b)), (2, .int (nI gg)), (3, .int (-1)), (4, .int (nI n))] := hl
                refine lv_iload S.1 S.2.1 dX5_excess_17 (lv_at hl 4 rfl) ?_
                refine lv_aload_n S.1 S.2.1 dX5_excess_19 rfl (lv_at hl 0 rfl) ?_
                refine mx_gI S hK hm hW 3 iX5 rfl (by decide) (by decide +kernel) dX5_excess_20 (v := nI nl) (Eq.trans (b := tF t 3) (by simp [tF_uF, tF_uL, tF_uA, tF_uB, tL_uF, tL_uL, tL_uA, tL_uB, tA_uF, tA_uL, tA_uA, tA_uB, tB_uF, tB_uL, tB_uA, tB_uB, m_inT_F, m_inT_L, m_inT_A, m_inT_B, m_outT_F, m_outT_L, m_outT_A, m_outT_B, m_goes_A, m_goes_B, m_goes_L, m_goes_F, m_inT_F, m_inT_L, m_inT_A, m_inT_B, m_outT_F, m_outT_L, m_outT_A, m_outT_B, m_goes_A, m_goes_B, m_goes_L, m_goes_F]) hnl) ?_
                refine lv_icmp_ge (tgt := 140) S.1 S.2.1 dX5_excess_23 (by decide) (fun c32 => ?_) (fun c32 => ?_)
                · skip
                  have hnn33 : nl = n := by omega
                  subst hnn33
                  refine lv_iload_n S.1 S.2.1 dX5_excess_140 rfl (lv_at hl 3 rfl) ?_
                  refine lv_iconst (v := (-1)) S.1 S.2.1 dX5_excess_141 (by decide) ?_
                  refine lv_icmp_eq (tgt := 166) S.1 S.2.1 dX5_excess_142 (by decide) (fun c34 => ?_) (fun c34 => ?_)
                  · skip
                    refine lv_iinc (v := nI (gg + 1)) (lv' := [(2, .int (nI (gg + 1))), (0, .ref mo), (1, .int (nI b)), (3, .int (-1)), (4, .int (nI nl))]) S.1 S.2.1 dX5_excess_166 hl (k := 2) rfl (nI_1 _) (by decide) rfl (fun ls hl => ?_)
                    refine lv_goto (tgt := 4) S.1 S.2.1 dX5_excess_169 (by decide) ?_
                    exact ihlpo (gg + 1) (some b) (by omega) (by simp [m_best, m_its1, hio.symm, hbo.symm, c31, eq_true c34]) x _ _ ls (hm.to rfl) hW hS (lv_conv (lv_sub hl [1, 2, 0] rfl) (congr (congrArg List.cons rfl) (congr (congrArg List.cons (congrArg (fun z9 => ((1 : Nat), Value.int z9)) (show (nI b : Int32) = m_ob (some b) from by first | rfl | (rfl)))) (congr (congrArg List.cons rfl) rfl))))
                  · skip
                    exact absurd c34 (by decide)
                · skip
                  exact absurd (nI_le (a := nl) (b := n) (by omega) (by omega)) c32
              · skip
                have hl : lv_has ls 8 [(0, .ref mo), (1, .int (nI b)), (2, .int (nI gg)), (3, .int (nI a)), (4, .int (nI n))] := hl
                obtain ⟨ha1, ha2⟩ := m_am_some hio.symm
                have haw : ¬ tA t 19 a = 0 := by have h := ha2; simp [m_exf, m_wt] at h; exact h.1.2
                have hap := hfp a (by omega) haw
                refine lv_iload S.1 S.2.1 dX5_excess_17 (lv_at hl 4 rfl) ?_
                refine lv_aload_n S.1 S.2.1 dX5_excess_19 rfl (lv_at hl 0 rfl) ?_
                refine mx_gI S hK hm hW 3 iX5 rfl (by decide) (by decide +kernel) dX5_excess_20 (v := nI nl) (Eq.trans (b := tF t 3) (by simp [tF_uF, tF_uL, tF_uA, tF_uB, tL_uF, tL_uL, tL_uA, tL_uB, tA_uF, tA_uL, tA_uA, tA_uB, tB_uF, tB_uL, tB_uA, tB_uB, m_inT_F, m_inT_L, m_inT_A, m_inT_B, m_outT_F, m_outT_L, m_outT_A, m_outT_B, m_goes_A, m_goes_B, m_goes_L, m_goes_F, m_inT_F, m_inT_L, m_inT_A, m_inT_B, m_outT_F, m_outT_L, m_outT_A, m_outT_B, m_goes_A, m_goes_B, m_goes_L, m_goes_F]) hnl) ?_
                refine lv_icmp_ge (tgt := 140) S.1 S.2.1 dX5_excess_23 (by decide) (fun c35 => ?_) (fun c35 => ?_)
                · skip
                  have hnn36 : nl = n := by omega
                  subst hnn36
                  refine lv_iload_n S.1 S.2.1 dX5_excess_140 rfl (lv_at hl 3 rfl) ?_
                  refine lv_iconst (v := (-1)) S.1 S.2.1 dX5_excess_141 (by decide) ?_
                  refine lv_icmp_eq (tgt := 166) S.1 S.2.1 dX5_excess_142 (by decide) (fun c37 => ?_) (fun c37 => ?_)
                  · skip
                    exact absurd (by first | exact c37 | exact Classical.not_not.mp c37) (nI_nm1 (by omega))
                  · skip
                    refine lv_iload_n S.1 S.2.1 dX5_excess_145 rfl (lv_at hl 1 rfl) ?_
                    refine lv_iconst (v := (-1)) S.1 S.2.1 dX5_excess_146 (by decide) ?_
                    refine lv_icmp_eq (tgt := 164) S.1 S.2.1 dX5_excess_147 (by decide) (fun c38 => ?_) (fun c38 => ?_)
                    · skip
                      exact absurd (by first | exact c38 | exact Classical.not_not.mp c38) (nI_nm1 (by omega))
                    · skip
                      refine lv_aload_n S.1 S.2.1 dX5_excess_150 rfl (lv_at hl 0 rfl) ?_
                      refine lv_iload_n S.1 S.2.1 dX5_excess_151 rfl (lv_at hl 3 rfl) ?_
                      refine mx_cV (As := [.int (nI a)]) (rest := []) (st1 := [.long ((m_gtg t fp gr a))]) S hK hZ hA hm hW hS (c_X5_groupTagOf l G nu x z mo ma (m_inT t fp gg (m_outT t fp nl gg) nl) a (m_gtg t fp gr a) (fp a) (gr a) hm (by simp [m_gtg, tF_uF, tF_uL, tF_uA, tF_uB, tL_uF, tL_uL, tL_uA, tL_uB, tA_uF, tA_uL, tA_uA, tA_uB, tB_uF, tB_uL, tB_uA, tB_uB, m_inT_F, m_inT_L, m_inT_A, m_inT_B, m_outT_F, m_outT_L, m_outT_A, m_outT_B, m_goes_A, m_goes_B, m_goes_L, m_goes_F]) (by omega) (by simp [tF_uF, tF_uL, tF_uA, tF_uB, tL_uF, tL_uL, tL_uA, tL_uB, tA_uF, tA_uL, tA_uA, tA_uB, tB_uF, tB_uL, tB_uA, tB_uB, m_inT_F, m_inT_L, m_inT_A, m_inT_B, m_outT_F, m_outT_L, m_outT_A, m_outT_B, m_goes_A, m_goes_B, m_goes_L, m_goes_F]; exact hap.1) hap.2 (by simp [tF_uF, tF_uL, tF_uA, tF_uB, tL_uF, tL_uL, tL_uA, tL_uB, tA_uF, tA_uL, tA_uA, tA_uB, tB_uF, tB_uL, tB_uA, tB_uB, m_inT_F, m_inT_L, m_inT_A, m_inT_B, m_outT_F, m_outT_L, m_outT_A, m_outT_B, m_goes_A, m_goes_B, m_goes_L, m_goes_F]; exact (hgr a (by omega)).1) (by have := (hgr a (by omega)).2; omega) (by simp [tF_uF, tF_uL, tF_uA, tF_uB, tL_uF, tL_uL, tL_uA, tL_uB, tA_uF, tA_uL, tA_uA, tA_uB, tB_uF, tB_uL, tB_uA, tB_uB, m_inT_F, m_inT_L, m_inT_A, m_inT_B, m_outT_F, m_outT_L, m_outT_A, m_outT_B, m_goes_A, m_goes_B, m_goes_L, m_goes_F]; exact hgw (gr a) (hgr a (by omega)).2)) (cwV 1 S.2.2.2.2 gX5_excess_X5_groupTagOf rfl rfl rfl (by decide +kernel) ⟨Nat.le_of_ble_eq_true rfl, Nat.le_of_ble_eq_true rfl⟩) rfl hl.1 rfl (Nat.le_of_ble_eq_true rfl) dX5_excess_152 ⟨Nat.le_of_ble_eq_true rfl, Nat.le_of_ble_eq_true rfl⟩ rfl (fun x H locs hm hW hS => ?_)
                      refine lv_aload_n S.1 S.2.1 dX5_excess_155 rfl (lv_at hl 0 rfl) ?_
                      refine lv_iload_n S.1 S.2.1 dX5_excess_156 rfl (lv_at hl 1 rfl) ?_
                      refine mx_cV (As := [.int (nI b)]) (rest := [.long ((m_gtg t fp gr a))]) (st1 := [.long ((m_gtg t fp gr b)), .long ((m_gtg t fp gr a))]) S hK hZ hA hm hW hS (c_X5_groupTagOf l G nu x z mo ma (m_inT t fp gg (m_outT t fp nl gg) nl) b (m_gtg t fp gr b) (fp b) (gr b) hm (by simp [m_gtg, tF_uF, tF_uL, tF_uA, tF_uB, tL_uF, tL_uL, tL_uA, tL_uB, tA_uF, tA_uL, tA_uA, tA_uB, tB_uF, tB_uL, tB_uA, tB_uB, m_inT_F, m_inT_L, m_inT_A, m_inT_B, m_outT_F, m_outT_L, m_outT_A, m_outT_B, m_goes_A, m_goes_B, m_goes_L, m_goes_F]) (by omega) (by simp [tF_uF, tF_uL, tF_uA, tF_uB, tL_uF, tL_uL, tL_uA, tL_uB, tA_uF, tA_uL, tA_uA, tA_uB, tB_uF, tB_uL, tB_uA, tB_uB, m_inT_F, m_inT_L, m_inT_A, m_inT_B, m_outT_F, m_outT_L, m_outT_A, m_outT_B, m_goes_A, m_goes_B, m_goes_L, m_goes_F]; exact hbp.1) hbp.2 (by simp [tF_uF, tF_uL, tF_uA, tF_uB, tL_uF, tL_uL, tL_uA, tL_uB, tA_uF, tA_uL, tA_uA, tA_uB, tB_uF, tB_uL, tB_uA, tB_uB, m_inT_F, m_inT_L, m_inT_A, m_inT_B, m_outT_F, m_outT_L, m_outT_A, m_outT_B, m_goes_A, m_goes_B, m_goes_L, m_goes_F]; exact (hgr b (by omega)).1) (by have := (hgr b (by omega)).2; omega) (by simp [tF_uF, tF_uL, tF_uA, tF_uB, tL_uF, tL_uL, tL_uA, tL_uB, tA_uF, tA_uL, tA_uA, tA_uB, tB_uF, tB_uL, tB_uA, tB_uB, m_inT_F, m_inT_L, m_inT_A, m_inT_B, m_outT_F, m_outT_L, m_outT_A, m_outT_B, m_goes_A, m_goes_B, m_goes_L, m_goes_F]; exact hgw (gr b) (hgr b (by omega)).2)) (cwV 1 S.2.2.2.2 gX5_excess_X5_groupTagOf rfl rfl rfl (by decide +kernel) ⟨Nat.le_of_ble_eq_true rfl, Nat.le_of_ble_eq_true rfl⟩) rfl hl.1 rfl (Nat.le_of_ble_eq_true rfl) dX5_excess_157 ⟨Nat.le_of_ble_eq_true rfl, Nat.le_of_ble_eq_true rfl⟩ rfl (fun x H locs hm hW hS => ?_)
                      refine kx_lc_ge (tgt := 166) S dX5_excess_160 dX5_excess_161 (by decide) (fun c39 => ?_) (fun c39 => ?_)
                      · skip
                        refine lv_iinc (v := nI (gg + 1)) (lv' := [(2, .int (nI (gg + 1))), (0, .ref mo), (1, .int (nI b)), (3, .int (nI a)), (4, .int (nI nl))]) S.1 S.2.1 dX5_excess_166 hl (k := 2) rfl (nI_1 _) (by decide) rfl (fun ls hl => ?_)
                        refine lv_goto (tgt := 4) S.1 S.2.1 dX5_excess_169 (by decide) ?_
                        exact ihlpo (gg + 1) (some b) (by omega) (by simp [m_best, m_its1, hio.symm, hbo.symm, c31, c37, c38, c39]) x _ _ ls (hm.to rfl) hW hS (lv_conv (lv_sub hl [1, 2, 0] rfl) (congr (congrArg List.cons rfl) (congr (congrArg List.cons (congrArg (fun z9 => ((1 : Nat), Value.int z9)) (show (nI b : Int32) = m_ob (some b) from by first | rfl | (rfl)))) (congr (congrArg List.cons rfl) rfl))))
                      · skip
                        refine lv_iload_n S.1 S.2.1 dX5_excess_164 rfl (lv_at hl 3 rfl) ?_
                        refine lv_istore_n (lv' := [(1, .int (nI a)), (0, .ref mo), (2, .int (nI gg)), (3, .int (nI a)), (4, .int (nI nl))]) S.1 S.2.1 dX5_excess_165 rfl hl (by decide) rfl (fun ls hl => ?_)
                        refine lv_iinc (v := nI (gg + 1)) (lv' := [(2, .int (nI (gg + 1))), (1, .int (nI a)), (0, .ref mo), (3, .int (nI a)), (4, .int (nI nl))]) S.1 S.2.1 dX5_excess_166 hl (k := 2) rfl (nI_1 _) (by decide) rfl (fun ls hl => ?_)
                        refine lv_goto (tgt := 4) S.1 S.2.1 dX5_excess_169 (by decide) ?_
                        exact ihlpo (gg + 1) (some a) (by omega) (by simp [m_best, m_its1, hio.symm, hbo.symm, c31, c37, c38, c39]) x _ _ ls (hm.to rfl) hW hS (lv_conv (lv_sub hl [2, 1, 0] rfl) (congr (congrArg List.cons rfl) (congr (congrArg List.cons (congrArg (fun z9 => ((1 : Nat), Value.int z9)) (show (nI a : Int32) = m_ob (some a) from by first | rfl | (rfl)))) (congr (congrArg List.cons rfl) rfl))))
                · skip
                  exact absurd (nI_le (a := nl) (b := n) (by omega) (by omega)) c35
            | succ dn ihlpi =>
              intro n io hndn hio x H locs ls hm hW hS hl
              rcases io with _ | a
              · skip
                have hl : lv_has ls 8 [(0, .ref mo), (1, .int (nI b)), (2, .int (nI gg)), (3, .int (-1)), (4, .int (nI n))] := hl
                refine lv_iload S.1 S.2.1 dX5_excess_17 (lv_at hl 4 rfl) ?_
                refine lv_aload_n S.1 S.2.1 dX5_excess_19 rfl (lv_at hl 0 rfl) ?_
                refine mx_gI S hK hm hW 3 iX5 rfl (by decide) (by decide +kernel) dX5_excess_20 (v := nI nl) (Eq.trans (b := tF t 3) (by simp [tF_uF, tF_uL, tF_uA, tF_uB, tL_uF, tL_uL, tL_uA, tL_uB, tA_uF, tA_uL, tA_uA, tA_uB, tB_uF, tB_uL, tB_uA, tB_uB, m_inT_F, m_inT_L, m_inT_A, m_inT_B, m_outT_F, m_outT_L, m_outT_A, m_outT_B, m_goes_A, m_goes_B, m_goes_L, m_goes_F, m_inT_F, m_inT_L, m_inT_A, m_inT_B, m_outT_F, m_outT_L, m_outT_A, m_outT_B, m_goes_A, m_goes_B, m_goes_L, m_goes_F]) hnl) ?_
                refine lv_icmp_ge (tgt := 140) S.1 S.2.1 dX5_excess_23 (by decide) (fun c40 => ?_) (fun c40 => ?_)
                · skip
                  exact absurd c40 (nI_ge (a := n) (b := nl) (by omega) (by omega))
                · skip
                  refine lv_aload_n S.1 S.2.1 dX5_excess_26 rfl (lv_at hl 0 rfl) ?_
                  refine mx_gA S hK hm hW 13 iX5 rfl (by decide) (by decide) (by decide +kernel) dX5_excess_27 ?_
                  refine lv_iload S.1 S.2.1 dX5_excess_30 (lv_at hl 4 rfl) ?_
                  refine mx_ild S hK hm hW 13 (by decide) (k := n) (kw_ixof (k := n) (n := 8) rfl (by omega) (by decide)) dX5_excess_32 (v := tA t 13 n) (by simp [tF_uF, tF_uL, tF_uA, tF_uB, tL_uF, tL_uL, tL_uA, tL_uB, tA_uF, tA_uL, tA_uA, tA_uB, tB_uF, tB_uL, tB_uA, tB_uB, m_inT_F, m_inT_L, m_inT_A, m_inT_B, m_outT_F, m_outT_L, m_outT_A, m_outT_B, m_goes_A, m_goes_B, m_goes_L, m_goes_F, m_inT_F, m_inT_L, m_inT_A, m_inT_B, m_outT_F, m_outT_L, m_outT_A, m_outT_B, m_goes_A, m_goes_B, m_goes_L, m_goes_F]) ?_
                  refine lv_iload_n S.1 S.2.1 dX5_excess_33 rfl (lv_at hl 2 rfl) ?_
                  refine lv_icmp_ne (tgt := 134) S.1 S.2.1 dX5_excess_34 (by decide) (fun c41 => ?_) (fun c41 => ?_)
                  · skip
                    refine lv_iinc (v := nI (n + 1)) (lv' := [(4, .int (nI (n + 1))), (0, .ref mo), (1, .int (nI b)), (2, .int (nI gg)), (3, .int (-1))]) S.1 S.2.1 dX5_excess_134 hl (k := 4) rfl (nI_1 _) (by decide) rfl (fun ls hl => ?_)
                    refine lv_goto (tgt := 17) S.1 S.2.1 dX5_excess_137 (by decide) ?_
                    exact ihlpi (n + 1) none (by omega) (by simp [m_am, hio.symm, m_exf, m_wt, m_rd, m_exl, c31, c40, c41]) x _ _ ls (hm.to (by simp [m_inT, m_wt, m_rd, c31, c40, c41])) hW hS (lv_conv (lv_sub hl [1, 2, 3, 4, 0] rfl) (congr (congrArg List.cons rfl) (congr (congrArg List.cons rfl) (congr (congrArg List.cons rfl) (congr (congrArg List.cons (congrArg (fun z9 => ((3 : Nat), Value.int z9)) (show (-1 : Int32) = m_ob none from by first | rfl | (rfl)))) (congr (congrArg List.cons rfl) rfl))))))
                  · skip
                    refine lv_aload_n S.1 S.2.1 dX5_excess_37 rfl (lv_at hl 0 rfl) ?_
                    refine mx_gA S hK hm hW 19 iX5 rfl (by decide) (by decide) (by decide +kernel) dX5_excess_38 ?_
                    refine lv_iload S.1 S.2.1 dX5_excess_41 (lv_at hl 4 rfl) ?_
                    refine mx_ild S hK hm hW 19 (by decide) (k := n) (kw_ixof (k := n) (n := 8) rfl (by omega) (by decide)) dX5_excess_43 (v := tA t 19 n) (by simp [tF_uF, tF_uL, tF_uA, tF_uB, tL_uF, tL_uL, tL_uA, tL_uB, tA_uF, tA_uL, tA_uA, tA_uB, tB_uF, tB_uL, tB_uA, tB_uB, m_inT_F, m_inT_L, m_inT_A, m_inT_B, m_outT_F, m_outT_L, m_outT_A, m_outT_B, m_goes_A, m_goes_B, m_goes_L, m_goes_F, m_inT_F, m_inT_L, m_inT_A, m_inT_B, m_outT_F, m_outT_L, m_outT_A, m_outT_B, m_goes_A, m_goes_B, m_goes_L, m_goes_F]) ?_
                    refine lv_if_ne (tgt := 50) S.1 S.2.1 dX5_excess_44 (by decide) (fun c42 => ?_) (fun c42 => ?_)
                    · skip
                      have hfn := hfp n (by omega) (by assumption)
                      have hfm := hfn.2
                      refine lv_ldc2 (v := 1000) S.1 S.2.1 S.2.2.2.1 (S.2.2.2.2 _ (by decide +kernel)) dX5_excess_50 ?_
                      refine lv_aload_n S.1 S.2.1 dX5_excess_53 rfl (lv_at hl 0 rfl) ?_
                      refine mx_gA S hK hm hW 34 iX5 rfl (by decide) (by decide) (by decide +kernel) dX5_excess_54 ?_
                      refine lv_aload_n S.1 S.2.1 dX5_excess_57 rfl (lv_at hl 0 rfl) ?_
                      refine mx_gA S hK hm hW 17 iX5 rfl (by decide) (by decide) (by decide +kernel) dX5_excess_58 ?_
                      refine lv_iload S.1 S.2.1 dX5_excess_61 (lv_at hl 4 rfl) ?_
                      refine mx_ild S hK hm hW 17 (by decide) (k := n) (kw_ixof (k := n) (n := 8) rfl (by omega) (by decide)) dX5_excess_63 (v := nI (fp n)) (Eq.trans (b := tA t 17 n) (by simp [tF_uF, tF_uL, tF_uA, tF_uB, tL_uF, tL_uL, tL_uA, tL_uB, tA_uF, tA_uL, tA_uA, tA_uB, tB_uF, tB_uL, tB_uA, tB_uB, m_inT_F, m_inT_L, m_inT_A, m_inT_B, m_outT_F, m_outT_L, m_outT_A, m_outT_B, m_goes_A, m_goes_B, m_goes_L, m_goes_F, m_inT_F, m_inT_L, m_inT_A, m_inT_B, m_outT_F, m_outT_L, m_outT_A, m_outT_B, m_goes_A, m_goes_B, m_goes_L, m_goes_F]) hfn.1) ?_
                      refine mx_ild S hK hm hW 34 (by decide) (k := (fp n)) (kw_ixof (k := fp n) (n := 1000) rfl (by omega) (by decide)) dX5_excess_64 (v := tA t 34 (fp n)) (by simp [tF_uF, tF_uL, tF_uA, tF_uB, tL_uF, tL_uL, tL_uA, tL_uB, tA_uF, tA_uL, tA_uA, tA_uB, tB_uF, tB_uL, tB_uA, tB_uB, m_inT_F, m_inT_L, m_inT_A, m_inT_B, m_outT_F, m_outT_L, m_outT_A, m_outT_B, m_goes_A, m_goes_B, m_goes_L, m_goes_F, m_inT_F, m_inT_L, m_inT_A, m_inT_B, m_outT_F, m_outT_L, m_outT_A, m_outT_B, m_goes_A, m_goes_B, m_goes_L, m_goes_F]) ?_
                      refine lv_i2l S.1 S.2.1 dX5_excess_65 rfl ?_
                      refine lv_lmul S.1 S.2.1 dX5_excess_66 ?_
                      refine lv_lstore (lv' := [(5, .long ((1000) * ((tA t 34 (fp n)).toInt64))), (0, .ref mo), (1, .int (nI b)), (2, .int (nI gg)), (3, .int (-1)), (4, .int (nI n))]) S.1 S.2.1 dX5_excess_67 hl (by decide) rfl (fun ls hl => ?_)
                      refine lv_aload_n S.1 S.2.1 dX5_excess_69 rfl (lv_at hl 1 rfl) ?_
                      refine mx_gA S hK hm hW 32 iX5 rfl (by decide) (by decide) (by decide +kernel) dX5_excess_70 ?_
                      refine lv_iload S.1 S.2.1 dX5_excess_73 (lv_at hl 5 rfl) ?_
                      refine mx_lld S hK hm hW 32 (by decide) (k := n) (kw_ixof (k := n) (n := 20) rfl (by omega) (by decide)) dX5_excess_75 (v := tB t 32 n) (by simp [tF_uF, tF_uL, tF_uA, tF_uB, tL_uF, tL_uL, tL_uA, tL_uB, tA_uF, tA_uL, tA_uA, tA_uB, tB_uF, tB_uL, tB_uA, tB_uB, m_inT_F, m_inT_L, m_inT_A, m_inT_B, m_outT_F, m_outT_L, m_outT_A, m_outT_B, m_goes_A, m_goes_B, m_goes_L, m_goes_F, m_inT_F, m_inT_L, m_inT_A, m_inT_B, m_outT_F, m_outT_L, m_outT_A, m_outT_B, m_goes_A, m_goes_B, m_goes_L, m_goes_F]) ?_
                      refine lv_lload S.1 S.2.1 dX5_excess_76 (lv_at hl 0 rfl) ?_
                      refine kx_lc_lt (tgt := 97) S dX5_excess_78 dX5_excess_79 (by decide) (fun c43 => ?_) (fun c43 => ?_)
                      · skip
                        refine lv_aload_n S.1 S.2.1 dX5_excess_97 rfl (lv_at hl 1 rfl) ?_
                        refine mx_gA S hK hm hW 26 iX5 rfl (by decide) (by decide) (by decide +kernel) dX5_excess_98 ?_
                        refine lv_iload S.1 S.2.1 dX5_excess_101 (lv_at hl 5 rfl) ?_
                        refine lv_dup2_11 S.1 S.2.1 dX5_excess_103 rfl rfl ?_
                        refine mx_ild S hK hm hW 26 (by decide) (k := n) (kw_ixof (k := n) (n := 8) rfl (by omega) (by decide)) dX5_excess_104 (v := tA (m_inT t fp gg (m_outT t fp nl gg) n) 26 n) rfl ?_
                        refine lv_iconst (v := 1) S.1 S.2.1 dX5_excess_105 (by decide) ?_
                        refine lv_iadd S.1 S.2.1 dX5_excess_106 ?_
                        refine mx_ist S hK hm hW hS 26 (by decide) (k := n) (kw_ixof (k := n) (n := 8) rfl (by omega) (by decide)) dX5_excess_107 (fun x H locs hm hW hS => ?_)
                        refine lv_goto (tgt := 134) S.1 S.2.1 dX5_excess_108 (by decide) ?_
                        refine lv_iinc (v := nI (n + 1)) (lv' := [(4, .int (nI (n + 1))), (5, .long ((1000) * ((tA t 34 (fp n)).toInt64))), (0, .ref mo), (1, .int (nI b)), (2, .int (nI gg)), (3, .int (-1))]) S.1 S.2.1 dX5_excess_134 hl (k := 5) rfl (nI_1 _) (by decide) rfl (fun ls hl => ?_)
                        refine lv_goto (tgt := 17) S.1 S.2.1 dX5_excess_137 (by decide) ?_
                        exact ihlpi (n + 1) none (by omega) (by simp [m_am, hio.symm, m_exf, m_wt, m_rd, m_exl, c31, c40, eq_true c41, c42, c43]) x _ _ ls (hm.to (by simp [m_inT, m_wt, m_rd, c31, c40, eq_true c41, c42, c43])) hW hS (lv_conv (lv_sub hl [2, 3, 4, 5, 0] rfl) (congr (congrArg List.cons rfl) (congr (congrArg List.cons rfl) (congr (congrArg List.cons rfl) (congr (congrArg List.cons (congrArg (fun z9 => ((3 : Nat), Value.int z9)) (show (-1 : Int32) = m_ob none from by first | rfl | (rfl)))) (congr (congrArg List.cons rfl) rfl))))))
                      · skip
                        refine lv_aload_n S.1 S.2.1 dX5_excess_82 rfl (lv_at hl 1 rfl) ?_
                        refine mx_gA S hK hm hW 32 iX5 rfl (by decide) (by decide) (by decide +kernel) dX5_excess_83 ?_
                        refine lv_bipush (v := 8) S.1 S.2.1 dX5_excess_86 (by decide) ?_
                        refine lv_iload_n S.1 S.2.1 dX5_excess_88 rfl (lv_at hl 3 rfl) ?_
                        refine lv_iadd S.1 S.2.1 dX5_excess_89 ?_
                        rw [show (8 : Int32) + nI gg = nI (8 + gg) from nI_add (8) (gg)]
                        refine mx_lld S hK hm hW 32 (by decide) (k := (8 + gg)) (kw_ixof (k := 8 + gg) (n := 20) rfl (by omega) (by decide)) dX5_excess_90 (v := tB t 32 (8 + gg)) (by simp [tF_uF, tF_uL, tF_uA, tF_uB, tL_uF, tL_uL, tL_uA, tL_uB, tA_uF, tA_uL, tA_uA, tA_uB, tB_uF, tB_uL, tB_uA, tB_uB, m_inT_F, m_inT_L, m_inT_A, m_inT_B, m_outT_F, m_outT_L, m_outT_A, m_outT_B, m_goes_A, m_goes_B, m_goes_L, m_goes_F, m_inT_F, m_inT_L, m_inT_A, m_inT_B, m_outT_F, m_outT_L, m_outT_A, m_outT_B, m_goes_A, m_goes_B, m_goes_L, m_goes_F]) ?_
                        refine lv_lload S.1 S.2.1 dX5_excess_91 (lv_at hl 0 rfl) ?_
                        refine kx_lc_ge (tgt := 111) S dX5_excess_93 dX5_excess_94 (by decide) (fun c44 => ?_) (fun c44 => ?_)
                        · skip
                          refine lv_iload_n S.1 S.2.1 dX5_excess_111 rfl (lv_at hl 4 rfl) ?_
                          refine lv_iconst (v := (-1)) S.1 S.2.1 dX5_excess_112 (by decide) ?_
                          refine lv_icmp_eq (tgt := 131) S.1 S.2.1 dX5_excess_113 (by decide) (fun c45 => ?_) (fun c45 => ?_)
                          · skip
                            refine lv_iload S.1 S.2.1 dX5_excess_131 (lv_at hl 5 rfl) ?_
                            refine lv_istore_n (lv' := [(3, .int (nI n)), (5, .long ((1000) * ((tA t 34 (fp n)).toInt64))), (0, .ref mo), (1, .int (nI b)), (2, .int (nI gg)), (4, .int (nI n))]) S.1 S.2.1 dX5_excess_133 rfl hl (by decide) rfl (fun ls hl => ?_)
                            refine lv_iinc (v := nI (n + 1)) (lv' := [(4, .int (nI (n + 1))), (3, .int (nI n)), (5, .long ((1000) * ((tA t 34 (fp n)).toInt64))), (0, .ref mo), (1, .int (nI b)), (2, .int (nI gg))]) S.1 S.2.1 dX5_excess_134 hl (k := 5) rfl (nI_1 _) (by decide) rfl (fun ls hl => ?_)
                            refine lv_goto (tgt := 17) S.1 S.2.1 dX5_excess_137 (by decide) ?_
                            exact ihlpi (n + 1) (some n) (by omega) (by simp [m_am, hio.symm, m_exf, m_wt, m_rd, m_exl, c31, c40, eq_true c41, c42, c43, c44, eq_true c45]) x _ _ ls (hm.to (by simp [m_inT, m_wt, m_rd, c31, c40, eq_true c41, c42, c43, c44, eq_true c45])) hW hS (lv_conv (lv_sub hl [3, 4, 5, 1, 0] rfl) (congr (congrArg List.cons rfl) (congr (congrArg List.cons rfl) (congr (congrArg List.cons rfl) (congr (congrArg List.cons (congrArg (fun z9 => ((3 : Nat), Value.int z9)) (show (nI n : Int32) = m_ob (some n) from by first | rfl | (rfl)))) (congr (congrArg List.cons rfl) rfl))))))
                          · skip
                            exact absurd c45 (by decide)
                        · skip
                          refine lv_aload_n S.1 S.2.1 dX5_excess_97 rfl (lv_at hl 1 rfl) ?_
                          refine mx_gA S hK hm hW 26 iX5 rfl (by decide) (by decide) (by decide +kernel) dX5_excess_98 ?_
                          refine lv_iload S.1 S.2.1 dX5_excess_101 (lv_at hl 5 rfl) ?_
                          refine lv_dup2_11 S.1 S.2.1 dX5_excess_103 rfl rfl ?_
                          refine mx_ild S hK hm hW 26 (by decide) (k := n) (kw_ixof (k := n) (n := 8) rfl (by omega) (by decide)) dX5_excess_104 (v := tA (m_inT t fp gg (m_outT t fp nl gg) n) 26 n) rfl ?_
                          refine lv_iconst (v := 1) S.1 S.2.1 dX5_excess_105 (by decide) ?_
                          refine lv_iadd S.1 S.2.1 dX5_excess_106 ?_
                          refine mx_ist S hK hm hW hS 26 (by decide) (k := n) (kw_ixof (k := n) (n := 8) rfl (by omega) (by decide)) dX5_excess_107 (fun x H locs hm hW hS => ?_)
                          refine lv_goto (tgt := 134) S.1 S.2.1 dX5_excess_108 (by decide) ?_
                          refine lv_iinc (v := nI (n + 1)) (lv' := [(4, .int (nI (n + 1))), (5, .long ((1000) * ((tA t 34 (fp n)).toInt64))), (0, .ref mo), (1, .int (nI b)), (2, .int (nI gg)), (3, .int (-1))]) S.1 S.2.1 dX5_excess_134 hl (k := 5) rfl (nI_1 _) (by decide) rfl (fun ls hl => ?_)
                          refine lv_goto (tgt := 17) S.1 S.2.1 dX5_excess_137 (by decide) ?_
                          exact ihlpi (n + 1) none (by omega) (by simp [m_am, hio.symm, m_exf, m_wt, m_rd, m_exl, c31, c40, eq_true c41, c42, c43, c44]) x _ _ ls (hm.to (by simp [m_inT, m_wt, m_rd, c31, c40, eq_true c41, c42, c43, c44])) hW hS (lv_conv (lv_sub hl [2, 3, 4, 5, 0] rfl) (congr (congrArg List.cons rfl) (congr (congrArg List.cons rfl) (congr (congrArg List.cons rfl) (congr (congrArg List.cons (congrArg (fun z9 => ((3 : Nat), Value.int z9)) (show (-1 : Int32) = m_ob none from by first | rfl | (rfl)))) (congr (congrArg List.cons rfl) rfl))))))
                    · skip
                      refine lv_goto (tgt := 134) S.1 S.2.1 dX5_excess_47 (by decide) ?_
                      refine lv_iinc (v := nI (n + 1)) (lv' := [(4, .int (nI (n + 1))), (0, .ref mo), (1, .int (nI b)), (2, .int (nI gg)), (3, .int (-1))]) S.1 S.2.1 dX5_excess_134 hl (k := 4) rfl (nI_1 _) (by decide) rfl (fun ls hl => ?_)
                      refine lv_goto (tgt := 17) S.1 S.2.1 dX5_excess_137 (by decide) ?_
                      exact ihlpi (n + 1) none (by omega) (by simp [m_am, hio.symm, m_exf, m_wt, m_rd, m_exl, c31, c40, eq_true c41, eq_true c42]) x _ _ ls (hm.to (by simp [m_inT, m_wt, m_rd, c31, c40, eq_true c41, eq_true c42])) hW hS (lv_conv (lv_sub hl [1, 2, 3, 4, 0] rfl) (congr (congrArg List.cons rfl) (congr (congrArg List.cons rfl) (congr (congrArg List.cons rfl) (congr (congrArg List.cons (congrArg (fun z9 => ((3 : Nat), Value.int z9)) (show (-1 : Int32) = m_ob none from by first | rfl | (rfl)))) (congr (congrArg List.cons rfl) rfl))))))
              · skip
                have hl : lv_has ls 8 [(0, .ref mo), (1, .int (nI b)), (2, .int (nI gg)), (3, .int (nI a)), (4, .int (nI n))] := hl
                obtain ⟨ha1, ha2⟩ := m_am_some hio.symm
                have haw : ¬ tA t 19 a = 0 := by have h := ha2; simp [m_exf, m_wt] at h; exact h.1.2
                have hap := hfp a (by omega) haw
                refine lv_iload S.1 S.2.1 dX5_excess_17 (lv_at hl 4 rfl) ?_
                refine lv_aload_n S.1 S.2.1 dX5_excess_19 rfl (lv_at hl 0 rfl) ?_
                refine mx_gI S hK hm hW 3 iX5 rfl (by decide) (by decide +kernel) dX5_excess_20 (v := nI nl) (Eq.trans (b := tF t 3) (by simp [tF_uF, tF_uL, tF_uA, tF_uB, tL_uF, tL_uL, tL_uA, tL_uB, tA_uF, tA_uL, tA_uA, tA_uB, tB_uF, tB_uL, tB_uA, tB_uB, m_inT_F, m_inT_L, m_inT_A, m_inT_B, m_outT_F, m_outT_L, m_outT_A, m_outT_B, m_goes_A, m_goes_B, m_goes_L, m_goes_F, m_inT_F, m_inT_L, m_inT_A, m_inT_B, m_outT_F, m_outT_L, m_outT_A, m_outT_B, m_goes_A, m_goes_B, m_goes_L, m_goes_F]) hnl) ?_
                refine lv_icmp_ge (tgt := 140) S.1 S.2.1 dX5_excess_23 (by decide) (fun c46 => ?_) (fun c46 => ?_)
                · skip
                  exact absurd c46 (nI_ge (a := n) (b := nl) (by omega) (by omega))
                · skip
                  refine lv_aload_n S.1 S.2.1 dX5_excess_26 rfl (lv_at hl 0 rfl) ?_
                  refine mx_gA S hK hm hW 13 iX5 rfl (by decide) (by decide) (by decide +kernel) dX5_excess_27 ?_
                  refine lv_iload S.1 S.2.1 dX5_excess_30 (lv_at hl 4 rfl) ?_
                  refine mx_ild S hK hm hW 13 (by decide) (k := n) (kw_ixof (k := n) (n := 8) rfl (by omega) (by decide)) dX5_excess_32 (v := tA t 13 n) (by simp [tF_uF, tF_uL, tF_uA, tF_uB, tL_uF, tL_uL, tL_uA, tL_uB, tA_uF, tA_uL, tA_uA, tA_uB, tB_uF, tB_uL, tB_uA, tB_uB, m_inT_F, m_inT_L, m_inT_A, m_inT_B, m_outT_F, m_outT_L, m_outT_A, m_outT_B, m_goes_A, m_goes_B, m_goes_L, m_goes_F, m_inT_F, m_inT_L, m_inT_A, m_inT_B, m_outT_F, m_outT_L, m_outT_A, m_outT_B, m_goes_A, m_goes_B, m_goes_L, m_goes_F]) ?_
                  refine lv_iload_n S.1 S.2.1 dX5_excess_33 rfl (lv_at hl 2 rfl) ?_
                  refine lv_icmp_ne (tgt := 134) S.1 S.2.1 dX5_excess_34 (by decide) (fun c47 => ?_) (fun c47 => ?_)
                  · skip
                    refine lv_iinc (v := nI (n + 1)) (lv' := [(4, .int (nI (n + 1))), (0, .ref mo), (1, .int (nI b)), (2, .int (nI gg)), (3, .int (nI a))]) S.1 S.2.1 dX5_excess_134 hl (k := 4) rfl (nI_1 _) (by decide) rfl (fun ls hl => ?_)
                    refine lv_goto (tgt := 17) S.1 S.2.1 dX5_excess_137 (by decide) ?_
                    exact ihlpi (n + 1) (some a) (by omega) (by simp [m_am, hio.symm, m_exf, m_wt, m_rd, m_exl, c31, c46, c47]) x _ _ ls (hm.to (by simp [m_inT, m_wt, m_rd, c31, c46, c47])) hW hS (lv_conv (lv_sub hl [1, 2, 3, 4, 0] rfl) (congr (congrArg List.cons rfl) (congr (congrArg List.cons rfl) (congr (congrArg List.cons rfl) (congr (congrArg List.cons (congrArg (fun z9 => ((3 : Nat), Value.int z9)) (show (nI a : Int32) = m_ob (some a) from by first | rfl | (rfl)))) (congr (congrArg List.cons rfl) rfl))))))
                  · skip
                    refine lv_aload_n S.1 S.2.1 dX5_excess_37 rfl (lv_at hl 0 rfl) ?_
                    refine mx_gA S hK hm hW 19 iX5 rfl (by decide) (by decide) (by decide +kernel) dX5_excess_38 ?_
                    refine lv_iload S.1 S.2.1 dX5_excess_41 (lv_at hl 4 rfl) ?_
                    refine mx_ild S hK hm hW 19 (by decide) (k := n) (kw_ixof (k := n) (n := 8) rfl (by omega) (by decide)) dX5_excess_43 (v := tA t 19 n) (by simp [tF_uF, tF_uL, tF_uA, tF_uB, tL_uF, tL_uL, tL_uA, tL_uB, tA_uF, tA_uL, tA_uA, tA_uB, tB_uF, tB_uL, tB_uA, tB_uB, m_inT_F, m_inT_L, m_inT_A, m_inT_B, m_outT_F, m_outT_L, m_outT_A, m_outT_B, m_goes_A, m_goes_B, m_goes_L, m_goes_F, m_inT_F, m_inT_L, m_inT_A, m_inT_B, m_outT_F, m_outT_L, m_outT_A, m_outT_B, m_goes_A, m_goes_B, m_goes_L, m_goes_F]) ?_
                    refine lv_if_ne (tgt := 50) S.1 S.2.1 dX5_excess_44 (by decide) (fun c48 => ?_) (fun c48 => ?_)
                    · skip
                      have hfn := hfp n (by omega) (by assumption)
                      have hfm := hfn.2
                      refine lv_ldc2 (v := 1000) S.1 S.2.1 S.2.2.2.1 (S.2.2.2.2 _ (by decide +kernel)) dX5_excess_50 ?_
                      refine lv_aload_n S.1 S.2.1 dX5_excess_53 rfl (lv_at hl 0 rfl) ?_
                      refine mx_gA S hK hm hW 34 iX5 rfl (by decide) (by decide) (by decide +kernel) dX5_excess_54 ?_
                      refine lv_aload_n S.1 S.2.1 dX5_excess_57 rfl (lv_at hl 0 rfl) ?_
                      refine mx_gA S hK hm hW 17 iX5 rfl (by decide) (by decide) (by decide +kernel) dX5_excess_58 ?_
                      refine lv_iload S.1 S.2.1 dX5_excess_61 (lv_at hl 4 rfl) ?_
                      refine mx_ild S hK hm hW 17 (by decide) (k := n) (kw_ixof (k := n) (n := 8) rfl (by omega) (by decide)) dX5_excess_63 (v := nI (fp n)) (Eq.trans (b := tA t 17 n) (by simp [tF_uF, tF_uL, tF_uA, tF_uB, tL_uF, tL_uL, tL_uA, tL_uB, tA_uF, tA_uL, tA_uA, tA_uB, tB_uF, tB_uL, tB_uA, tB_uB, m_inT_F, m_inT_L, m_inT_A, m_inT_B, m_outT_F, m_outT_L, m_outT_A, m_outT_B, m_goes_A, m_goes_B, m_goes_L, m_goes_F, m_inT_F, m_inT_L, m_inT_A, m_inT_B, m_outT_F, m_outT_L, m_outT_A, m_outT_B, m_goes_A, m_goes_B, m_goes_L, m_goes_F]) hfn.1) ?_
                      refine mx_ild S hK hm hW 34 (by decide) (k := (fp n)) (kw_ixof (k := fp n) (n := 1000) rfl (by omega) (by decide)) dX5_excess_64 (v := tA t 34 (fp n)) (by simp [tF_uF, tF_uL, tF_uA, tF_uB, tL_uF, tL_uL, tL_uA, tL_uB, tA_uF, tA_uL, tA_uA, tA_uB, tB_uF, tB_uL, tB_uA, tB_uB, m_inT_F, m_inT_L, m_inT_A, m_inT_B, m_outT_F, m_outT_L, m_outT_A, m_outT_B, m_goes_A, m_goes_B, m_goes_L, m_goes_F, m_inT_F, m_inT_L, m_inT_A, m_inT_B, m_outT_F, m_outT_L, m_outT_A, m_outT_B, m_goes_A, m_goes_B, m_goes_L, m_goes_F]) ?_
                      refine lv_i2l S.1 S.2.1 dX5_excess_65 rfl ?_
                      refine lv_lmul S.1 S.2.1 dX5_excess_66 ?_
                      refine lv_lstore (lv' := [(5, .long ((1000) * ((tA t 34 (fp n)).toInt64))), (0, .ref mo), (1, .int (nI b)), (2, .int (nI gg)), (3, .int (nI a)), (4, .int (nI n))]) S.1 S.2.1 dX5_excess_67 hl (by decide) rfl (fun ls hl => ?_)
                      refine lv_aload_n S.1 S.2.1 dX5_excess_69 rfl (lv_at hl 1 rfl) ?_
                      refine mx_gA S hK hm hW 32 iX5 rfl (by decide) (by decide) (by decide +kernel) dX5_excess_70 ?_
                      refine lv_iload S.1 S.2.1 dX5_excess_73 (lv_at hl 5 rfl) ?_
                      refine mx_lld S hK hm hW 32 (by decide) (k := n) (kw_ixof (k := n) (n := 20) rfl (by omega) (by decide)) dX5_excess_75 (v := tB t 32 n) (by simp [tF_uF, tF_uL, tF_uA, tF_uB, tL_uF, tL_uL, tL_uA, tL_uB, tA_uF, tA_uL, tA_uA, tA_uB, tB_uF, tB_uL, tB_uA, tB_uB, m_inT_F, m_inT_L, m_inT_A, m_inT_B, m_outT_F, m_outT_L, m_outT_A, m_outT_B, m_goes_A, m_goes_B, m_goes_L, m_goes_F, m_inT_F, m_inT_L, m_inT_A, m_inT_B, m_outT_F, m_outT_L, m_outT_A, m_outT_B, m_goes_A, m_goes_B, m_goes_L, m_goes_F]) ?_
                      refine lv_lload S.1 S.2.1 dX5_excess_76 (lv_at hl 0 rfl) ?_
                      refine kx_lc_lt (tgt := 97) S dX5_excess_78 dX5_excess_79 (by decide) (fun c49 => ?_) (fun c49 => ?_)
                      · skip
                        refine lv_aload_n S.1 S.2.1 dX5_excess_97 rfl (lv_at hl 1 rfl) ?_
                        refine mx_gA S hK hm hW 26 iX5 rfl (by decide) (by decide) (by decide +kernel) dX5_excess_98 ?_
                        refine lv_iload S.1 S.2.1 dX5_excess_101 (lv_at hl 5 rfl) ?_
                        refine lv_dup2_11 S.1 S.2.1 dX5_excess_103 rfl rfl ?_
                        refine mx_ild S hK hm hW 26 (by decide) (k := n) (kw_ixof (k := n) (n := 8) rfl (by omega) (by decide)) dX5_excess_104 (v := tA (m_inT t fp gg (m_outT t fp nl gg) n) 26 n) rfl ?_
                        refine lv_iconst (v := 1) S.1 S.2.1 dX5_excess_105 (by decide) ?_
                        refine lv_iadd S.1 S.2.1 dX5_excess_106 ?_
                        refine mx_ist S hK hm hW hS 26 (by decide) (k := n) (kw_ixof (k := n) (n := 8) rfl (by omega) (by decide)) dX5_excess_107 (fun x H locs hm hW hS => ?_)
                        refine lv_goto (tgt := 134) S.1 S.2.1 dX5_excess_108 (by decide) ?_
                        refine lv_iinc (v := nI (n + 1)) (lv' := [(4, .int (nI (n + 1))), (5, .long ((1000) * ((tA t 34 (fp n)).toInt64))), (0, .ref mo), (1, .int (nI b)), (2, .int (nI gg)), (3, .int (nI a))]) S.1 S.2.1 dX5_excess_134 hl (k := 5) rfl (nI_1 _) (by decide) rfl (fun ls hl => ?_)
                        refine lv_goto (tgt := 17) S.1 S.2.1 dX5_excess_137 (by decide) ?_
                        exact ihlpi (n + 1) (some a) (by omega) (by simp [m_am, hio.symm, m_exf, m_wt, m_rd, m_exl, c31, c46, eq_true c47, c48, c49]) x _ _ ls (hm.to (by simp [m_inT, m_wt, m_rd, c31, c46, eq_true c47, c48, c49])) hW hS (lv_conv (lv_sub hl [2, 3, 4, 5, 0] rfl) (congr (congrArg List.cons rfl) (congr (congrArg List.cons rfl) (congr (congrArg List.cons rfl) (congr (congrArg List.cons (congrArg (fun z9 => ((3 : Nat), Value.int z9)) (show (nI a : Int32) = m_ob (some a) from by first | rfl | (rfl)))) (congr (congrArg List.cons rfl) rfl))))))
                      · skip
                        refine lv_aload_n S.1 S.2.1 dX5_excess_82 rfl (lv_at hl 1 rfl) ?_
                        refine mx_gA S hK hm hW 32 iX5 rfl (by decide) (by decide) (by decide +kernel) dX5_excess_83 ?_
                        refine lv_bipush (v := 8) S.1 S.2.1 dX5_excess_86 (by decide) ?_
                        refine lv_iload_n S.1 S.2.1 dX5_excess_88 rfl (lv_at hl 3 rfl) ?_
                        refine lv_iadd S.1 S.2.1 dX5_excess_89 ?_
                        rw [show (8 : Int32) + nI gg = nI (8 + gg) from nI_add (8) (gg)]
                        refine mx_lld S hK hm hW 32 (by decide) (k := (8 + gg)) (kw_ixof (k := 8 + gg) (n := 20) rfl (by omega) (by decide)) dX5_excess_90 (v := tB t 32 (8 + gg)) (by simp [tF_uF, tF_uL, tF_uA, tF_uB, tL_uF, tL_uL, tL_uA, tL_uB, tA_uF, tA_uL, tA_uA, tA_uB, tB_uF, tB_uL, tB_uA, tB_uB, m_inT_F, m_inT_L, m_inT_A, m_inT_B, m_outT_F, m_outT_L, m_outT_A, m_outT_B, m_goes_A, m_goes_B, m_goes_L, m_goes_F, m_inT_F, m_inT_L, m_inT_A, m_inT_B, m_outT_F, m_outT_L, m_outT_A, m_outT_B, m_goes_A, m_goes_B, m_goes_L, m_goes_F]) ?_
                        refine lv_lload S.1 S.2.1 dX5_excess_91 (lv_at hl 0 rfl) ?_
                        refine kx_lc_ge (tgt := 111) S dX5_excess_93 dX5_excess_94 (by decide) (fun c50 => ?_) (fun c50 => ?_)
                        · skip
                          refine lv_iload_n S.1 S.2.1 dX5_excess_111 rfl (lv_at hl 4 rfl) ?_
                          refine lv_iconst (v := (-1)) S.1 S.2.1 dX5_excess_112 (by decide) ?_
                          refine lv_icmp_eq (tgt := 131) S.1 S.2.1 dX5_excess_113 (by decide) (fun c51 => ?_) (fun c51 => ?_)
                          · skip
                            exact absurd (by first | exact c51 | exact Classical.not_not.mp c51) (nI_nm1 (by omega))
                          · skip
                            refine lv_aload_n S.1 S.2.1 dX5_excess_116 rfl (lv_at hl 1 rfl) ?_
                            refine lv_iload S.1 S.2.1 dX5_excess_117 (lv_at hl 5 rfl) ?_
                            refine mx_cV (As := [.int (nI n)]) (rest := []) (st1 := [.long ((m_tg t fp n))]) S hK hZ hA hm hW hS (c_X5_tagOf l G nu x z mo ma (m_inT t fp gg (m_outT t fp nl gg) n) n (m_tg t fp n) (fp n) hm (by simp [m_tg, tF_uF, tF_uL, tF_uA, tF_uB, tL_uF, tL_uL, tL_uA, tL_uB, tA_uF, tA_uL, tA_uA, tA_uB, tB_uF, tB_uL, tB_uA, tB_uB, m_inT_F, m_inT_L, m_inT_A, m_inT_B, m_outT_F, m_outT_L, m_outT_A, m_outT_B, m_goes_A, m_goes_B, m_goes_L, m_goes_F]) (by omega) (by simp [tF_uF, tF_uL, tF_uA, tF_uB, tL_uF, tL_uL, tL_uA, tL_uB, tA_uF, tA_uL, tA_uA, tA_uB, tB_uF, tB_uL, tB_uA, tB_uB, m_inT_F, m_inT_L, m_inT_A, m_inT_B, m_outT_F, m_outT_L, m_outT_A, m_outT_B, m_goes_A, m_goes_B, m_goes_L, m_goes_F]; exact hfn.1) hfn.2 (by simp [tF_uF, tF_uL, tF_uA, tF_uB, tL_uF, tL_uL, tL_uA, tL_uB, tA_uF, tA_uL, tA_uA, tA_uB, tB_uF, tB_uL, tB_uA, tB_uB, m_inT_F, m_inT_L, m_inT_A, m_inT_B, m_outT_F, m_outT_L, m_outT_A, m_outT_B, m_goes_A, m_goes_B, m_goes_L, m_goes_F]; exact hwe n (by omega))) (cwV 1 S.2.2.2.2 gX5_excess_X5_tagOf rfl rfl rfl (by decide +kernel) ⟨Nat.le_of_ble_eq_true rfl, Nat.le_of_ble_eq_true rfl⟩) rfl hl.1 rfl (Nat.le_of_ble_eq_true rfl) dX5_excess_119 ⟨Nat.le_of_ble_eq_true rfl, Nat.le_of_ble_eq_true rfl⟩ rfl (fun x H locs hm hW hS => ?_)
                            refine lv_aload_n S.1 S.2.1 dX5_excess_122 rfl (lv_at hl 1 rfl) ?_
                            refine lv_iload_n S.1 S.2.1 dX5_excess_123 rfl (lv_at hl 4 rfl) ?_
                            refine mx_cV (As := [.int (nI a)]) (rest := [.long ((m_tg t fp n))]) (st1 := [.long ((m_tg t fp a)), .long ((m_tg t fp n))]) S hK hZ hA hm hW hS (c_X5_tagOf l G nu x z mo ma (m_inT t fp gg (m_outT t fp nl gg) n) a (m_tg t fp a) (fp a) hm (by simp [m_tg, tF_uF, tF_uL, tF_uA, tF_uB, tL_uF, tL_uL, tL_uA, tL_uB, tA_uF, tA_uL, tA_uA, tA_uB, tB_uF, tB_uL, tB_uA, tB_uB, m_inT_F, m_inT_L, m_inT_A, m_inT_B, m_outT_F, m_outT_L, m_outT_A, m_outT_B, m_goes_A, m_goes_B, m_goes_L, m_goes_F]) (by omega) (by simp [tF_uF, tF_uL, tF_uA, tF_uB, tL_uF, tL_uL, tL_uA, tL_uB, tA_uF, tA_uL, tA_uA, tA_uB, tB_uF, tB_uL, tB_uA, tB_uB, m_inT_F, m_inT_L, m_inT_A, m_inT_B, m_outT_F, m_outT_L, m_outT_A, m_outT_B, m_goes_A, m_goes_B, m_goes_L, m_goes_F]; exact hap.1) hap.2 (by simp [tF_uF, tF_uL, tF_uA, tF_uB, tL_uF, tL_uL, tL_uA, tL_uB, tA_uF, tA_uL, tA_uA, tA_uB, tB_uF, tB_uL, tB_uA, tB_uB, m_inT_F, m_inT_L, m_inT_A, m_inT_B, m_outT_F, m_outT_L, m_outT_A, m_outT_B, m_goes_A, m_goes_B, m_goes_L, m_goes_F]; exact hwe a (by omega))) (cwV 1 S.2.2.2.2 gX5_excess_X5_tagOf rfl rfl rfl (by decide +kernel) ⟨Nat.le_of_ble_eq_true rfl, Nat.le_of_ble_eq_true rfl⟩) rfl hl.1 rfl (Nat.le_of_ble_eq_true rfl) dX5_excess_124 ⟨Nat.le_of_ble_eq_true rfl, Nat.le_of_ble_eq_true rfl⟩ rfl (fun x H locs hm hW hS => ?_)
                            refine kx_lc_ge (tgt := 134) S dX5_excess_127 dX5_excess_128 (by decide) (fun c52 => ?_) (fun c52 => ?_)
                            · skip
                              refine lv_iinc (v := nI (n + 1)) (lv' := [(4, .int (nI (n + 1))), (5, .long ((1000) * ((tA t 34 (fp n)).toInt64))), (0, .ref mo), (1, .int (nI b)), (2, .int (nI gg)), (3, .int (nI a))]) S.1 S.2.1 dX5_excess_134 hl (k := 5) rfl (nI_1 _) (by decide) rfl (fun ls hl => ?_)
                              refine lv_goto (tgt := 17) S.1 S.2.1 dX5_excess_137 (by decide) ?_
                              exact ihlpi (n + 1) (some a) (by omega) (by simp [m_am, hio.symm, m_exf, m_wt, m_rd, m_exl, c31, c46, eq_true c47, c48, c49, c50, c51, c52]) x _ _ ls (hm.to (by simp [m_inT, m_wt, m_rd, c31, c46, eq_true c47, c48, c49, c50, c51, c52])) hW hS (lv_conv (lv_sub hl [2, 3, 4, 5, 0] rfl) (congr (congrArg List.cons rfl) (congr (congrArg List.cons rfl) (congr (congrArg List.cons rfl) (congr (congrArg List.cons (congrArg (fun z9 => ((3 : Nat), Value.int z9)) (show (nI a : Int32) = m_ob (some a) from by first | rfl | (rfl)))) (congr (congrArg List.cons rfl) rfl))))))
                            · skip
                              refine lv_iload S.1 S.2.1 dX5_excess_131 (lv_at hl 5 rfl) ?_
                              refine lv_istore_n (lv' := [(3, .int (nI n)), (5, .long ((1000) * ((tA t 34 (fp n)).toInt64))), (0, .ref mo), (1, .int (nI b)), (2, .int (nI gg)), (4, .int (nI n))]) S.1 S.2.1 dX5_excess_133 rfl hl (by decide) rfl (fun ls hl => ?_)
                              refine lv_iinc (v := nI (n + 1)) (lv' := [(4, .int (nI (n + 1))), (3, .int (nI n)), (5, .long ((1000) * ((tA t 34 (fp n)).toInt64))), (0, .ref mo), (1, .int (nI b)), (2, .int (nI gg))]) S.1 S.2.1 dX5_excess_134 hl (k := 5) rfl (nI_1 _) (by decide) rfl (fun ls hl => ?_)
                              refine lv_goto (tgt := 17) S.1 S.2.1 dX5_excess_137 (by decide) ?_
                              exact ihlpi (n + 1) (some n) (by omega) (by simp [m_am, hio.symm, m_exf, m_wt, m_rd, m_exl, c31, c46, eq_true c47, c48, c49, c50, c51, c52]) x _ _ ls (hm.to (by simp [m_inT, m_wt, m_rd, c31, c46, eq_true c47, c48, c49, c50, c51, c52])) hW hS (lv_conv (lv_sub hl [3, 4, 5, 1, 0] rfl) (congr (congrArg List.cons rfl) (congr (congrArg List.cons rfl) (congr (congrArg List.cons rfl) (congr (congrArg List.cons (congrArg (fun z9 => ((3 : Nat), Value.int z9)) (show (nI n : Int32) = m_ob (some n) from by first | rfl | (rfl)))) (congr (congrArg List.cons rfl) rfl))))))
                        · skip
                          refine lv_aload_n S.1 S.2.1 dX5_excess_97 rfl (lv_at hl 1 rfl) ?_
                          refine mx_gA S hK hm hW 26 iX5 rfl (by decide) (by decide) (by decide +kernel) dX5_excess_98 ?_
                          refine lv_iload S.1 S.2.1 dX5_excess_101 (lv_at hl 5 rfl) ?_
                          refine lv_dup2_11 S.1 S.2.1 dX5_excess_103 rfl rfl ?_
                          refine mx_ild S hK hm hW 26 (by decide) (k := n) (kw_ixof (k := n) (n := 8) rfl (by omega) (by decide)) dX5_excess_104 (v := tA (m_inT t fp gg (m_outT t fp nl gg) n) 26 n) rfl ?_
                          refine lv_iconst (v := 1) S.1 S.2.1 dX5_excess_105 (by decide) ?_
                          refine lv_iadd S.1 S.2.1 dX5_excess_106 ?_
                          refine mx_ist S hK hm hW hS 26 (by decide) (k := n) (kw_ixof (k := n) (n := 8) rfl (by omega) (by decide)) dX5_excess_107 (fun x H locs hm hW hS => ?_)
                          refine lv_goto (tgt := 134) S.1 S.2.1 dX5_excess_108 (by decide) ?_
                          refine lv_iinc (v := nI (n + 1)) (lv' := [(4, .int (nI (n + 1))), (5, .long ((1000) * ((tA t 34 (fp n)).toInt64))), (0, .ref mo), (1, .int (nI b)), (2, .int (nI gg)), (3, .int (nI a))]) S.1 S.2.1 dX5_excess_134 hl (k := 5) rfl (nI_1 _) (by decide) rfl (fun ls hl => ?_)
                          refine lv_goto (tgt := 17) S.1 S.2.1 dX5_excess_137 (by decide) ?_
                          exact ihlpi (n + 1) (some a) (by omega) (by simp [m_am, hio.symm, m_exf, m_wt, m_rd, m_exl, c31, c46, eq_true c47, c48, c49, c50]) x _ _ ls (hm.to (by simp [m_inT, m_wt, m_rd, c31, c46, eq_true c47, c48, c49, c50])) hW hS (lv_conv (lv_sub hl [2, 3, 4, 5, 0] rfl) (congr (congrArg List.cons rfl) (congr (congrArg List.cons rfl) (congr (congrArg List.cons rfl) (congr (congrArg List.cons (congrArg (fun z9 => ((3 : Nat), Value.int z9)) (show (nI a : Int32) = m_ob (some a) from by first | rfl | (rfl)))) (congr (congrArg List.cons rfl) rfl))))))
                    · skip
                      refine lv_goto (tgt := 134) S.1 S.2.1 dX5_excess_47 (by decide) ?_
                      refine lv_iinc (v := nI (n + 1)) (lv' := [(4, .int (nI (n + 1))), (0, .ref mo), (1, .int (nI b)), (2, .int (nI gg)), (3, .int (nI a))]) S.1 S.2.1 dX5_excess_134 hl (k := 4) rfl (nI_1 _) (by decide) rfl (fun ls hl => ?_)
                      refine lv_goto (tgt := 17) S.1 S.2.1 dX5_excess_137 (by decide) ?_
                      exact ihlpi (n + 1) (some a) (by omega) (by simp [m_am, hio.symm, m_exf, m_wt, m_rd, m_exl, c31, c46, eq_true c47, eq_true c48]) x _ _ ls (hm.to (by simp [m_inT, m_wt, m_rd, c31, c46, eq_true c47, eq_true c48])) hW hS (lv_conv (lv_sub hl [1, 2, 3, 4, 0] rfl) (congr (congrArg List.cons rfl) (congr (congrArg List.cons rfl) (congr (congrArg List.cons rfl) (congr (congrArg List.cons (congrArg (fun z9 => ((3 : Nat), Value.int z9)) (show (nI a : Int32) = m_ob (some a) from by first | rfl | (rfl)))) (congr (congrArg List.cons rfl) rfl))))))
          exact lpi (nl - 0) 0 none (by omega) rfl x _ _ ls (hm.to rfl) hW hS (lv_conv (lv_sub hl [2, 3, 4, 1, 0] rfl) (congr (congrArg List.cons rfl) (congr (congrArg List.cons rfl) (congr (congrArg List.cons rfl) (congr (congrArg List.cons (congrArg (fun z9 => ((3 : Nat), Value.int z9)) (show (-1 : Int32) = m_ob none from by first | rfl | (rfl)))) (congr (congrArg List.cons (congrArg (fun z9 => ((4 : Nat), Value.int z9)) (show (0 : Int32) = nI 0 from by first | rfl | (rfl)))) rfl))))))
  exact lpo (ng - 0) 0 none (by omega) rfl x _ _ ls (hm.to rfl) hW hS (lv_conv (lv_sub hl [2, 1, 0] rfl) (congr (congrArg List.cons rfl) (congr (congrArg List.cons (congrArg (fun z9 => ((1 : Nat), Value.int z9)) (show (-1 : Int32) = m_ob none from by first | rfl | (rfl)))) (congr (congrArg List.cons (congrArg (fun z9 => ((2 : Nat), Value.int z9)) (show (0 : Int32) = nI 0 from by first | rfl | (rfl)))) rfl))))
