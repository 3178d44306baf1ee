/-! the reference: its loops -/
def m_idN (t : mo_T) : Nat → Bool
  | 0 => decide (tF t 7 = 0)
  | n + 1 => m_idN t n && decide (tA t 19 n = 0)
def m_all (t : mo_T) (gu : Int32) : Nat → Int32
  | 0 => gu
  | n + 1 => m_all t gu n + tA t 15 n
def m_its (t : mo_T) (g : Nat) (gu : Int32) : Nat → Int32
  | 0 => gu
  | n + 1 => m_its t g gu n + (if tA t 13 n = nI g then tA t 15 n else 0)
def m_lfok (t : mo_T) (ng nl g : Nat) (w gu ce b mo : Int32) : Bool := (!(decide (nl = 8)) && (decide (g < ng) && (kw_wi w 1 12 && ((decide (gu = 0) || kw_wi gu 10 1000) && (kw_wi ce gu 1000 && (kw_wi b 1500 20000 && kw_wi mo 1500 60000)))))) && (decide (¬ 1000 < m_all t gu nl) && decide (m_its t g gu nl ≤ tA t 30 (8 + g)))
def m_leaf (t : mo_T) (ng nl g : Nat) (w gu ce b mo : Int32) : mo_T := if m_lfok t ng nl g w gu ce b mo = true then uF (m_fill (uA (uA (uA (uA (uA (uA t 13 nl (nI g)) 14 nl w) 15 nl gu) 16 nl mo) 17 nl (-1)) 18 nl (-1)) nl ce b) 3 (nI (nl + 1)) else t
set_option maxHeartbeats 1000000 in
set_option maxRecDepth 100000 in
/-- isIdle -/
theorem c_X5_isIdle (l : Launch) (G : kw_G) (nu : Nat → Option Nat) (x z : kw_St) (mo : Nat) (ma : Nat → Nat) (t : mo_T) (nl : Nat) (hm : mw nu z mo ma t x) (hnl : tF t 3 = nI nl) (hn8 : nl ≤ 8) : kw_M l G yX5_isIdle wsX5_isIdle { frames := 0, cells := 0, slots := 0, locals := 0 } 0 0 [.ref mo] nu x (fun v nu' y => v = some (.int (kw_b (m_idN t nl = true))) ∧ nu' = nu ∧ mw nu z mo ma (t) y) := by
  refine kw_M.ofW (cc := cX5_isIdle) (maxL := 3) (ret := (some .boolean)) (by decide) rfl (Nat.le_of_ble_eq_true rfl) ?_
  intro p e s m args below meth c A ls S hr hlk hnm hK hZ hA hW hS hl
  have hl : lv_has ls 3 [(0, .ref mo)] := hl
  have iX5 : ∀ w ∈ wsX50, w ∈ wsX5_isIdle := by decide +kernel
  obtain ⟨QQ, hQQ⟩ : ∃ q, q = MQ below (kw_Qc G A (fun v nu' y => v = some (.int (kw_b (m_idN t nl = true))) ∧ nu' = nu ∧ mw nu z mo ma (t) y)) args s 0 0 A := ⟨_, rfl⟩
  rw [← hQQ]
  refine lv_aload_n S.1 S.2.1 dX5_isIdle_0 rfl (lv_at hl 0 rfl) ?_
  refine mx_gI S hK hm hW 7 iX5 rfl (by decide) (by decide +kernel) dX5_isIdle_1 (v := tF t 7) rfl ?_
  refine lv_if_ne (tgt := 11) S.1 S.2.1 dX5_isIdle_4 (by decide) (fun c1 => ?_) (fun c1 => ?_)
  · skip
    refine lv_iconst (v := 0) S.1 S.2.1 dX5_isIdle_11 (by decide) ?_
    refine lv_istore_n (lv' := [(1, .int (0)), (0, .ref mo)]) S.1 S.2.1 dX5_isIdle_12 rfl hl (by decide) rfl (fun ls hl => ?_)
    refine lv_iconst (v := 0) S.1 S.2.1 dX5_isIdle_13 (by decide) ?_
    refine lv_istore_n (lv' := [(2, .int (0)), (1, .int (0)), (0, .ref mo)]) S.1 S.2.1 dX5_isIdle_14 rfl hl (by decide) rfl (fun ls hl => ?_)
    have loop : ∀ (dn n : Nat), n + dn = nl → ∀ (x : kw_St) (H : Heap) (locs : List Loc) (ls : Array Slot), mw nu z mo ma (t) x → kw_W G A nu x H → va_S A s.heap H locs → lv_has ls 3 [(0, .ref mo), (1, .int (kw_b (m_idN t n = true))), (2, .int (nI n))] → W p l e { frames := 0, cells := 0, slots := 0, locals := 0 } s m args below meth c H locs 0 0 QQ (F0 m 15 ls []) := by
      intro dn
      induction dn with
      | zero =>
        intro n  hndn  x H locs ls hm hW hS hl
        refine lv_iload_n S.1 S.2.1 dX5_isIdle_15 rfl (lv_at hl 2 rfl) ?_
        refine lv_aload_n S.1 S.2.1 dX5_isIdle_16 rfl (lv_at hl 0 rfl) ?_
        refine mx_gI S hK hm hW 3 iX5 rfl (by decide) (by decide +kernel) dX5_isIdle_17 (v := nI nl) hnl ?_
        refine lv_icmp_ge (tgt := 48) S.1 S.2.1 dX5_isIdle_20 (by decide) (fun c2 => ?_) (fun c2 => ?_)
        · skip
          have hnn3 : nl = n := by omega
          subst hnn3
          refine lv_iload_n S.1 S.2.1 dX5_isIdle_48 rfl (lv_at hl 1 rfl) ?_
          rw [hQQ]
          refine kw_zret S hr hlk hW hS (by decide) (by decide) dX5_isIdle_49 kw_b_n ?_
          exact ⟨rfl, rfl, hm⟩
        · skip
          exact absurd (nI_le (a := nl) (b := n) (by omega) (by omega)) c2
      | succ dn ihloop =>
        intro n  hndn  x H locs ls hm hW hS hl
        refine lv_iload_n S.1 S.2.1 dX5_isIdle_15 rfl (lv_at hl 2 rfl) ?_
        refine lv_aload_n S.1 S.2.1 dX5_isIdle_16 rfl (lv_at hl 0 rfl) ?_
        refine mx_gI S hK hm hW 3 iX5 rfl (by decide) (by decide +kernel) dX5_isIdle_17 (v := nI nl) hnl ?_
        refine lv_icmp_ge (tgt := 48) S.1 S.2.1 dX5_isIdle_20 (by decide) (fun c4 => ?_) (fun c4 => ?_)
        · skip
          exact absurd c4 (nI_ge (a := n) (b := nl) (by omega) (by omega))
        · skip
          refine lv_iload_n S.1 S.2.1 dX5_isIdle_23 rfl (lv_at hl 1 rfl) ?_
          refine kx_ifz_eq (tgt := 40) S dX5_isIdle_24 (by decide) (fun c5 => ?_) (fun c5 => ?_)
          · skip
            refine lv_iconst (v := 0) S.1 S.2.1 dX5_isIdle_40 (by decide) ?_
            refine lv_istore_n (lv' := [(1, .int (0)), (0, .ref mo), (2, .int (nI n))]) S.1 S.2.1 dX5_isIdle_41 rfl hl (by decide) rfl (fun ls hl => ?_)
            refine lv_iinc (v := nI (n + 1)) (lv' := [(2, .int (nI (n + 1))), (1, .int (0)), (0, .ref mo)]) S.1 S.2.1 dX5_isIdle_42 hl (k := 2) rfl (nI_1 _) (by decide) rfl (fun ls hl => ?_)
            refine lv_goto (tgt := 15) S.1 S.2.1 dX5_isIdle_45 (by decide) ?_
            exact ihloop (n + 1)  (by omega)  x _ _ ls (hm.to rfl) hW hS (lv_conv (lv_sub hl [2, 1, 0] rfl) (congr (congrArg List.cons rfl) (congr (congrArg List.cons (congrArg (fun z9 => ((1 : Nat), Value.int z9)) (show (0 : Int32) = kw_b (m_idN t (n + 1) = true) from by first | rfl | (simp [m_idN, kw_b, c1, c4, c5])))) (congr (congrArg List.cons rfl) rfl))))
          · skip
            refine lv_aload_n S.1 S.2.1 dX5_isIdle_27 rfl (lv_at hl 0 rfl) ?_
            refine mx_gA S hK hm hW 19 iX5 rfl (by decide) (by decide) (by decide +kernel) dX5_isIdle_28 ?_
            refine lv_iload_n S.1 S.2.1 dX5_isIdle_31 rfl (lv_at hl 2 rfl) ?_
            refine mx_ild S hK hm hW 19 (by decide) (k := n) (kw_ixof (k := n) (n := 8) rfl (by omega) (by decide)) dX5_isIdle_32 (v := tA t 19 n) rfl ?_
            refine lv_if_ne (tgt := 40) S.1 S.2.1 dX5_isIdle_33 (by decide) (fun c6 => ?_) (fun c6 => ?_)
            · skip
              refine lv_iconst (v := 0) S.1 S.2.1 dX5_isIdle_40 (by decide) ?_
              refine lv_istore_n (lv' := [(1, .int (0)), (0, .ref mo), (2, .int (nI n))]) S.1 S.2.1 dX5_isIdle_41 rfl hl (by decide) rfl (fun ls hl => ?_)
              refine lv_iinc (v := nI (n + 1)) (lv' := [(2, .int (nI (n + 1))), (1, .int (0)), (0, .ref mo)]) S.1 S.2.1 dX5_isIdle_42 hl (k := 2) rfl (nI_1 _) (by decide) rfl (fun ls hl => ?_)
              refine lv_goto (tgt := 15) S.1 S.2.1 dX5_isIdle_45 (by decide) ?_
              exact ihloop (n + 1)  (by omega)  x _ _ ls (hm.to rfl) hW hS (lv_conv (lv_sub hl [2, 1, 0] rfl) (congr (congrArg List.cons rfl) (congr (congrArg List.cons (congrArg (fun z9 => ((1 : Nat), Value.int z9)) (show (0 : Int32) = kw_b (m_idN t (n + 1) = true) from by first | rfl | (simp [m_idN, kw_b, c1, c4, c5, c6])))) (congr (congrArg List.cons rfl) rfl))))
            · skip
              refine lv_iconst (v := 1) S.1 S.2.1 dX5_isIdle_36 (by decide) ?_
              refine lv_goto (tgt := 41) S.1 S.2.1 dX5_isIdle_37 (by decide) ?_
              refine lv_istore_n (lv' := [(1, .int (1)), (0, .ref mo), (2, .int (nI n))]) S.1 S.2.1 dX5_isIdle_41 rfl hl (by decide) rfl (fun ls hl => ?_)
              refine lv_iinc (v := nI (n + 1)) (lv' := [(2, .int (nI (n + 1))), (1, .int (1)), (0, .ref mo)]) S.1 S.2.1 dX5_isIdle_42 hl (k := 2) rfl (nI_1 _) (by decide) rfl (fun ls hl => ?_)
              refine lv_goto (tgt := 15) S.1 S.2.1 dX5_isIdle_45 (by decide) ?_
              exact ihloop (n + 1)  (by omega)  x _ _ ls (hm.to rfl) hW hS (lv_conv (lv_sub hl [2, 1, 0] rfl) (congr (congrArg List.cons rfl) (congr (congrArg List.cons (congrArg (fun z9 => ((1 : Nat), Value.int z9)) (show (1 : Int32) = kw_b (m_idN t (n + 1) = true) from by first | rfl | (simp [m_idN, kw_b, c1, c4, c5, eq_true c6])))) (congr (congrArg List.cons rfl) rfl))))
    exact loop (nl - 0) 0  (by omega)  x _ _ ls (hm.to rfl) hW hS (lv_conv (lv_sub hl [2, 1, 0] rfl) (congr (congrArg List.cons rfl) (congr (congrArg List.cons (congrArg (fun z9 => ((1 : Nat), Value.int z9)) (show (0 : Int32) = kw_b (m_idN t 0 = true) from by first | rfl | (simp [m_idN, kw_b, c1])))) (congr (congrArg List.cons (congrArg (fun z9 => ((2 : Nat), Value.int z9)) (show (0 : Int32) = nI 0 from by first | rfl | (simp [m_idN, kw_b, c1])))) rfl))))
  · skip
    refine lv_iconst (v := 1) S.1 S.2.1 dX5_isIdle_7 (by decide) ?_
    refine lv_goto (tgt := 12) S.1 S.2.1 dX5_isIdle_8 (by decide) ?_
    refine lv_istore_n (lv' := [(1, .int (1)), (0, .ref mo)]) S.1 S.2.1 dX5_isIdle_12 rfl hl (by decide) rfl (fun ls hl => ?_)
    refine lv_iconst (v := 0) S.1 S.2.1 dX5_isIdle_13 (by decide) ?_
    refine lv_istore_n (lv' := [(2, .int (0)), (1, .int (1)), (0, .ref mo)]) S.1 S.2.1 dX5_isIdle_14 rfl hl (by decide) rfl (fun ls hl => ?_)
    have loop : ∀ (dn n : Nat), n + dn = nl → ∀ (x : kw_St) (H : Heap) (locs : List Loc) (ls : Array Slot), mw nu z mo ma (t) x → kw_W G A nu x H → va_S A s.heap H locs → lv_has ls 3 [(0, .ref mo), (1, .int (kw_b (m_idN t n = true))), (2, .int (nI n))] → W p l e { frames := 0, cells := 0, slots := 0, locals := 0 } s m args below meth c H locs 0 0 QQ (F0 m 15 ls []) := by
      intro dn
      induction dn with
      | zero =>
        intro n  hndn  x H locs ls hm hW hS hl
        refine lv_iload_n S.1 S.2.1 dX5_isIdle_15 rfl (lv_at hl 2 rfl) ?_
        refine lv_aload_n S.1 S.2.1 dX5_isIdle_16 rfl (lv_at hl 0 rfl) ?_
        refine mx_gI S hK hm hW 3 iX5 rfl (by decide) (by decide +kernel) dX5_isIdle_17 (v := nI nl) hnl ?_
        refine lv_icmp_ge (tgt := 48) S.1 S.2.1 dX5_isIdle_20 (by decide) (fun c7 => ?_) (fun c7 => ?_)
        · skip
          have hnn8 : nl = n := by omega
          subst hnn8
          refine lv_iload_n S.1 S.2.1 dX5_isIdle_48 rfl (lv_at hl 1 rfl) ?_
          rw [hQQ]
          refine kw_zret S hr hlk hW hS (by decide) (by decide) dX5_isIdle_49 kw_b_n ?_
          exact ⟨rfl, rfl, hm⟩
        · skip
          exact absurd (nI_le (a := nl) (b := n) (by omega) (by omega)) c7
      | succ dn ihloop =>
        intro n  hndn  x H locs ls hm hW hS hl
        refine lv_iload_n S.1 S.2.1 dX5_isIdle_15 rfl (lv_at hl 2 rfl) ?_
        refine lv_aload_n S.1 S.2.1 dX5_isIdle_16 rfl (lv_at hl 0 rfl) ?_
        refine mx_gI S hK hm hW 3 iX5 rfl (by decide) (by decide +kernel) dX5_isIdle_17 (v := nI nl) hnl ?_
        refine lv_icmp_ge (tgt := 48) S.1 S.2.1 dX5_isIdle_20 (by decide) (fun c9 => ?_) (fun c9 => ?_)
        · skip
          exact absurd c9 (nI_ge (a := n) (b := nl) (by omega) (by omega))
        · skip
          refine lv_iload_n S.1 S.2.1 dX5_isIdle_23 rfl (lv_at hl 1 rfl) ?_
          refine kx_ifz_eq (tgt := 40) S dX5_isIdle_24 (by decide) (fun c10 => ?_) (fun c10 => ?_)
          · skip
            refine lv_iconst (v := 0) S.1 S.2.1 dX5_isIdle_40 (by decide) ?_
            refine lv_istore_n (lv' := [(1, .int (0)), (0, .ref mo), (2, .int (nI n))]) S.1 S.2.1 dX5_isIdle_41 rfl hl (by decide) rfl (fun ls hl => ?_)
            refine lv_iinc (v := nI (n + 1)) (lv' := [(2, .int (nI (n + 1))), (1, .int (0)), (0, .ref mo)]) S.1 S.2.1 dX5_isIdle_42 hl (k := 2) rfl (nI_1 _) (by decide) rfl (fun ls hl => ?_)
            refine lv_goto (tgt := 15) S.1 S.2.1 dX5_isIdle_45 (by decide) ?_
            exact ihloop (n + 1)  (by omega)  x _ _ ls (hm.to rfl) hW hS (lv_conv (lv_sub hl [2, 1, 0] rfl) (congr (congrArg List.cons rfl) (congr (congrArg List.cons (congrArg (fun z9 => ((1 : Nat), Value.int z9)) (show (0 : Int32) = kw_b (m_idN t (n + 1) = true) from by first | rfl | (simp [m_idN, kw_b, eq_true c1, c9, c10])))) (congr (congrArg List.cons rfl) rfl))))
          · skip
            refine lv_aload_n S.1 S.2.1 dX5_isIdle_27 rfl (lv_at hl 0 rfl) ?_
            refine mx_gA S hK hm hW 19 iX5 rfl (by decide) (by decide) (by decide +kernel) dX5_isIdle_28 ?_
            refine lv_iload_n S.1 S.2.1 dX5_isIdle_31 rfl (lv_at hl 2 rfl) ?_
            refine mx_ild S hK hm hW 19 (by decide) (k := n) (kw_ixof (k := n) (n := 8) rfl (by omega) (by decide)) dX5_isIdle_32 (v := tA t 19 n) rfl ?_
            refine lv_if_ne (tgt := 40) S.1 S.2.1 dX5_isIdle_33 (by decide) (fun c11 => ?_) (fun c11 => ?_)
            · skip
              refine lv_iconst (v := 0) S.1 S.2.1 dX5_isIdle_40 (by decide) ?_
              refine lv_istore_n (lv' := [(1, .int (0)), (0, .ref mo), (2, .int (nI n))]) S.1 S.2.1 dX5_isIdle_41 rfl hl (by decide) rfl (fun ls hl => ?_)
              refine lv_iinc (v := nI (n + 1)) (lv' := [(2, .int (nI (n + 1))), (1, .int (0)), (0, .ref mo)]) S.1 S.2.1 dX5_isIdle_42 hl (k := 2) rfl (nI_1 _) (by decide) rfl (fun ls hl => ?_)
              refine lv_goto (tgt := 15) S.1 S.2.1 dX5_isIdle_45 (by decide) ?_
              exact ihloop (n + 1)  (by omega)  x _ _ ls (hm.to rfl) hW hS (lv_conv (lv_sub hl [2, 1, 0] rfl) (congr (congrArg List.cons rfl) (congr (congrArg List.cons (congrArg (fun z9 => ((1 : Nat), Value.int z9)) (show (0 : Int32) = kw_b (m_idN t (n + 1) = true) from by first | rfl | (simp [m_idN, kw_b, eq_true c1, c9, c10, c11])))) (congr (congrArg List.cons rfl) rfl))))
            · skip
              refine lv_iconst (v := 1) S.1 S.2.1 dX5_isIdle_36 (by decide) ?_
              refine lv_goto (tgt := 41) S.1 S.2.1 dX5_isIdle_37 (by decide) ?_
              refine lv_istore_n (lv' := [(1, .int (1)), (0, .ref mo), (2, .int (nI n))]) S.1 S.2.1 dX5_isIdle_41 rfl hl (by decide) rfl (fun ls hl => ?_)
              refine lv_iinc (v := nI (n + 1)) (lv' := [(2, .int (nI (n + 1))), (1, .int (1)), (0, .ref mo)]) S.1 S.2.1 dX5_isIdle_42 hl (k := 2) rfl (nI_1 _) (by decide) rfl (fun ls hl => ?_)
              refine lv_goto (tgt := 15) S.1 S.2.1 dX5_isIdle_45 (by decide) ?_
              exact ihloop (n + 1)  (by omega)  x _ _ ls (hm.to rfl) hW hS (lv_conv (lv_sub hl [2, 1, 0] rfl) (congr (congrArg List.cons rfl) (congr (congrArg List.cons (congrArg (fun z9 => ((1 : Nat), Value.int z9)) (show (1 : Int32) = kw_b (m_idN t (n + 1) = true) from by first | rfl | (simp [m_idN, kw_b, eq_true c1, c9, c10, eq_true c11])))) (congr (congrArg List.cons rfl) rfl))))
    exact loop (nl - 0) 0  (by omega)  x _ _ ls (hm.to rfl) hW hS (lv_conv (lv_sub hl [2, 1, 0] rfl) (congr (congrArg List.cons rfl) (congr (congrArg List.cons (congrArg (fun z9 => ((1 : Nat), Value.int z9)) (show (1 : Int32) = kw_b (m_idN t 0 = true) from by first | rfl | (simp [m_idN, kw_b, eq_true c1])))) (congr (congrArg List.cons (congrArg (fun z9 => ((2 : Nat), Value.int z9)) (show (0 : Int32) = nI 0 from by first | rfl | (simp [m_idN, kw_b, eq_true c1])))) rfl))))
set_option maxHeartbeats 1000000 in
set_option maxRecDepth 100000 in
/-- leaf -/
theorem c_X5_leaf_s (l : Launch) (G : kw_G) (nu : Nat → Option Nat) (x z : kw_St) (mo : Nat) (ma : Nat → Nat) (t : mo_T) (g : Nat) (w : Int32) (gu : Int32) (ce : Int32) (b : Int32) (ll : Int32) (ng : Nat) (nl : Nat) (hm : mw nu z mo ma t x) (hg : g < 1000) (hng : tF t 2 = nI ng) (hg4 : ng ≤ 4) (hnl : tF t 3 = nI nl) (hn8 : nl ≤ 8) : kw_M l G yX5_leaf wsX5_leaf { frames := 1, cells := 0, slots := 0, locals := 23 } 0 0 [.ref mo, .int (nI g), .int (w), .int (gu), .int (ce), .int (b), .int (ll)] nu x (fun v nu' y => v = some (.int (if m_lfok t ng nl g w gu ce b ll = true then nI nl else -1)) ∧ nu' = nu ∧ mw nu z mo ma (m_leaf t ng nl g w gu ce b ll) y) := by
  refine kw_M.ofW (cc := cX5_leaf) (maxL := 10) (ret := (some .int)) (by decide) rfl (Nat.le_of_ble_eq_true rfl) ?_
  intro p e s m args below meth c A ls S hr hlk hnm hK hZ hA hW hS hl
  have hl : lv_has ls 10 [(0, .ref mo), (1, .int (nI g)), (2, .int (w)), (3, .int (gu)), (4, .int (ce)), (5, .int (b)), (6, .int (ll))] := hl
  have iX5 : ∀ w ∈ wsX50, w ∈ wsX5_leaf := by decide +kernel
  obtain ⟨QQ, hQQ⟩ : ∃ q, q = MQ below (kw_Qc G A (fun v nu' y => v = some (.int (if m_lfok t ng nl g w gu ce b ll = true then nI nl else -1)) ∧ nu' = nu ∧ mw nu z mo ma (m_leaf t ng nl g w gu ce b ll) y)) args s 0 0 A := ⟨_, rfl⟩
  rw [← hQQ]
  refine lv_aload_n S.1 S.2.1 dX5_leaf_0 rfl (lv_at hl 0 rfl) ?_
  refine mx_gI S hK hm hW 3 iX5 rfl (by decide) (by decide +kernel) dX5_leaf_1 (v := nI nl) hnl ?_
  refine lv_bipush (v := 8) S.1 S.2.1 dX5_leaf_4 (by decide) ?_
  refine lv_icmp_eq (tgt := 88) S.1 S.2.1 dX5_leaf_6 (by decide) (fun c1 => ?_) (fun c1 => ?_)
  · skip
    have hn8e : nl = 8 := by
      rcases Nat.lt_or_ge nl 8 with h | h
      · exact absurd (by assumption) (fun q => Nat.ne_of_lt h ((nI_eq (b := 8) (by omega) (by decide)).mp q))
      · omega
    refine lv_iconst (v := (-1)) S.1 S.2.1 dX5_leaf_88 (by decide) ?_
    rw [hQQ]
    refine kw_iret S hr hlk hW hS (by decide) (by decide) dX5_leaf_89 ?_
    refine ⟨?_, rfl, hm.to ?_⟩ <;> first | rfl | (simp [m_lfok, m_leaf, eq_true c1, hn8e, kw_b]; done) | (simp [m_lfok, m_leaf, eq_true c1, hn8e, kw_b, tF_uF, tF_uL, tF_uA, tF_uB, tL_uF, tL_uL, tL_uA, tL_uB, tA_uF, tA_uL, tA_uA, tA_uB, tB_uF, tB_uL, tB_uA, tB_uB, m_fill_F]; done) | contradiction
  · skip
    have hn7 : nl < 8 := by
      rcases Nat.lt_or_ge nl 8 with h | h
      · exact h
      · exact absurd (show nI nl = 8 by rw [show nl = 8 by omega]; rfl) (by assumption)
    have hn8e : ¬ nl = 8 := by omega
    refine lv_iload_n S.1 S.2.1 dX5_leaf_9 rfl (lv_at hl 1 rfl) ?_
    refine lv_iconst (v := 0) S.1 S.2.1 dX5_leaf_10 (by decide) ?_
    refine lv_aload_n S.1 S.2.1 dX5_leaf_11 rfl (lv_at hl 0 rfl) ?_
    refine mx_gI S hK hm hW 2 iX5 rfl (by decide) (by decide +kernel) dX5_leaf_12 (v := nI ng) hng ?_
    refine lv_iconst (v := 1) S.1 S.2.1 dX5_leaf_15 (by decide) ?_
    refine lv_isub S.1 S.2.1 dX5_leaf_16 ?_
    refine kx_cS (As := [.int (nI g), .int (0), .int ((nI ng) - (1))]) (rest := []) (st1 := [.int (kw_b (kw_wi (nI g) 0 ((nI ng) - (1)) = true))]) S hK hZ hA hW hS (c_X5_in l G nu x (nI g) 0 ((nI ng) - (1)) ) (va_cwS 3 S.2.2.2.2 gX5_leaf_X5_in rfl rfl rfl (by decide +kernel) ⟨Nat.le_of_ble_eq_true rfl, Nat.le_of_ble_eq_true rfl⟩) rfl hl.1 rfl (Nat.le_of_ble_eq_true rfl) dX5_leaf_17 ⟨Nat.le_of_ble_eq_true rfl, Nat.le_of_ble_eq_true rfl⟩ rfl (fun H locs hW hS => ?_)
    refine kx_ifz_eq (tgt := 88) S dX5_leaf_20 (by decide) (fun c2 => ?_) (fun c2 => ?_)
    · skip
      have hgl : ¬ g < ng := kw_wi_ge hg (by omega) (by assumption)
      refine lv_iconst (v := (-1)) S.1 S.2.1 dX5_leaf_88 (by decide) ?_
      rw [hQQ]
      refine kw_iret S hr hlk hW hS (by decide) (by decide) dX5_leaf_89 ?_
      refine ⟨?_, rfl, hm.to ?_⟩ <;> first | rfl | (simp [m_lfok, m_leaf, c1, hn8e, c2, hgl, kw_b]; done) | (simp [m_lfok, m_leaf, c1, hn8e, c2, hgl, kw_b, tF_uF, tF_uL, tF_uA, tF_uB, tL_uF, tL_uL, tL_uA, tL_uB, tA_uF, tA_uL, tA_uA, tA_uB, tB_uF, tB_uL, tB_uA, tB_uB, m_fill_F]; done) | contradiction
    · skip
      have hgl : g < ng := kw_wi_lt hg (by omega) (by assumption)
      refine lv_iload_n S.1 S.2.1 dX5_leaf_23 rfl (lv_at hl 2 rfl) ?_
      refine lv_iconst (v := 1) S.1 S.2.1 dX5_leaf_24 (by decide) ?_
      refine lv_bipush (v := 12) S.1 S.2.1 dX5_leaf_25 (by decide) ?_
      refine kx_cS (As := [.int (w), .int (1), .int (12)]) (rest := []) (st1 := [.int (kw_b (kw_wi w 1 12 = true))]) S hK hZ hA hW hS (c_X5_in l G nu x w 1 12 ) (va_cwS 3 S.2.2.2.2 gX5_leaf_X5_in rfl rfl rfl (by decide +kernel) ⟨Nat.le_of_ble_eq_true rfl, Nat.le_of_ble_eq_true rfl⟩) rfl hl.1 rfl (Nat.le_of_ble_eq_true rfl) dX5_leaf_27 ⟨Nat.le_of_ble_eq_true rfl, Nat.le_of_ble_eq_true rfl⟩ rfl (fun H locs hW hS => ?_)
      refine kx_ifz_eq (tgt := 88) S dX5_leaf_30 (by decide) (fun c3 => ?_) (fun c3 => ?_)
      · skip
        refine lv_iconst (v := (-1)) S.1 S.2.1 dX5_leaf_88 (by decide) ?_
        rw [hQQ]
        refine kw_iret S hr hlk hW hS (by decide) (by decide) dX5_leaf_89 ?_
        refine ⟨?_, rfl, hm.to ?_⟩ <;> first | rfl | (simp [m_lfok, m_leaf, c1, hn8e, c2, hgl, c3, kw_b]; done) | (simp [m_lfok, m_leaf, c1, hn8e, c2, hgl, c3, kw_b, tF_uF, tF_uL, tF_uA, tF_uB, tL_uF, tL_uL, tL_uA, tL_uB, tA_uF, tA_uL, tA_uA, tA_uB, tB_uF, tB_uL, tB_uA, tB_uB, m_fill_F]; done) | contradiction
      · skip
        refine lv_iload_n S.1 S.2.1 dX5_leaf_33 rfl (lv_at hl 3 rfl) ?_
        refine lv_if_eq (tgt := 49) S.1 S.2.1 dX5_leaf_34 (by decide) (fun c4 => ?_) (fun c4 => ?_)
        · skip
          refine lv_iload S.1 S.2.1 dX5_leaf_49 (lv_at hl 4 rfl) ?_
          refine lv_iload_n S.1 S.2.1 dX5_leaf_51 rfl (lv_at hl 3 rfl) ?_
          refine lv_sipush (v := 1000) S.1 S.2.1 dX5_leaf_52 (by decide) ?_
          refine kx_cS (As := [.int (ce), .int (gu), .int (1000)]) (rest := []) (st1 := [.int (kw_b (kw_wi ce gu 1000 = true))]) S hK hZ hA hW hS (c_X5_in l G nu x ce gu 1000 ) (va_cwS 3 S.2.2.2.2 gX5_leaf_X5_in rfl rfl rfl (by decide +kernel) ⟨Nat.le_of_ble_eq_true rfl, Nat.le_of_ble_eq_true rfl⟩) rfl hl.1 rfl (Nat.le_of_ble_eq_true rfl) dX5_leaf_55 ⟨Nat.le_of_ble_eq_true rfl, Nat.le_of_ble_eq_true rfl⟩ rfl (fun H locs hW hS => ?_)
          refine kx_ifz_eq (tgt := 88) S dX5_leaf_58 (by decide) (fun c5 => ?_) (fun c5 => ?_)
          · skip
            refine lv_iconst (v := (-1)) S.1 S.2.1 dX5_leaf_88 (by decide) ?_
            rw [hQQ]
            refine kw_iret S hr hlk hW hS (by decide) (by decide) dX5_leaf_89 ?_
            refine ⟨?_, rfl, hm.to ?_⟩ <;> first | rfl | (simp [m_lfok, m_leaf, c1, hn8e, c2, hgl, c3, eq_true c4, c5, kw_b]; done) | (simp [m_lfok, m_leaf, c1, hn8e, c2, hgl, c3, eq_true c4, c5, kw_b, tF_uF, tF_uL, tF_uA, tF_uB, tL_uF, tL_uL, tL_uA, tL_uB, tA_uF, tA_uL, tA_uA, tA_uB, tB_uF, tB_uL, tB_uA, tB_uB, m_fill_F]; done) | contradiction
          · skip
            refine lv_iload S.1 S.2.1 dX5_leaf_61 (lv_at hl 5 rfl) ?_
            refine lv_sipush (v := 1500) S.1 S.2.1 dX5_leaf_63 (by decide) ?_
            refine lv_sipush (v := 20000) S.1 S.2.1 dX5_leaf_66 (by decide) ?_
            refine kx_cS (As := [.int (b), .int (1500), .int (20000)]) (rest := []) (st1 := [.int (kw_b (kw_wi b 1500 20000 = true))]) S hK hZ hA hW hS (c_X5_in l G nu x b 1500 20000 ) (va_cwS 3 S.2.2.2.2 gX5_leaf_X5_in rfl rfl rfl (by decide +kernel) ⟨Nat.le_of_ble_eq_true rfl, Nat.le_of_ble_eq_true rfl⟩) rfl hl.1 rfl (Nat.le_of_ble_eq_true rfl) dX5_leaf_69 ⟨Nat.le_of_ble_eq_true rfl, Nat.le_of_ble_eq_true rfl⟩ rfl (fun H locs hW hS => ?_)
            refine kx_ifz_eq (tgt := 88) S dX5_leaf_72 (by decide) (fun c6 => ?_) (fun c6 => ?_)
            · skip
              refine lv_iconst (v := (-1)) S.1 S.2.1 dX5_leaf_88 (by decide) ?_
              rw [hQQ]
              refine kw_iret S hr hlk hW hS (by decide) (by decide) dX5_leaf_89 ?_
              refine ⟨?_, rfl, hm.to ?_⟩ <;> first | rfl | (simp [m_lfok, m_leaf, c1, hn8e, c2, hgl, c3, eq_true c4, c5, c6, kw_b]; done) | (simp [m_lfok, m_leaf, c1, hn8e, c2, hgl, c3, eq_true c4, c5, c6, kw_b, tF_uF, tF_uL, tF_uA, tF_uB, tL_uF, tL_uL, tL_uA, tL_uB, tA_uF, tA_uL, tA_uA, tA_uB, tB_uF, tB_uL, tB_uA, tB_uB, m_fill_F]; done) | contradiction
            · skip
              refine lv_iload S.1 S.2.1 dX5_leaf_75 (lv_at hl 6 rfl) ?_
              refine lv_sipush (v := 1500) S.1 S.2.1 dX5_leaf_77 (by decide) ?_
              refine lv_ldc (v := 60000) S.1 S.2.1 S.2.2.2.1 (S.2.2.2.2 _ (by decide +kernel)) dX5_leaf_80 ?_
              refine kx_cS (As := [.int (ll), .int (1500), .int (60000)]) (rest := []) (st1 := [.int (kw_b (kw_wi ll 1500 60000 = true))]) S hK hZ hA hW hS (c_X5_in l G nu x ll 1500 60000 ) (va_cwS 3 S.2.2.2.2 gX5_leaf_X5_in rfl rfl rfl (by decide +kernel) ⟨Nat.le_of_ble_eq_true rfl, Nat.le_of_ble_eq_true rfl⟩) rfl hl.1 rfl (Nat.le_of_ble_eq_true rfl) dX5_leaf_82 ⟨Nat.le_of_ble_eq_true rfl, Nat.le_of_ble_eq_true rfl⟩ rfl (fun H locs hW hS => ?_)
              refine kx_ifz_ne (tgt := 90) S dX5_leaf_85 (by decide) (fun c7 => ?_) (fun c7 => ?_)
              · skip
                refine lv_iload_n S.1 S.2.1 dX5_leaf_90 rfl (lv_at hl 3 rfl) ?_
                refine lv_istore (lv' := [(7, .int (gu)), (0, .ref mo), (1, .int (nI g)), (2, .int (w)), (3, .int (gu)), (4, .int (ce)), (5, .int (b)), (6, .int (ll))]) S.1 S.2.1 dX5_leaf_91 hl (by decide) rfl (fun ls hl => ?_)
                refine lv_iload_n S.1 S.2.1 dX5_leaf_93 rfl (lv_at hl 4 rfl) ?_
                refine lv_istore (lv' := [(8, .int (gu)), (7, .int (gu)), (0, .ref mo), (1, .int (nI g)), (2, .int (w)), (3, .int (gu)), (4, .int (ce)), (5, .int (b)), (6, .int (ll))]) S.1 S.2.1 dX5_leaf_94 hl (by decide) rfl (fun ls hl => ?_)
                refine lv_iconst (v := 0) S.1 S.2.1 dX5_leaf_96 (by decide) ?_
                refine lv_istore (lv' := [(9, .int (0)), (8, .int (gu)), (7, .int (gu)), (0, .ref mo), (1, .int (nI g)), (2, .int (w)), (3, .int (gu)), (4, .int (ce)), (5, .int (b)), (6, .int (ll))]) S.1 S.2.1 dX5_leaf_97 hl (by decide) rfl (fun ls hl => ?_)
                have loop : ∀ (dn n : Nat), n + dn = nl → ∀ (x : kw_St) (H : Heap) (locs : List Loc) (ls : Array Slot), mw nu z mo ma (t) x → kw_W G A nu x H → va_S A s.heap H locs → lv_has ls 10 [(0, .ref mo), (1, .int (nI g)), (2, .int (w)), (3, .int (gu)), (4, .int (ce)), (5, .int (b)), (6, .int (ll)), (7, .int (m_all t gu n)), (8, .int (m_its t g gu n)), (9, .int (nI n))] → W p l e { frames := 1, cells := 0, slots := 0, locals := 23 } s m args below meth c H locs 0 0 QQ (F0 m 99 ls []) := by
                  intro dn
                  induction dn with
                  | zero =>
                    intro n  hndn  x H locs ls hm hW hS hl
                    refine lv_iload S.1 S.2.1 dX5_leaf_99 (lv_at hl 9 rfl) ?_
                    refine lv_aload_n S.1 S.2.1 dX5_leaf_101 rfl (lv_at hl 0 rfl) ?_
                    refine mx_gI S hK hm hW 3 iX5 rfl (by decide) (by decide +kernel) dX5_leaf_102 (v := nI nl) hnl ?_
                    refine lv_icmp_ge (tgt := 153) S.1 S.2.1 dX5_leaf_105 (by decide) (fun c8 => ?_) (fun c8 => ?_)
                    · skip
                      have hnn9 : nl = n := by omega
                      subst hnn9
                      refine lv_iload S.1 S.2.1 dX5_leaf_153 (lv_at hl 7 rfl) ?_
                      refine lv_sipush (v := 1000) S.1 S.2.1 dX5_leaf_155 (by decide) ?_
                      refine lv_icmp_gt (tgt := 175) S.1 S.2.1 dX5_leaf_158 (by decide) (fun c10 => ?_) (fun c10 => ?_)
                      · skip
                        refine lv_iconst (v := (-1)) S.1 S.2.1 dX5_leaf_175 (by decide) ?_
                        rw [hQQ]
                        refine kw_iret S hr hlk hW hS (by decide) (by decide) dX5_leaf_176 ?_
                        refine ⟨?_, rfl, hm.to ?_⟩ <;> first | rfl | (simp [m_lfok, m_leaf, c1, hn8e, c2, hgl, c3, eq_true c4, c5, c6, c7, c10, kw_b]; done) | (simp [m_lfok, m_leaf, c1, hn8e, c2, hgl, c3, eq_true c4, c5, c6, c7, c10, kw_b, tF_uF, tF_uL, tF_uA, tF_uB, tL_uF, tL_uL, tL_uA, tL_uB, tA_uF, tA_uL, tA_uA, tA_uB, tB_uF, tB_uL, tB_uA, tB_uB, m_fill_F]; done) | contradiction
                      · skip
                        refine lv_iload S.1 S.2.1 dX5_leaf_161 (lv_at hl 8 rfl) ?_
                        refine lv_aload_n S.1 S.2.1 dX5_leaf_163 rfl (lv_at hl 0 rfl) ?_
                        refine mx_gA S hK hm hW 30 iX5 rfl (by decide) (by decide) (by decide +kernel) dX5_leaf_164 ?_
                        refine lv_bipush (v := 8) S.1 S.2.1 dX5_leaf_167 (by decide) ?_
                        refine lv_iload_n S.1 S.2.1 dX5_leaf_169 rfl (lv_at hl 1 rfl) ?_
                        refine lv_iadd S.1 S.2.1 dX5_leaf_170 ?_
                        rw [show (8 : Int32) + nI g = nI (8 + g) from nI_add (8) (g)]
                        refine mx_ild S hK hm hW 30 (by decide) (k := (8 + g)) (kw_ixof (k := 8 + g) (n := 20) rfl (by omega) (by decide)) dX5_leaf_171 (v := tA t 30 (8 + g)) rfl ?_
                        refine lv_icmp_le (tgt := 177) S.1 S.2.1 dX5_leaf_172 (by decide) (fun c11 => ?_) (fun c11 => ?_)
                        · skip
                          refine lv_aload_n S.1 S.2.1 dX5_leaf_177 rfl (lv_at hl 0 rfl) ?_
                          refine mx_gI S hK hm hW 3 iX5 rfl (by decide) (by decide +kernel) dX5_leaf_178 (v := nI nl) hnl ?_
                          refine lv_istore (lv' := [(9, .int (nI nl)), (0, .ref mo), (1, .int (nI g)), (2, .int (w)), (3, .int (gu)), (4, .int (ce)), (5, .int (b)), (6, .int (ll)), (7, .int (m_all t gu nl)), (8, .int (m_its t g gu nl))]) S.1 S.2.1 dX5_leaf_181 hl (by decide) rfl (fun ls hl => ?_)
                          refine lv_aload_n S.1 S.2.1 dX5_leaf_183 rfl (lv_at hl 1 rfl) ?_
                          refine mx_gA S hK hm hW 13 iX5 rfl (by decide) (by decide) (by decide +kernel) dX5_leaf_184 ?_
                          refine lv_iload S.1 S.2.1 dX5_leaf_187 (lv_at hl 0 rfl) ?_
                          refine lv_iload_n S.1 S.2.1 dX5_leaf_189 rfl (lv_at hl 2 rfl) ?_
                          refine mx_ist S hK hm hW hS 13 (by decide) (k := nl) (kw_ixof (k := nl) (n := 8) rfl (by omega) (by decide)) dX5_leaf_190 (fun x H locs hm hW hS => ?_)
                          refine lv_aload_n S.1 S.2.1 dX5_leaf_191 rfl (lv_at hl 1 rfl) ?_
                          refine mx_gA S hK hm hW 14 iX5 rfl (by decide) (by decide) (by decide +kernel) dX5_leaf_192 ?_
                          refine lv_iload S.1 S.2.1 dX5_leaf_195 (lv_at hl 0 rfl) ?_
                          refine lv_iload_n S.1 S.2.1 dX5_leaf_197 rfl (lv_at hl 3 rfl) ?_
                          refine mx_ist S hK hm hW hS 14 (by decide) (k := nl) (kw_ixof (k := nl) (n := 8) rfl (by omega) (by decide)) dX5_leaf_198 (fun x H locs hm hW hS => ?_)
                          refine lv_aload_n S.1 S.2.1 dX5_leaf_199 rfl (lv_at hl 1 rfl) ?_
                          refine mx_gA S hK hm hW 15 iX5 rfl (by decide) (by decide) (by decide +kernel) dX5_leaf_200 ?_
                          refine lv_iload S.1 S.2.1 dX5_leaf_203 (lv_at hl 0 rfl) ?_
                          refine lv_iload_n S.1 S.2.1 dX5_leaf_205 rfl (lv_at hl 4 rfl) ?_
                          refine mx_ist S hK hm hW hS 15 (by decide) (k := nl) (kw_ixof (k := nl) (n := 8) rfl (by omega) (by decide)) dX5_leaf_206 (fun x H locs hm hW hS => ?_)
                          refine lv_aload_n S.1 S.2.1 dX5_leaf_207 rfl (lv_at hl 1 rfl) ?_
                          refine mx_gA S hK hm hW 16 iX5 rfl (by decide) (by decide) (by decide +kernel) dX5_leaf_208 ?_
                          refine lv_iload S.1 S.2.1 dX5_leaf_211 (lv_at hl 0 rfl) ?_
                          refine lv_iload S.1 S.2.1 dX5_leaf_213 (lv_at hl 7 rfl) ?_
                          refine mx_ist S hK hm hW hS 16 (by decide) (k := nl) (kw_ixof (k := nl) (n := 8) rfl (by omega) (by decide)) dX5_leaf_215 (fun x H locs hm hW hS => ?_)
                          refine lv_aload_n S.1 S.2.1 dX5_leaf_216 rfl (lv_at hl 1 rfl) ?_
                          refine mx_gA S hK hm hW 17 iX5 rfl (by decide) (by decide) (by decide +kernel) dX5_leaf_217 ?_
                          refine lv_iload S.1 S.2.1 dX5_leaf_220 (lv_at hl 0 rfl) ?_
                          refine lv_iconst (v := (-1)) S.1 S.2.1 dX5_leaf_222 (by decide) ?_
                          refine mx_ist S hK hm hW hS 17 (by decide) (k := nl) (kw_ixof (k := nl) (n := 8) rfl (by omega) (by decide)) dX5_leaf_223 (fun x H locs hm hW hS => ?_)
                          refine lv_aload_n S.1 S.2.1 dX5_leaf_224 rfl (lv_at hl 1 rfl) ?_
                          refine mx_gA S hK hm hW 18 iX5 rfl (by decide) (by decide) (by decide +kernel) dX5_leaf_225 ?_
                          refine lv_iload S.1 S.2.1 dX5_leaf_228 (lv_at hl 0 rfl) ?_
                          refine lv_iconst (v := (-1)) S.1 S.2.1 dX5_leaf_230 (by decide) ?_
                          refine mx_ist S hK hm hW hS 18 (by decide) (k := nl) (kw_ixof (k := nl) (n := 8) rfl (by omega) (by decide)) dX5_leaf_231 (fun x H locs hm hW hS => ?_)
                          refine lv_aload_n S.1 S.2.1 dX5_leaf_232 rfl (lv_at hl 1 rfl) ?_
                          refine lv_iload S.1 S.2.1 dX5_leaf_233 (lv_at hl 0 rfl) ?_
                          refine lv_iload S.1 S.2.1 dX5_leaf_235 (lv_at hl 5 rfl) ?_
                          refine lv_iload S.1 S.2.1 dX5_leaf_237 (lv_at hl 6 rfl) ?_
                          refine mx_cV (As := [.int (nI nl), .int (ce), .int (b)]) (rest := []) (st1 := []) S hK hZ hA hm hW hS (c_X5_fill l G nu x z mo ma (uA (uA (uA (uA (uA (uA t 13 (nl) (nI g)) 14 (nl) (w)) 15 (nl) (gu)) 16 (nl) (ll)) 17 (nl) (-1)) 18 (nl) (-1)) nl ce b hm (by omega)) (cwV 3 S.2.2.2.2 gX5_leaf_X5_fill rfl rfl rfl (by decide +kernel) ⟨Nat.le_of_ble_eq_true rfl, Nat.le_of_ble_eq_true rfl⟩) rfl hl.1 rfl (Nat.le_of_ble_eq_true rfl) dX5_leaf_239 ⟨Nat.le_of_ble_eq_true rfl, Nat.le_of_ble_eq_true rfl⟩ rfl (fun x H locs hm hW hS => ?_)
                          refine lv_aload_n S.1 S.2.1 dX5_leaf_242 rfl (lv_at hl 1 rfl) ?_
                          refine lv_dup S.1 S.2.1 dX5_leaf_243 rfl ?_
                          refine mx_gI S hK hm hW 3 iX5 rfl (by decide) (by decide +kernel) dX5_leaf_244 (v := nI nl) (Eq.trans (b := tF t 3) (by simp [tF_uF, tF_uL, tF_uA, tF_uB, tL_uF, tL_uL, tL_uA, tL_uB, tA_uF, tA_uL, tA_uA, tA_uB, tB_uF, tB_uL, tB_uA, tB_uB, m_fill_F]) hnl) ?_
                          refine lv_iconst (v := 1) S.1 S.2.1 dX5_leaf_247 (by decide) ?_
                          refine lv_iadd S.1 S.2.1 dX5_leaf_248 ?_
                          rw [show (nI nl : Int32) + 1 = nI (nl + 1) from nI_add (nl) (1)]
                          refine mx_pI S hK hm hW hS 3 iX5 rfl (by decide) (by decide +kernel) rfl rfl dX5_leaf_249 (fun x H locs hm hW hS => ?_)
                          refine lv_iload S.1 S.2.1 dX5_leaf_252 (lv_at hl 0 rfl) ?_
                          rw [hQQ]
                          refine kw_iret S hr hlk hW hS (by decide) (by decide) dX5_leaf_254 ?_
                          refine ⟨?_, rfl, hm.to ?_⟩ <;> first | rfl | (simp [m_lfok, m_leaf, c1, hn8e, c2, hgl, c3, eq_true c4, c5, c6, c7, c10, c11, kw_b]; done) | (simp [m_lfok, m_leaf, c1, hn8e, c2, hgl, c3, eq_true c4, c5, c6, c7, c10, c11, kw_b, tF_uF, tF_uL, tF_uA, tF_uB, tL_uF, tL_uL, tL_uA, tL_uB, tA_uF, tA_uL, tA_uA, tA_uB, tB_uF, tB_uL, tB_uA, tB_uB, m_fill_F]; done) | contradiction
                        · skip
                          refine lv_iconst (v := (-1)) S.1 S.2.1 dX5_leaf_175 (by decide) ?_
                          rw [hQQ]
                          refine kw_iret S hr hlk hW hS (by decide) (by decide) dX5_leaf_176 ?_
                          refine ⟨?_, rfl, hm.to ?_⟩ <;> first | rfl | (simp [m_lfok, m_leaf, c1, hn8e, c2, hgl, c3, eq_true c4, c5, c6, c7, c10, c11, kw_b]; done) | (simp [m_lfok, m_leaf, c1, hn8e, c2, hgl, c3, eq_true c4, c5, c6, c7, c10, c11, kw_b, tF_uF, tF_uL, tF_uA, tF_uB, tL_uF, tL_uL, tL_uA, tL_uB, tA_uF, tA_uL, tA_uA, tA_uB, tB_uF, tB_uL, tB_uA, tB_uB, m_fill_F]; done) | contradiction
                    · skip
                      exact absurd (nI_le (a := nl) (b := n) (by omega) (by omega)) c8
                  | succ dn ihloop =>
                    intro n  hndn  x H locs ls hm hW hS hl
                    refine lv_iload S.1 S.2.1 dX5_leaf_99 (lv_at hl 9 rfl) ?_
                    refine lv_aload_n S.1 S.2.1 dX5_leaf_101 rfl (lv_at hl 0 rfl) ?_
                    refine mx_gI S hK hm hW 3 iX5 rfl (by decide) (by decide +kernel) dX5_leaf_102 (v := nI nl) hnl ?_
                    refine lv_icmp_ge (tgt := 153) S.1 S.2.1 dX5_leaf_105 (by decide) (fun c12 => ?_) (fun c12 => ?_)
                    · skip
                      exact absurd c12 (nI_ge (a := n) (b := nl) (by omega) (by omega))
                    · skip
                      refine lv_iload S.1 S.2.1 dX5_leaf_108 (lv_at hl 7 rfl) ?_
                      refine lv_aload_n S.1 S.2.1 dX5_leaf_110 rfl (lv_at hl 0 rfl) ?_
                      refine mx_gA S hK hm hW 15 iX5 rfl (by decide) (by decide) (by decide +kernel) dX5_leaf_111 ?_
                      refine lv_iload S.1 S.2.1 dX5_leaf_114 (lv_at hl 9 rfl) ?_
                      refine mx_ild S hK hm hW 15 (by decide) (k := n) (kw_ixof (k := n) (n := 8) rfl (by omega) (by decide)) dX5_leaf_116 (v := tA t 15 n) rfl ?_
                      refine lv_iadd S.1 S.2.1 dX5_leaf_117 ?_
                      refine lv_istore (lv' := [(7, .int ((m_all t gu n) + (tA t 15 n))), (0, .ref mo), (1, .int (nI g)), (2, .int (w)), (3, .int (gu)), (4, .int (ce)), (5, .int (b)), (6, .int (ll)), (8, .int (m_its t g gu n)), (9, .int (nI n))]) S.1 S.2.1 dX5_leaf_118 hl (by decide) rfl (fun ls hl => ?_)
                      refine lv_iload S.1 S.2.1 dX5_leaf_120 (lv_at hl 8 rfl) ?_
                      refine lv_aload_n S.1 S.2.1 dX5_leaf_122 rfl (lv_at hl 1 rfl) ?_
                      refine mx_gA S hK hm hW 13 iX5 rfl (by decide) (by decide) (by decide +kernel) dX5_leaf_123 ?_
                      refine lv_iload S.1 S.2.1 dX5_leaf_126 (lv_at hl 9 rfl) ?_
                      refine mx_ild S hK hm hW 13 (by decide) (k := n) (kw_ixof (k := n) (n := 8) rfl (by omega) (by decide)) dX5_leaf_128 (v := tA t 13 n) rfl ?_
                      refine lv_iload_n S.1 S.2.1 dX5_leaf_129 rfl (lv_at hl 2 rfl) ?_
                      refine lv_icmp_ne (tgt := 143) S.1 S.2.1 dX5_leaf_130 (by decide) (fun c13 => ?_) (fun c13 => ?_)
                      · skip
                        refine lv_iconst (v := 0) S.1 S.2.1 dX5_leaf_143 (by decide) ?_
                        refine lv_iadd S.1 S.2.1 dX5_leaf_144 ?_
                        refine lv_istore (lv' := [(8, .int ((m_its t g gu n) + (0))), (7, .int ((m_all t gu n) + (tA t 15 n))), (0, .ref mo), (1, .int (nI g)), (2, .int (w)), (3, .int (gu)), (4, .int (ce)), (5, .int (b)), (6, .int (ll)), (9, .int (nI n))]) S.1 S.2.1 dX5_leaf_145 hl (by decide) rfl (fun ls hl => ?_)
                        refine lv_iinc (v := nI (n + 1)) (lv' := [(9, .int (nI (n + 1))), (8, .int ((m_its t g gu n) + (0))), (7, .int ((m_all t gu n) + (tA t 15 n))), (0, .ref mo), (1, .int (nI g)), (2, .int (w)), (3, .int (gu)), (4, .int (ce)), (5, .int (b)), (6, .int (ll))]) S.1 S.2.1 dX5_leaf_147 hl (k := 9) rfl (nI_1 _) (by decide) rfl (fun ls hl => ?_)
                        refine lv_goto (tgt := 99) S.1 S.2.1 dX5_leaf_150 (by decide) ?_
                        exact ihloop (n + 1)  (by omega)  x _ _ ls (hm.to rfl) hW hS (lv_conv (lv_sub hl [3, 4, 5, 6, 7, 8, 9, 2, 1, 0] rfl) (congr (congrArg List.cons rfl) (congr (congrArg List.cons rfl) (congr (congrArg List.cons rfl) (congr (congrArg List.cons rfl) (congr (congrArg List.cons rfl) (congr (congrArg List.cons rfl) (congr (congrArg List.cons rfl) (congr (congrArg List.cons (congrArg (fun z9 => ((7 : Nat), Value.int z9)) (show ((m_all t gu n) + (tA t 15 n) : Int32) = m_all t gu (n + 1) from by first | rfl | (simp [m_all, m_its, c1, hn8e, c2, hgl, c3, eq_true c4, c5, c6, c7, c12, c13])))) (congr (congrArg List.cons (congrArg (fun z9 => ((8 : Nat), Value.int z9)) (show ((m_its t g gu n) + (0) : Int32) = m_its t g gu (n + 1) from by first | rfl | (simp [m_all, m_its, c1, hn8e, c2, hgl, c3, eq_true c4, c5, c6, c7, c12, c13])))) (congr (congrArg List.cons rfl) rfl)))))))))))
                      · skip
                        refine lv_aload_n S.1 S.2.1 dX5_leaf_133 rfl (lv_at hl 1 rfl) ?_
                        refine mx_gA S hK hm hW 15 iX5 rfl (by decide) (by decide) (by decide +kernel) dX5_leaf_134 ?_
                        refine lv_iload S.1 S.2.1 dX5_leaf_137 (lv_at hl 9 rfl) ?_
                        refine mx_ild S hK hm hW 15 (by decide) (k := n) (kw_ixof (k := n) (n := 8) rfl (by omega) (by decide)) dX5_leaf_139 (v := tA t 15 n) rfl ?_
                        refine lv_goto (tgt := 144) S.1 S.2.1 dX5_leaf_140 (by decide) ?_
                        refine lv_iadd S.1 S.2.1 dX5_leaf_144 ?_
                        refine lv_istore (lv' := [(8, .int ((m_its t g gu n) + (tA t 15 n))), (7, .int ((m_all t gu n) + (tA t 15 n))), (0, .ref mo), (1, .int (nI g)), (2, .int (w)), (3, .int (gu)), (4, .int (ce)), (5, .int (b)), (6, .int (ll)), (9, .int (nI n))]) S.1 S.2.1 dX5_leaf_145 hl (by decide) rfl (fun ls hl => ?_)
                        refine lv_iinc (v := nI (n + 1)) (lv' := [(9, .int (nI (n + 1))), (8, .int ((m_its t g gu n) + (tA t 15 n))), (7, .int ((m_all t gu n) + (tA t 15 n))), (0, .ref mo), (1, .int (nI g)), (2, .int (w)), (3, .int (gu)), (4, .int (ce)), (5, .int (b)), (6, .int (ll))]) S.1 S.2.1 dX5_leaf_147 hl (k := 9) rfl (nI_1 _) (by decide) rfl (fun ls hl => ?_)
                        refine lv_goto (tgt := 99) S.1 S.2.1 dX5_leaf_150 (by decide) ?_
                        exact ihloop (n + 1)  (by omega)  x _ _ ls (hm.to rfl) hW hS (lv_conv (lv_sub hl [3, 4, 5, 6, 7, 8, 9, 2, 1, 0] rfl) (congr (congrArg List.cons rfl) (congr (congrArg List.cons rfl) (congr (congrArg List.cons rfl) (congr (congrArg List.cons rfl) (congr (congrArg List.cons rfl) (congr (congrArg List.cons rfl) (congr (congrArg List.cons rfl) (congr (congrArg List.cons (congrArg (fun z9 => ((7 : Nat), Value.int z9)) (show ((m_all t gu n) + (tA t 15 n) : Int32) = m_all t gu (n + 1) from by first | rfl | (simp [m_all, m_its, c1, hn8e, c2, hgl, c3, eq_true c4, c5, c6, c7, c12, eq_true c13])))) (congr (congrArg List.cons (congrArg (fun z9 => ((8 : Nat), Value.int z9)) (show ((m_its t g gu n) + (tA t 15 n) : Int32) = m_its t g gu (n + 1) from by first | rfl | (simp [m_all, m_its, c1, hn8e, c2, hgl, c3, eq_true c4, c5, c6, c7, c12, eq_true c13])))) (congr (congrArg List.cons rfl) rfl)))))))))))
                exact loop (nl - 0) 0  (by omega)  x _ _ ls (hm.to rfl) hW hS (lv_conv (lv_sub hl [3, 4, 5, 6, 7, 8, 9, 2, 1, 0] rfl) (congr (congrArg List.cons rfl) (congr (congrArg List.cons rfl) (congr (congrArg List.cons rfl) (congr (congrArg List.cons rfl) (congr (congrArg List.cons rfl) (congr (congrArg List.cons rfl) (congr (congrArg List.cons rfl) (congr (congrArg List.cons (congrArg (fun z9 => ((7 : Nat), Value.int z9)) (show (gu : Int32) = m_all t gu 0 from by first | rfl | (simp [m_all, m_its, c1, hn8e, c2, hgl, c3, eq_true c4, c5, c6, c7])))) (congr (congrArg List.cons (congrArg (fun z9 => ((8 : Nat), Value.int z9)) (show (gu : Int32) = m_its t g gu 0 from by first | rfl | (simp [m_all, m_its, c1, hn8e, c2, hgl, c3, eq_true c4, c5, c6, c7])))) (congr (congrArg List.cons (congrArg (fun z9 => ((9 : Nat), Value.int z9)) (show (0 : Int32) = nI 0 from by first | rfl | (simp [m_all, m_its, c1, hn8e, c2, hgl, c3, eq_true c4, c5, c6, c7])))) rfl)))))))))))
              · skip
                refine lv_iconst (v := (-1)) S.1 S.2.1 dX5_leaf_88 (by decide) ?_
                rw [hQQ]
                refine kw_iret S hr hlk hW hS (by decide) (by decide) dX5_leaf_89 ?_
                refine ⟨?_, rfl, hm.to ?_⟩ <;> first | rfl | (simp [m_lfok, m_leaf, c1, hn8e, c2, hgl, c3, eq_true c4, c5, c6, c7, kw_b]; done) | (simp [m_lfok, m_leaf, c1, hn8e, c2, hgl, c3, eq_true c4, c5, c6, c7, kw_b, tF_uF, tF_uL, tF_uA, tF_uB, tL_uF, tL_uL, tL_uA, tL_uB, tA_uF, tA_uL, tA_uA, tA_uB, tB_uF, tB_uL, tB_uA, tB_uB, m_fill_F]; done) | contradiction
        · skip
          refine lv_iload_n S.1 S.2.1 dX5_leaf_37 rfl (lv_at hl 3 rfl) ?_
          refine lv_bipush (v := 10) S.1 S.2.1 dX5_leaf_38 (by decide) ?_
          refine lv_sipush (v := 1000) S.1 S.2.1 dX5_leaf_40 (by decide) ?_
          refine kx_cS (As := [.int (gu), .int (10), .int (1000)]) (rest := []) (st1 := [.int (kw_b (kw_wi gu 10 1000 = true))]) S hK hZ hA hW hS (c_X5_in l G nu x gu 10 1000 ) (va_cwS 3 S.2.2.2.2 gX5_leaf_X5_in rfl rfl rfl (by decide +kernel) ⟨Nat.le_of_ble_eq_true rfl, Nat.le_of_ble_eq_true rfl⟩) rfl hl.1 rfl (Nat.le_of_ble_eq_true rfl) dX5_leaf_43 ⟨Nat.le_of_ble_eq_true rfl, Nat.le_of_ble_eq_true rfl⟩ rfl (fun H locs hW hS => ?_)
          refine kx_ifz_eq (tgt := 88) S dX5_leaf_46 (by decide) (fun c14 => ?_) (fun c14 => ?_)
          · skip
            refine lv_iconst (v := (-1)) S.1 S.2.1 dX5_leaf_88 (by decide) ?_
            rw [hQQ]
            refine kw_iret S hr hlk hW hS (by decide) (by decide) dX5_leaf_89 ?_
            refine ⟨?_, rfl, hm.to ?_⟩ <;> first | rfl | (simp [m_lfok, m_leaf, c1, hn8e, c2, hgl, c3, c4, c14, kw_b]; done) | (simp [m_lfok, m_leaf, c1, hn8e, c2, hgl, c3, c4, c14, kw_b, tF_uF, tF_uL, tF_uA, tF_uB, tL_uF, tL_uL, tL_uA, tL_uB, tA_uF, tA_uL, tA_uA, tA_uB, tB_uF, tB_uL, tB_uA, tB_uB, m_fill_F]; done) | contradiction
          · skip
            refine lv_iload S.1 S.2.1 dX5_leaf_49 (lv_at hl 4 rfl) ?_
            refine lv_iload_n S.1 S.2.1 dX5_leaf_51 rfl (lv_at hl 3 rfl) ?_
            refine lv_sipush (v := 1000) S.1 S.2.1 dX5_leaf_52 (by decide) ?_
            refine kx_cS (As := [.int (ce), .int (gu), .int (1000)]) (rest := []) (st1 := [.int (kw_b (kw_wi ce gu 1000 = true))]) S hK hZ hA hW hS (c_X5_in l G nu x ce gu 1000 ) (va_cwS 3 S.2.2.2.2 gX5_leaf_X5_in rfl rfl rfl (by decide +kernel) ⟨Nat.le_of_ble_eq_true rfl, Nat.le_of_ble_eq_true rfl⟩) rfl hl.1 rfl (Nat.le_of_ble_eq_true rfl) dX5_leaf_55 ⟨Nat.le_of_ble_eq_true rfl, Nat.le_of_ble_eq_true rfl⟩ rfl (fun H locs hW hS => ?_)
            refine kx_ifz_eq (tgt := 88) S dX5_leaf_58 (by decide) (fun c15 => ?_) (fun c15 => ?_)
            · skip
              refine lv_iconst (v := (-1)) S.1 S.2.1 dX5_leaf_88 (by decide) ?_
              rw [hQQ]
              refine kw_iret S hr hlk hW hS (by decide) (by decide) dX5_leaf_89 ?_
              refine ⟨?_, rfl, hm.to ?_⟩ <;> first | rfl | (simp [m_lfok, m_leaf, c1, hn8e, c2, hgl, c3, c4, c14, c15, kw_b]; done) | (simp [m_lfok, m_leaf, c1, hn8e, c2, hgl, c3, c4, c14, c15, kw_b, tF_uF, tF_uL, tF_uA, tF_uB, tL_uF, tL_uL, tL_uA, tL_uB, tA_uF, tA_uL, tA_uA, tA_uB, tB_uF, tB_uL, tB_uA, tB_uB, m_fill_F]; done) | contradiction
            · skip
              refine lv_iload S.1 S.2.1 dX5_leaf_61 (lv_at hl 5 rfl) ?_
              refine lv_sipush (v := 1500) S.1 S.2.1 dX5_leaf_63 (by decide) ?_
              refine lv_sipush (v := 20000) S.1 S.2.1 dX5_leaf_66 (by decide) ?_
              refine kx_cS (As := [.int (b), .int (1500), .int (20000)]) (rest := []) (st1 := [.int (kw_b (kw_wi b 1500 20000 = true))]) S hK hZ hA hW hS (c_X5_in l G nu x b 1500 20000 ) (va_cwS 3 S.2.2.2.2 gX5_leaf_X5_in rfl rfl rfl (by decide +kernel) ⟨Nat.le_of_ble_eq_true rfl, Nat.le_of_ble_eq_true rfl⟩) rfl hl.1 rfl (Nat.le_of_ble_eq_true rfl) dX5_leaf_69 ⟨Nat.le_of_ble_eq_true rfl, Nat.le_of_ble_eq_true rfl⟩ rfl (fun H locs hW hS => ?_)
              refine kx_ifz_eq (tgt := 88) S dX5_leaf_72 (by decide) (fun c16 => ?_) (fun c16 => ?_)
              · skip
                refine lv_iconst (v := (-1)) S.1 S.2.1 dX5_leaf_88 (by decide) ?_
                rw [hQQ]
                refine kw_iret S hr hlk hW hS (by decide) (by decide) dX5_leaf_89 ?_
                refine ⟨?_, rfl, hm.to ?_⟩ <;> first | rfl | (simp [m_lfok, m_leaf, c1, hn8e, c2, hgl, c3, c4, c14, c15, c16, kw_b]; done) | (simp [m_lfok, m_leaf, c1, hn8e, c2, hgl, c3, c4, c14, c15, c16, kw_b, tF_uF, tF_uL, tF_uA, tF_uB, tL_uF, tL_uL, tL_uA, tL_uB, tA_uF, tA_uL, tA_uA, tA_uB, tB_uF, tB_uL, tB_uA, tB_uB, m_fill_F]; done) | contradiction
              · skip
                refine lv_iload S.1 S.2.1 dX5_leaf_75 (lv_at hl 6 rfl) ?_
                refine lv_sipush (v := 1500) S.1 S.2.1 dX5_leaf_77 (by decide) ?_
                refine lv_ldc (v := 60000) S.1 S.2.1 S.2.2.2.1 (S.2.2.2.2 _ (by decide +kernel)) dX5_leaf_80 ?_
                refine kx_cS (As := [.int (ll), .int (1500), .int (60000)]) (rest := []) (st1 := [.int (kw_b (kw_wi ll 1500 60000 = true))]) S hK hZ hA hW hS (c_X5_in l G nu x ll 1500 60000 ) (va_cwS 3 S.2.2.2.2 gX5_leaf_X5_in rfl rfl rfl (by decide +kernel) ⟨Nat.le_of_ble_eq_true rfl, Nat.le_of_ble_eq_true rfl⟩) rfl hl.1 rfl (Nat.le_of_ble_eq_true rfl) dX5_leaf_82 ⟨Nat.le_of_ble_eq_true rfl, Nat.le_of_ble_eq_true rfl⟩ rfl (fun H locs hW hS => ?_)
                refine kx_ifz_ne (tgt := 90) S dX5_leaf_85 (by decide) (fun c17 => ?_) (fun c17 => ?_)
                · skip
                  refine lv_iload_n S.1 S.2.1 dX5_leaf_90 rfl (lv_at hl 3 rfl) ?_
                  refine lv_istore (lv' := [(7, .int (gu)), (0, .ref mo), (1, .int (nI g)), (2, .int (w)), (3, .int (gu)), (4, .int (ce)), (5, .int (b)), (6, .int (ll))]) S.1 S.2.1 dX5_leaf_91 hl (by decide) rfl (fun ls hl => ?_)
                  refine lv_iload_n S.1 S.2.1 dX5_leaf_93 rfl (lv_at hl 4 rfl) ?_
                  refine lv_istore (lv' := [(8, .int (gu)), (7, .int (gu)), (0, .ref mo), (1, .int (nI g)), (2, .int (w)), (3, .int (gu)), (4, .int (ce)), (5, .int (b)), (6, .int (ll))]) S.1 S.2.1 dX5_leaf_94 hl (by decide) rfl (fun ls hl => ?_)
                  refine lv_iconst (v := 0) S.1 S.2.1 dX5_leaf_96 (by decide) ?_
                  refine lv_istore (lv' := [(9, .int (0)), (8, .int (gu)), (7, .int (gu)), (0, .ref mo), (1, .int (nI g)), (2, .int (w)), (3, .int (gu)), (4, .int (ce)), (5, .int (b)), (6, .int (ll))]) S.1 S.2.1 dX5_leaf_97 hl (by decide) rfl (fun ls hl => ?_)
                  have loop : ∀ (dn n : Nat), n + dn = nl → ∀ (x : kw_St) (H : Heap) (locs : List Loc) (ls : Array Slot), mw nu z mo ma (t) x → kw_W G A nu x H → va_S A s.heap H locs → lv_has ls 10 [(0, .ref mo), (1, .int (nI g)), (2, .int (w)), (3, .int (gu)), (4, .int (ce)), (5, .int (b)), (6, .int (ll)), (7, .int (m_all t gu n)), (8, .int (m_its t g gu n)), (9, .int (nI n))] → W p l e { frames := 1, cells := 0, slots := 0, locals := 23 } s m args below meth c H locs 0 0 QQ (F0 m 99 ls []) := by
                    intro dn
                    induction dn with
                    | zero =>
                      intro n  hndn  x H locs ls hm hW hS hl
                      refine lv_iload S.1 S.2.1 dX5_leaf_99 (lv_at hl 9 rfl) ?_
                      refine lv_aload_n S.1 S.2.1 dX5_leaf_101 rfl (lv_at hl 0 rfl) ?_
                      refine mx_gI S hK hm hW 3 iX5 rfl (by decide) (by decide +kernel) dX5_leaf_102 (v := nI nl) hnl ?_
                      refine lv_icmp_ge (tgt := 153) S.1 S.2.1 dX5_leaf_105 (by decide) (fun c18 => ?_) (fun c18 => ?_)
                      · skip
                        have hnn19 : nl = n := by omega
                        subst hnn19
                        refine lv_iload S.1 S.2.1 dX5_leaf_153 (lv_at hl 7 rfl) ?_
                        refine lv_sipush (v := 1000) S.1 S.2.1 dX5_leaf_155 (by decide) ?_
                        refine lv_icmp_gt (tgt := 175) S.1 S.2.1 dX5_leaf_158 (by decide) (fun c20 => ?_) (fun c20 => ?_)
                        · skip
                          refine lv_iconst (v := (-1)) S.1 S.2.1 dX5_leaf_175 (by decide) ?_
                          rw [hQQ]
                          refine kw_iret S hr hlk hW hS (by decide) (by decide) dX5_leaf_176 ?_
                          refine ⟨?_, rfl, hm.to ?_⟩ <;> first | rfl | (simp [m_lfok, m_leaf, c1, hn8e, c2, hgl, c3, c4, c14, c15, c16, c17, c20, kw_b]; done) | (simp [m_lfok, m_leaf, c1, hn8e, c2, hgl, c3, c4, c14, c15, c16, c17, c20, kw_b, tF_uF, tF_uL, tF_uA, tF_uB, tL_uF, tL_uL, tL_uA, tL_uB, tA_uF, tA_uL, tA_uA, tA_uB, tB_uF, tB_uL, tB_uA, tB_uB, m_fill_F]; done) | contradiction
                        · skip
                          refine lv_iload S.1 S.2.1 dX5_leaf_161 (lv_at hl 8 rfl) ?_
                          refine lv_aload_n S.1 S.2.1 dX5_leaf_163 rfl (lv_at hl 0 rfl) ?_
                          refine mx_gA S hK hm hW 30 iX5 rfl (by decide) (by decide) (by decide +kernel) dX5_leaf_164 ?_
                          refine lv_bipush (v := 8) S.1 S.2.1 dX5_leaf_167 (by decide) ?_
                          refine lv_iload_n S.1 S.2.1 dX5_leaf_169 rfl (lv_at hl 1 rfl) ?_
                          refine lv_iadd S.1 S.2.1 dX5_leaf_170 ?_
                          rw [show (8 : Int32) + nI g = nI (8 + g) from nI_add (8) (g)]
                          refine mx_ild S hK hm hW 30 (by decide) (k := (8 + g)) (kw_ixof (k := 8 + g) (n := 20) rfl (by omega) (by decide)) dX5_leaf_171 (v := tA t 30 (8 + g)) rfl ?_
                          refine lv_icmp_le (tgt := 177) S.1 S.2.1 dX5_leaf_172 (by decide) (fun c21 => ?_) (fun c21 => ?_)
                          · skip
                            refine lv_aload_n S.1 S.2.1 dX5_leaf_177 rfl (lv_at hl 0 rfl) ?_
                            refine mx_gI S hK hm hW 3 iX5 rfl (by decide) (by decide +kernel) dX5_leaf_178 (v := nI nl) hnl ?_
                            refine lv_istore (lv' := [(9, .int (nI nl)), (0, .ref mo), (1, .int (nI g)), (2, .int (w)), (3, .int (gu)), (4, .int (ce)), (5, .int (b)), (6, .int (ll)), (7, .int (m_all t gu nl)), (8, .int (m_its t g gu nl))]) S.1 S.2.1 dX5_leaf_181 hl (by decide) rfl (fun ls hl => ?_)
                            refine lv_aload_n S.1 S.2.1 dX5_leaf_183 rfl (lv_at hl 1 rfl) ?_
                            refine mx_gA S hK hm hW 13 iX5 rfl (by decide) (by decide) (by decide +kernel) dX5_leaf_184 ?_
                            refine lv_iload S.1 S.2.1 dX5_leaf_187 (lv_at hl 0 rfl) ?_
                            refine lv_iload_n S.1 S.2.1 dX5_leaf_189 rfl (lv_at hl 2 rfl) ?_
                            refine mx_ist S hK hm hW hS 13 (by decide) (k := nl) (kw_ixof (k := nl) (n := 8) rfl (by omega) (by decide)) dX5_leaf_190 (fun x H locs hm hW hS => ?_)
                            refine lv_aload_n S.1 S.2.1 dX5_leaf_191 rfl (lv_at hl 1 rfl) ?_
                            refine mx_gA S hK hm hW 14 iX5 rfl (by decide) (by decide) (by decide +kernel) dX5_leaf_192 ?_
                            refine lv_iload S.1 S.2.1 dX5_leaf_195 (lv_at hl 0 rfl) ?_
                            refine lv_iload_n S.1 S.2.1 dX5_leaf_197 rfl (lv_at hl 3 rfl) ?_
                            refine mx_ist S hK hm hW hS 14 (by decide) (k := nl) (kw_ixof (k := nl) (n := 8) rfl (by omega) (by decide)) dX5_leaf_198 (fun x H locs hm hW hS => ?_)
                            refine lv_aload_n S.1 S.2.1 dX5_leaf_199 rfl (lv_at hl 1 rfl) ?_
                            refine mx_gA S hK hm hW 15 iX5 rfl (by decide) (by decide) (by decide +kernel) dX5_leaf_200 ?_
                            refine lv_iload S.1 S.2.1 dX5_leaf_203 (lv_at hl 0 rfl) ?_
                            refine lv_iload_n S.1 S.2.1 dX5_leaf_205 rfl (lv_at hl 4 rfl) ?_
                            refine mx_ist S hK hm hW hS 15 (by decide) (k := nl) (kw_ixof (k := nl) (n := 8) rfl (by omega) (by decide)) dX5_leaf_206 (fun x H locs hm hW hS => ?_)
                            refine lv_aload_n S.1 S.2.1 dX5_leaf_207 rfl (lv_at hl 1 rfl) ?_
                            refine mx_gA S hK hm hW 16 iX5 rfl (by decide) (by decide) (by decide +kernel) dX5_leaf_208 ?_
                            refine lv_iload S.1 S.2.1 dX5_leaf_211 (lv_at hl 0 rfl) ?_
                            refine lv_iload S.1 S.2.1 dX5_leaf_213 (lv_at hl 7 rfl) ?_
                            refine mx_ist S hK hm hW hS 16 (by decide) (k := nl) (kw_ixof (k := nl) (n := 8) rfl (by omega) (by decide)) dX5_leaf_215 (fun x H locs hm hW hS => ?_)
                            refine lv_aload_n S.1 S.2.1 dX5_leaf_216 rfl (lv_at hl 1 rfl) ?_
                            refine mx_gA S hK hm hW 17 iX5 rfl (by decide) (by decide) (by decide +kernel) dX5_leaf_217 ?_
                            refine lv_iload S.1 S.2.1 dX5_leaf_220 (lv_at hl 0 rfl) ?_
                            refine lv_iconst (v := (-1)) S.1 S.2.1 dX5_leaf_222 (by decide) ?_
                            refine mx_ist S hK hm hW hS 17 (by decide) (k := nl) (kw_ixof (k := nl) (n := 8) rfl (by omega) (by decide)) dX5_leaf_223 (fun x H locs hm hW hS => ?_)
                            refine lv_aload_n S.1 S.2.1 dX5_leaf_224 rfl (lv_at hl 1 rfl) ?_
                            refine mx_gA S hK hm hW 18 iX5 rfl (by decide) (by decide) (by decide +kernel) dX5_leaf_225 ?_
                            refine lv_iload S.1 S.2.1 dX5_leaf_228 (lv_at hl 0 rfl) ?_
                            refine lv_iconst (v := (-1)) S.1 S.2.1 dX5_leaf_230 (by decide) ?_
                            refine mx_ist S hK hm hW hS 18 (by decide) (k := nl) (kw_ixof (k := nl) (n := 8) rfl (by omega) (by decide)) dX5_leaf_231 (fun x H locs hm hW hS => ?_)
                            refine lv_aload_n S.1 S.2.1 dX5_leaf_232 rfl (lv_at hl 1 rfl) ?_
                            refine lv_iload S.1 S.2.1 dX5_leaf_233 (lv_at hl 0 rfl) ?_
                            refine lv_iload S.1 S.2.1 dX5_leaf_235 (lv_at hl 5 rfl) ?_
                            refine lv_iload S.1 S.2.1 dX5_leaf_237 (lv_at hl 6 rfl) ?_
                            refine mx_cV (As := [.int (nI nl), .int (ce), .int (b)]) (rest := []) (st1 := []) S hK hZ hA hm hW hS (c_X5_fill l G nu x z mo ma (uA (uA (uA (uA (uA (uA t 13 (nl) (nI g)) 14 (nl) (w)) 15 (nl) (gu)) 16 (nl) (ll)) 17 (nl) (-1)) 18 (nl) (-1)) nl ce b hm (by omega)) (cwV 3 S.2.2.2.2 gX5_leaf_X5_fill rfl rfl rfl (by decide +kernel) ⟨Nat.le_of_ble_eq_true rfl, Nat.le_of_ble_eq_true rfl⟩) rfl hl.1 rfl (Nat.le_of_ble_eq_true rfl) dX5_leaf_239 ⟨Nat.le_of_ble_eq_true rfl, Nat.le_of_ble_eq_true rfl⟩ rfl (fun x H locs hm hW hS => ?_)
                            refine lv_aload_n S.1 S.2.1 dX5_leaf_242 rfl (lv_at hl 1 rfl) ?_
                            refine lv_dup S.1 S.2.1 dX5_leaf_243 rfl ?_
                            refine mx_gI S hK hm hW 3 iX5 rfl (by decide) (by decide +kernel) dX5_leaf_244 (v := nI nl) (Eq.trans (b := tF t 3) (by simp [tF_uF, tF_uL, tF_uA, tF_uB, tL_uF, tL_uL, tL_uA, tL_uB, tA_uF, tA_uL, tA_uA, tA_uB, tB_uF, tB_uL, tB_uA, tB_uB, m_fill_F]) hnl) ?_
                            refine lv_iconst (v := 1) S.1 S.2.1 dX5_leaf_247 (by decide) ?_
                            refine lv_iadd S.1 S.2.1 dX5_leaf_248 ?_
                            rw [show (nI nl : Int32) + 1 = nI (nl + 1) from nI_add (nl) (1)]
                            refine mx_pI S hK hm hW hS 3 iX5 rfl (by decide) (by decide +kernel) rfl rfl dX5_leaf_249 (fun x H locs hm hW hS => ?_)
                            refine lv_iload S.1 S.2.1 dX5_leaf_252 (lv_at hl 0 rfl) ?_
                            rw [hQQ]
                            refine kw_iret S hr hlk hW hS (by decide) (by decide) dX5_leaf_254 ?_
                            refine ⟨?_, rfl, hm.to ?_⟩ <;> first | rfl | (simp [m_lfok, m_leaf, c1, hn8e, c2, hgl, c3, c4, c14, c15, c16, c17, c20, c21, kw_b]; done) | (simp [m_lfok, m_leaf, c1, hn8e, c2, hgl, c3, c4, c14, c15, c16, c17, c20, c21, kw_b, tF_uF, tF_uL, tF_uA, tF_uB, tL_uF, tL_uL, tL_uA, tL_uB, tA_uF, tA_uL, tA_uA, tA_uB, tB_uF, tB_uL, tB_uA, tB_uB, m_fill_F]; done) | contradiction
                          · skip
                            refine lv_iconst (v := (-1)) S.1 S.2.1 dX5_leaf_175 (by decide) ?_
                            rw [hQQ]
                            refine kw_iret S hr hlk hW hS (by decide) (by decide) dX5_leaf_176 ?_
                            refine ⟨?_, rfl, hm.to ?_⟩ <;> first | rfl | (simp [m_lfok, m_leaf, c1, hn8e, c2, hgl, c3, c4, c14, c15, c16, c17, c20, c21, kw_b]; done) | (simp [m_lfok, m_leaf, c1, hn8e, c2, hgl, c3, c4, c14, c15, c16, c17, c20, c21, kw_b, tF_uF, tF_uL, tF_uA, tF_uB, tL_uF, tL_uL, tL_uA, tL_uB, tA_uF, tA_uL, tA_uA, tA_uB, tB_uF, tB_uL, tB_uA, tB_uB, m_fill_F]; done) | contradiction
                      · skip
                        exact absurd (nI_le (a := nl) (b := n) (by omega) (by omega)) c18
                    | succ dn ihloop =>
                      intro n  hndn  x H locs ls hm hW hS hl
                      refine lv_iload S.1 S.2.1 dX5_leaf_99 (lv_at hl 9 rfl) ?_
                      refine lv_aload_n S.1 S.2.1 dX5_leaf_101 rfl (lv_at hl 0 rfl) ?_
                      refine mx_gI S hK hm hW 3 iX5 rfl (by decide) (by decide +kernel) dX5_leaf_102 (v := nI nl) hnl ?_
                      refine lv_icmp_ge (tgt := 153) S.1 S.2.1 dX5_leaf_105 (by decide) (fun c22 => ?_) (fun c22 => ?_)
                      · skip
                        exact absurd c22 (nI_ge (a := n) (b := nl) (by omega) (by omega))
                      · skip
                        refine lv_iload S.1 S.2.1 dX5_leaf_108 (lv_at hl 7 rfl) ?_
                        refine lv_aload_n S.1 S.2.1 dX5_leaf_110 rfl (lv_at hl 0 rfl) ?_
                        refine mx_gA S hK hm hW 15 iX5 rfl (by decide) (by decide) (by decide +kernel) dX5_leaf_111 ?_
                        refine lv_iload S.1 S.2.1 dX5_leaf_114 (lv_at hl 9 rfl) ?_
                        refine mx_ild S hK hm hW 15 (by decide) (k := n) (kw_ixof (k := n) (n := 8) rfl (by omega) (by decide)) dX5_leaf_116 (v := tA t 15 n) rfl ?_
                        refine lv_iadd S.1 S.2.1 dX5_leaf_117 ?_
                        refine lv_istore (lv' := [(7, .int ((m_all t gu n) + (tA t 15 n))), (0, .ref mo), (1, .int (nI g)), (2, .int (w)), (3, .int (gu)), (4, .int (ce)), (5, .int (b)), (6, .int (ll)), (8, .int (m_its t g gu n)), (9, .int (nI n))]) S.1 S.2.1 dX5_leaf_118 hl (by decide) rfl (fun ls hl => ?_)
                        refine lv_iload S.1 S.2.1 dX5_leaf_120 (lv_at hl 8 rfl) ?_
                        refine lv_aload_n S.1 S.2.1 dX5_leaf_122 rfl (lv_at hl 1 rfl) ?_
                        refine mx_gA S hK hm hW 13 iX5 rfl (by decide) (by decide) (by decide +kernel) dX5_leaf_123 ?_
                        refine lv_iload S.1 S.2.1 dX5_leaf_126 (lv_at hl 9 rfl) ?_
                        refine mx_ild S hK hm hW 13 (by decide) (k := n) (kw_ixof (k := n) (n := 8) rfl (by omega) (by decide)) dX5_leaf_128 (v := tA t 13 n) rfl ?_
                        refine lv_iload_n S.1 S.2.1 dX5_leaf_129 rfl (lv_at hl 2 rfl) ?_
                        refine lv_icmp_ne (tgt := 143) S.1 S.2.1 dX5_leaf_130 (by decide) (fun c23 => ?_) (fun c23 => ?_)
                        · skip
                          refine lv_iconst (v := 0) S.1 S.2.1 dX5_leaf_143 (by decide) ?_
                          refine lv_iadd S.1 S.2.1 dX5_leaf_144 ?_
                          refine lv_istore (lv' := [(8, .int ((m_its t g gu n) + (0))), (7, .int ((m_all t gu n) + (tA t 15 n))), (0, .ref mo), (1, .int (nI g)), (2, .int (w)), (3, .int (gu)), (4, .int (ce)), (5, .int (b)), (6, .int (ll)), (9, .int (nI n))]) S.1 S.2.1 dX5_leaf_145 hl (by decide) rfl (fun ls hl => ?_)
                          refine lv_iinc (v := nI (n + 1)) (lv' := [(9, .int (nI (n + 1))), (8, .int ((m_its t g gu n) + (0))), (7, .int ((m_all t gu n) + (tA t 15 n))), (0, .ref mo), (1, .int (nI g)), (2, .int (w)), (3, .int (gu)), (4, .int (ce)), (5, .int (b)), (6, .int (ll))]) S.1 S.2.1 dX5_leaf_147 hl (k := 9) rfl (nI_1 _) (by decide) rfl (fun ls hl => ?_)
                          refine lv_goto (tgt := 99) S.1 S.2.1 dX5_leaf_150 (by decide) ?_
                          exact ihloop (n + 1)  (by omega)  x _ _ ls (hm.to rfl) hW hS (lv_conv (lv_sub hl [3, 4, 5, 6, 7, 8, 9, 2, 1, 0] rfl) (congr (congrArg List.cons rfl) (congr (congrArg List.cons rfl) (congr (congrArg List.cons rfl) (congr (congrArg List.cons rfl) (congr (congrArg List.cons rfl) (congr (congrArg List.cons rfl) (congr (congrArg List.cons rfl) (congr (congrArg List.cons (congrArg (fun z9 => ((7 : Nat), Value.int z9)) (show ((m_all t gu n) + (tA t 15 n) : Int32) = m_all t gu (n + 1) from by first | rfl | (simp [m_all, m_its, c1, hn8e, c2, hgl, c3, c4, c14, c15, c16, c17, c22, c23])))) (congr (congrArg List.cons (congrArg (fun z9 => ((8 : Nat), Value.int z9)) (show ((m_its t g gu n) + (0) : Int32) = m_its t g gu (n + 1) from by first | rfl | (simp [m_all, m_its, c1, hn8e, c2, hgl, c3, c4, c14, c15, c16, c17, c22, c23])))) (congr (congrArg List.cons rfl) rfl)))))))))))
                        · skip
                          refine lv_aload_n S.1 S.2.1 dX5_leaf_133 rfl (lv_at hl 1 rfl) ?_
                          refine mx_gA S hK hm hW 15 iX5 rfl (by decide) (by decide) (by decide +kernel) dX5_leaf_134 ?_
                          refine lv_iload S.1 S.2.1 dX5_leaf_137 (lv_at hl 9 rfl) ?_
                          refine mx_ild S hK hm hW 15 (by decide) (k := n) (kw_ixof (k := n) (n := 8) rfl (by omega) (by decide)) dX5_leaf_139 (v := tA t 15 n) rfl ?_
                          refine lv_goto (tgt := 144) S.1 S.2.1 dX5_leaf_140 (by decide) ?_
                          refine lv_iadd S.1 S.2.1 dX5_leaf_144 ?_
                          refine lv_istore (lv' := [(8, .int ((m_its t g gu n) + (tA t 15 n))), (7, .int ((m_all t gu n) + (tA t 15 n))), (0, .ref mo), (1, .int (nI g)), (2, .int (w)), (3, .int (gu)), (4, .int (ce)), (5, .int (b)), (6, .int (ll)), (9, .int (nI n))]) S.1 S.2.1 dX5_leaf_145 hl (by decide) rfl (fun ls hl => ?_)
                          refine lv_iinc (v := nI (n + 1)) (lv' := [(9, .int (nI (n + 1))), (8, .int ((m_its t g gu n) + (tA t 15 n))), (7, .int ((m_all t gu n) + (tA t 15 n))), (0, .ref mo), (1, .int (nI g)), (2, .int (w)), (3, .int (gu)), (4, .int (ce)), (5, .int (b)), (6, .int (ll))]) S.1 S.2.1 dX5_leaf_147 hl (k := 9) rfl (nI_1 _) (by decide) rfl (fun ls hl => ?_)
                          refine lv_goto (tgt := 99) S.1 S.2.1 dX5_leaf_150 (by decide) ?_
                          exact ihloop (n + 1)  (by omega)  x _ _ ls (hm.to rfl) hW hS (lv_conv (lv_sub hl [3, 4, 5, 6, 7, 8, 9, 2, 1, 0] rfl) (congr (congrArg List.cons rfl) (congr (congrArg List.cons rfl) (congr (congrArg List.cons rfl) (congr (congrArg List.cons rfl) (congr (congrArg List.cons rfl) (congr (congrArg List.cons rfl) (congr (congrArg List.cons rfl) (congr (congrArg List.cons (congrArg (fun z9 => ((7 : Nat), Value.int z9)) (show ((m_all t gu n) + (tA t 15 n) : Int32) = m_all t gu (n + 1) from by first | rfl | (simp [m_all, m_its, c1, hn8e, c2, hgl, c3, c4, c14, c15, c16, c17, c22, eq_true c23])))) (congr (congrArg List.cons (congrArg (fun z9 => ((8 : Nat), Value.int z9)) (show ((m_its t g gu n) + (tA t 15 n) : Int32) = m_its t g gu (n + 1) from by first | rfl | (simp [m_all, m_its, c1, hn8e, c2, hgl, c3, c4, c14, c15, c16, c17, c22, eq_true c23])))) (congr (congrArg List.cons rfl) rfl)))))))))))
                  exact loop (nl - 0) 0  (by omega)  x _ _ ls (hm.to rfl) hW hS (lv_conv (lv_sub hl [3, 4, 5, 6, 7, 8, 9, 2, 1, 0] rfl) (congr (congrArg List.cons rfl) (congr (congrArg List.cons rfl) (congr (congrArg List.cons rfl) (congr (congrArg List.cons rfl) (congr (congrArg List.cons rfl) (congr (congrArg List.cons rfl) (congr (congrArg List.cons rfl) (congr (congrArg List.cons (congrArg (fun z9 => ((7 : Nat), Value.int z9)) (show (gu : Int32) = m_all t gu 0 from by first | rfl | (simp [m_all, m_its, c1, hn8e, c2, hgl, c3, c4, c14, c15, c16, c17])))) (congr (congrArg List.cons (congrArg (fun z9 => ((8 : Nat), Value.int z9)) (show (gu : Int32) = m_its t g gu 0 from by first | rfl | (simp [m_all, m_its, c1, hn8e, c2, hgl, c3, c4, c14, c15, c16, c17])))) (congr (congrArg List.cons (congrArg (fun z9 => ((9 : Nat), Value.int z9)) (show (0 : Int32) = nI 0 from by first | rfl | (simp [m_all, m_its, c1, hn8e, c2, hgl, c3, c4, c14, c15, c16, c17])))) rfl)))))))))))
                · skip
                  refine lv_iconst (v := (-1)) S.1 S.2.1 dX5_leaf_88 (by decide) ?_
                  rw [hQQ]
                  refine kw_iret S hr hlk hW hS (by decide) (by decide) dX5_leaf_89 ?_
                  refine ⟨?_, rfl, hm.to ?_⟩ <;> first | rfl | (simp [m_lfok, m_leaf, c1, hn8e, c2, hgl, c3, c4, c14, c15, c16, c17, kw_b]; done) | (simp [m_lfok, m_leaf, c1, hn8e, c2, hgl, c3, c4, c14, c15, c16, c17, kw_b, tF_uF, tF_uL, tF_uA, tF_uB, tL_uF, tL_uL, tL_uA, tL_uB, tA_uF, tA_uL, tA_uA, tA_uB, tB_uF, tB_uL, tB_uA, tB_uB, m_fill_F]; done) | contradiction
set_option maxHeartbeats 1000000 in
set_option maxRecDepth 100000 in
/-- leaf, of no group -/
theorem c_X5_leaf_o (l : Launch) (G : kw_G) (nu : Nat → Option Nat) (x z : kw_St) (mo : Nat) (ma : Nat → Nat) (t : mo_T) (ki : Int32) (w : Int32) (gu : Int32) (ce : Int32) (b : Int32) (ll : Int32) (ng : Nat) (nl : Nat) (hm : mw nu z mo ma t x) (hki : ∀ k, k < 1000 → ki ≠ nI k) (hng : tF t 2 = nI ng) (hg4 : ng ≤ 4) (hnl : tF t 3 = nI nl) (hn8 : nl ≤ 8) : kw_M l G yX5_leaf wsX5_leaf { frames := 1, cells := 0, slots := 0, locals := 23 } 0 0 [.ref mo, .int (ki), .int (w), .int (gu), .int (ce), .int (b), .int (ll)] nu x (fun v nu' y => v = some (.int (-1)) ∧ nu' = nu ∧ mw nu z mo ma (t) y) := by
  refine kw_M.ofW (cc := cX5_leaf) (maxL := 10) (ret := (some .int)) (by decide) rfl (Nat.le_of_ble_eq_true rfl) ?_
  intro p e s m args below meth c A ls S hr hlk hnm hK hZ hA hW hS hl
  have hl : lv_has ls 10 [(0, .ref mo), (1, .int (ki)), (2, .int (w)), (3, .int (gu)), (4, .int (ce)), (5, .int (b)), (6, .int (ll))] := hl
  have iX5 : ∀ w ∈ wsX50, w ∈ wsX5_leaf := by decide +kernel
  refine lv_aload_n S.1 S.2.1 dX5_leaf_0 rfl (lv_at hl 0 rfl) ?_
  refine mx_gI S hK hm hW 3 iX5 rfl (by decide) (by decide +kernel) dX5_leaf_1 (v := nI nl) hnl ?_
  refine lv_bipush (v := 8) S.1 S.2.1 dX5_leaf_4 (by decide) ?_
  refine lv_icmp_eq (tgt := 88) S.1 S.2.1 dX5_leaf_6 (by decide) (fun c1 => ?_) (fun c1 => ?_)
  · skip
    refine lv_iconst (v := (-1)) S.1 S.2.1 dX5_leaf_88 (by decide) ?_
    refine kw_iret S hr hlk hW hS (by decide) (by decide) dX5_leaf_89 ?_
    refine ⟨?_, rfl, hm.to ?_⟩ <;> first | rfl | (simp [eq_true c1, kw_b]; done) | (simp [eq_true c1, kw_b, tF_uF, tF_uL, tF_uA, tF_uB, tL_uF, tL_uL, tL_uA, tL_uB, tA_uF, tA_uL, tA_uA, tA_uB, tB_uF, tB_uL, tB_uA, tB_uB]; done) | contradiction
  · skip
    refine lv_iload_n S.1 S.2.1 dX5_leaf_9 rfl (lv_at hl 1 rfl) ?_
    refine lv_iconst (v := 0) S.1 S.2.1 dX5_leaf_10 (by decide) ?_
    refine lv_aload_n S.1 S.2.1 dX5_leaf_11 rfl (lv_at hl 0 rfl) ?_
    refine mx_gI S hK hm hW 2 iX5 rfl (by decide) (by decide +kernel) dX5_leaf_12 (v := nI ng) hng ?_
    refine lv_iconst (v := 1) S.1 S.2.1 dX5_leaf_15 (by decide) ?_
    refine lv_isub S.1 S.2.1 dX5_leaf_16 ?_
    refine kx_cS (As := [.int (ki), .int (0), .int ((nI ng) - (1))]) (rest := []) (st1 := [.int (kw_b (kw_wi ki 0 ((nI ng) - (1)) = true))]) S hK hZ hA hW hS (c_X5_in l G nu x ki 0 ((nI ng) - (1)) ) (va_cwS 3 S.2.2.2.2 gX5_leaf_X5_in rfl rfl rfl (by decide +kernel) ⟨Nat.le_of_ble_eq_true rfl, Nat.le_of_ble_eq_true rfl⟩) rfl hl.1 rfl (Nat.le_of_ble_eq_true rfl) dX5_leaf_17 ⟨Nat.le_of_ble_eq_true rfl, Nat.le_of_ble_eq_true rfl⟩ rfl (fun H locs hW hS => ?_)
    refine kx_ifz_eq (tgt := 88) S dX5_leaf_20 (by decide) (fun c2 => ?_) (fun c2 => ?_)
    · skip
      refine lv_iconst (v := (-1)) S.1 S.2.1 dX5_leaf_88 (by decide) ?_
      refine kw_iret S hr hlk hW hS (by decide) (by decide) dX5_leaf_89 ?_
      refine ⟨?_, rfl, hm.to ?_⟩ <;> first | rfl | (simp [c1, c2, kw_b]; done) | (simp [c1, c2, kw_b, tF_uF, tF_uL, tF_uA, tF_uB, tL_uF, tL_uL, tL_uA, tL_uB, tA_uF, tA_uL, tA_uA, tA_uB, tB_uF, tB_uL, tB_uA, tB_uB]; done) | contradiction
    · skip
      exact absurd c2 (by rw [kw_wi_out hki (by omega)]; decide)
/-- the first of the least, among those that are asked for -/
def m_am (f : Nat → Bool) (lt : Nat → Nat → Bool) : Nat → Option Nat
  | 0 => none
  | n + 1 => match m_am f lt n with
    | none => if f n then some n else none
    | some b => if f n && lt n b then some n else some b
def m_ob (o : Option Nat) : Int32 := match o with
  | none => -1
  | some b => nI b
theorem m_am_some {f : Nat → Bool} {lt : Nat → Nat → Bool} : ∀ {n b : Nat}, m_am f lt n = some b → b < n ∧ f b = true
  | 0, b, h => by simp [m_am] at h
  | n + 1, b, h => by
    have ih := @m_am_some f lt n
    simp only [m_am] at h
    split at h
    · split at h
      · rename_i h1; cases h; exact ⟨by omega, h1⟩
      · cases h
    · rename_i b2 h1
      split at h
      · rename_i h2; cases h; exact ⟨by omega, by simp at h2; exact h2.1⟩
      · cases h; exact ⟨by have := (ih h1).1; omega, (ih h1).2⟩
theorem nI_nm1 {b : Nat} (h : b < 2 ^ 31) : ¬ nI b = -1 := by
  intro e
  have h1 := nI_toInt h
  rw [e] at h1
  have h2 : (-1 : Int32).toInt = -1 := by decide
  omega
def m_tg (t : mo_T) (fp : Nat → Nat) (k : Nat) : Int64 := tB t 27 k + 27720 / (tA t 14 k).toInt64 * (tA t 34 (fp k)).toInt64
def m_gtg (t : mo_T) (fp gr : Nat → Nat) (k : Nat) : Int64 := tB t 10 (gr k) + 27720 / (tA t 9 (gr k)).toInt64 * (tA t 34 (fp k)).toInt64
/-- class k of group g waits; its first packet has the tokens -/
def m_wt (t : mo_T) (g k : Nat) : Bool := decide (tA t 13 k = nI g) && decide (¬ tA t 19 k = 0)
def m_rd (t : mo_T) (fp : Nat → Nat) (g k : Nat) : Bool := decide (¬ tB t 32 k < 1000 * (tA t 34 (fp k)).toInt64) && decide (1000 * (tA t 34 (fp k)).toInt64 ≤ tB t 32 (8 + g))
def m_exf (t : mo_T) (fp : Nat → Nat) (g k : Nat) : Bool := m_wt t g k && m_rd t fp g k
def m_exl (t : mo_T) (fp : Nat → Nat) (a b : Nat) : Bool := decide (¬ m_tg t fp b ≤ m_tg t fp a)
def m_inT (t : mo_T) (fp : Nat → Nat) (g : Nat) (t0 : mo_T) : Nat → mo_T
  | 0 => t0
  | n + 1 => if m_wt t g n && !(m_rd t fp g n) then uA (m_inT t fp g t0 n) 26 n (tA (m_inT t fp g t0 n) 26 n + 1) else m_inT t fp g t0 n
def m_outT (t : mo_T) (fp : Nat → Nat) (nl : Nat) : Nat → mo_T
  | 0 => t
  | g + 1 => m_inT t fp g (m_outT t fp nl g) nl
def m_its1 (t : mo_T) (fp : Nat → Nat) (nl g : Nat) : Option Nat := m_am (m_exf t fp g) (m_exl t fp) nl
def m_best (t : mo_T) (fp gr : Nat → Nat) (nl : Nat) : Nat → Option Nat
  | 0 => none
  | g + 1 => match m_its1 t fp nl g with
    | none => m_best t fp gr nl g
    | some a => match m_best t fp gr nl g with
      | none => some a
      | some b => if m_gtg t fp gr b ≤ m_gtg t fp gr a then some b else some a
theorem m_inT_F (t : mo_T) (fp : Nat → Nat) (g : Nat) (t0 : mo_T) : ∀ (n j : Nat), tF (m_inT t fp g t0 n) j = tF t0 j
  | 0, _ => rfl
  | n + 1, j => by simp only [m_inT]; split <;> simp [tF_uA, m_inT_F t fp g t0 n j]
theorem m_inT_L (t : mo_T) (fp : Nat → Nat) (g : Nat) (t0 : mo_T) : ∀ (n : Nat), tL (m_inT t fp g t0 n) = tL t0
  | 0 => rfl
  | n + 1 => by simp only [m_inT]; split <;> simp [tL_uA, m_inT_L t fp g t0 n]
theorem m_inT_A (t : mo_T) (fp : Nat → Nat) (g : Nat) (t0 : mo_T) : ∀ (n : Nat) {j : Nat} (_ : j ≠ 26) (k : Nat), tA (m_inT t fp g t0 n) j k = tA t0 j k
  | 0, _, _, _ => rfl
  | n + 1, j, h, k => by simp only [m_inT]; split <;> simp [tA_uA, h, m_inT_A t fp g t0 n h k]
theorem m_inT_B (t : mo_T) (fp : Nat → Nat) (g : Nat) (t0 : mo_T) : ∀ (n j k : Nat), tB (m_inT t fp g t0 n) j k = tB t0 j k
  | 0, _, _ => rfl
  | n + 1, j, k => by simp only [m_inT]; split <;> simp [tB_uA, m_inT_B t fp g t0 n j k]
theorem m_outT_F (t : mo_T) (fp : Nat → Nat) (nl : Nat) : ∀ (n j : Nat), tF (m_outT t fp nl n) j = tF t j
  | 0, _ => rfl
  | n + 1, j => by simp only [m_outT]; rw [m_inT_F]; exact m_outT_F t fp nl n j
theorem m_outT_L (t : mo_T) (fp : Nat → Nat) (nl : Nat) : ∀ (n : Nat), tL (m_outT t fp nl n) = tL t
  | 0 => rfl
  | n + 1 => by simp only [m_outT]; rw [m_inT_L]; exact m_outT_L t fp nl n
theorem m_outT_A (t : mo_T) (fp : Nat → Nat) (nl : Nat) : ∀ (n : Nat) {j : Nat} (_ : j ≠ 26) (k : Nat), tA (m_outT t fp nl n) j k = tA t j k
  | 0, _, _, _ => rfl
  | n + 1, j, h, k => by simp only [m_outT]; rw [m_inT_A _ _ _ _ _ h]; exact m_outT_A t fp nl n h k
theorem m_outT_B (t : mo_T) (fp : Nat → Nat) (nl : Nat) : ∀ (n j k : Nat), tB (m_outT t fp nl n) j k = tB t j k
  | 0, _, _ => rfl
  | n + 1, j, k => by simp only [m_outT]; rw [m_inT_B]; exact m_outT_B t fp nl n j k
theorem m_best_some {t : mo_T} {fp gr : Nat → Nat} {nl : Nat} : ∀ {n b : Nat}, m_best t fp gr nl n = some b → b < nl ∧ ∃ g, g < n ∧ m_exf t fp g b = true
  | 0, b, h => by simp [m_best] at h
  | n + 1, b, h => by
    have ih := @m_best_some t fp gr nl n
    simp only [m_best] at h
    split at h
    · obtain ⟨h1, g, h2, h3⟩ := ih h
      exact ⟨h1, g, by omega, h3⟩
    · rename_i a ha
      have h4 := m_am_some (f := m_exf t fp n) ha
      split at h
      · cases h; exact ⟨h4.1, n, by omega, h4.2⟩
      · rename_i b2 hb2
        split at h
        · cases h
          obtain ⟨h1, g, h2, h3⟩ := ih hb2
          exact ⟨h1, g, by omega, h3⟩
        · cases h; exact ⟨h4.1, n, by omega, h4.2⟩
