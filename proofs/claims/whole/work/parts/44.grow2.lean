/-! group and leaf: the relation behind them -/
theorem zc_le (c n : Nat) : zc c n ≤ 1 := by unfold zc; split <;> omega
theorem zs_le {c n : Nat} (h : n < 512) : zs c n ≤ 768 := by unfold zs kw_nc; split <;> (try split) <;> omega
theorem bd.lo {v : Int32} {a b : Nat} (h : bd v a b) : bd v 0 b := by
  obtain ⟨n, h1, h2, h3⟩ := h
  exact ⟨n, Nat.zero_le _, h2, h3⟩
section ZM
variable {G : kw_G} {nu nu2 nu3 : Nat → Option Nat} {z x x2 x3 y y2 : kw_St} {o : Nat} {e e' : kE} {t t' : mo_T} {i k d d2 g el D1 : Nat}
/-- behind an addition to the i-th list, and stores that agree with those of x3 -/
theorem zw_made (hz : zw G nu z o e t x) (hi : i < 4) (hX : nuX nu nu2) (hx : ∀ c q, nu c = some q → q = 0 ∨ q = 5 ∨ q = 10 ∨ q = 11 → kw_ag c x x2) (hfr : ∀ c q, nu2 c = some q → 6 ≤ q → q ≤ 9 → nu c = some q ∧ kw_ag c x x3) (hadd : zAdd nu2 x2 (eA e 4 i) (eA e 5 i) (eA e 6 i) el nu3 y D1) (h4 : ∀ j, eA e' 4 j = eA e 4 j) (h5 : ∀ j, eA e' 5 j = if j = i then D1 else eA e 5 j) (h6 : ∀ j, j < 4 → eA e' 6 j = if j = i then eA e 6 i + 1 else eA e 6 j) (h10 : ∀ j, j < 4 → eA e' 10 j = if j = i then zcap (eA e 10 i) (eA e 6 i) else eA e 10 j) (hE : ∀ c, c < 3 → ∀ k, k < eA e' 6 c → eA e' c k = if c = i ∧ k = eA e 6 i then el else eA e c k) (hE3 : ∀ k, k < eA e' 6 3 → eA e' 2 (eA e' 7 k) = if 3 = i ∧ k = eA e 6 3 then el else eA e 2 (eA e 7 k)) (hI : tI e' t') (hK : zK G nu2 o e' t') (hC : zC o e' t' x3) (hpost : ∀ c, kw_ag c x2 y → kw_ag c x3 y2) (hLpost : zLs G nu3 o e' y → zLs G nu3 o e' y2) : zw G nu3 z o e' t' y2 := by
  have hK2 : zK G nu2 o e t := zK_nu hX hz.2.1
  have hLs2 : zLs G nu2 o e x2 := zLs_nu hX hz.2.1 (zLs_ag hz.2.1 hx hz.2.2.1.1)
  have hL := hK2.2.1 i hi
  refine ⟨hI, zK_nu hadd.nu hK, ⟨hLpost (zLs_add hi hK2 hLs2 hadd h4 h5 h6 h10 hE hE3), ?_⟩, fun c q hc h1 h2 => ?_⟩
  · exact zC_ag hK (fun k hk p hp => ((hI.2.2.1 k hk).2.2.2.1 p hp).1) (fun c r hc h1 h2 => hpost c (zAdd_ag hadd hL hc (by omega) (by omega))) hC
  · have hc2 : nu2 c = some q := by
      rcases hadd.2.1 with ⟨e1, -⟩ | ⟨e0, e1⟩
      · rw [← e1]; exact hc
      · by_cases h9 : c = D1
        · rw [h9, hadd.2.2.1] at hc; cases hc; omega
        · rw [e1, va_up_ne _ _ h9] at hc; exact hc
    obtain ⟨g1, g2⟩ := hfr c q hc2 h1 h2
    exact ((hz.2.2.2 c q g1 h1 h2).tr g2).tr (hpost c (zAdd_ag hadd hL hc2 (by omega) (by omega)))
/-- the names behind group -/
def z_eg (e : kE) (d d2 D1 : Nat) : kE := fA (fA (fA (fA (fA e 0 (eA e 6 0) d) 3 (8 + eA e 6 0) d2) 6 0 (eA e 6 0 + 1)) 5 0 D1) 10 0 (zcap (eA e 10 0) (eA e 6 0))
theorem eg_0 (e : kE) (d d2 D1 r : Nat) : eA (z_eg e d d2 D1) 0 r = if r = eA e 6 0 then d else eA e 0 r := by simp [z_eg, eA_fA]
theorem eg_3 (e : kE) (d d2 D1 r : Nat) : eA (z_eg e d d2 D1) 3 r = if r = 8 + eA e 6 0 then d2 else eA e 3 r := by simp [z_eg, eA_fA]
theorem eg_o (e : kE) (d d2 D1 c r : Nat) (h : c ≠ 0 ∧ c ≠ 3 ∧ c ≠ 6 ∧ c ≠ 5 ∧ c ≠ 10) : eA (z_eg e d d2 D1) c r = eA e c r := by simp [z_eg, eA_fA, h]
theorem eg_6 (e : kE) (d d2 D1 r : Nat) : eA (z_eg e d d2 D1) 6 r = if r = 0 then eA e 6 0 + 1 else eA e 6 r := by simp [z_eg, eA_fA]
theorem tI_grp (hI : tI e t) (hg : eA e 6 0 < 4) {w ce b : Int32} (hw : bd w 1 12) (hc : bd ce 0 1000) (hb : bd b 0 20000) : tI (z_eg e d d2 D1) (uF (m_fill (uA t 9 (eA e 6 0) w) (8 + eA e 6 0) ce b) 2 (nI (eA e 6 0 + 1))) := by
  have htf := tok_full hb
  refine ⟨⟨⟨rfl, by show eA e 6 0 + 1 ≤ 4; omega⟩, hI.1.2.1, hI.1.2.2.1, hI.1.2.2.2.1, hI.1.2.2.2.2.1, hI.1.2.2.2.2.2.1, hI.1.2.2.2.2.2.2.1, hI.1.2.2.2.2.2.2.2⟩, fun k hk => ?_, fun j hj => tQ_to (hI.2.2.1 j hj) rfl rfl rfl rfl rfl (fun _ _ => rfl) (fun _ _ => rfl), fun r hr => ?_, hI.2.2.2.2.1, hI.2.2.2.2.2.1, fun c hc2 => ?_, ⟨fun k h1 h2 => ⟨fun j j1 j2 => ?_, (hI.2.2.2.2.2.2.2.1.1 k h1 h2).2⟩, fun r h1 h2 => ?_, fun j hj h0 => ?_⟩, hI.2.2.2.2.2.2.2.2⟩
  · obtain ⟨a1, a2⟩ := hI.2.1 k hk
    exact ⟨⟨a1.1, by show eA e 8 k < eA e 6 0 + 1; have := a1.2; omega⟩, a2⟩
  · have hr2 : r < eA e 6 0 + 1 := hr
    have f9 : tA (uF (m_fill (uA t 9 (eA e 6 0) w) (8 + eA e 6 0) ce b) 2 (nI (eA e 6 0 + 1))) 9 r = if r = eA e 6 0 then w else tA t 9 r := by simp [m_fill, tA_uB, tA_uF, tA_u]
    rw [f9]
    split
    · exact hw
    · exact hI.2.2.2.1 r (by omega)
  · obtain ⟨a1, a2, a3, a4⟩ := hI.2.2.2.2.2.2.1 c hc2
    have f30 : tA (uF (m_fill (uA t 9 (eA e 6 0) w) (8 + eA e 6 0) ce b) 2 (nI (eA e 6 0 + 1))) 30 c = if c = 8 + eA e 6 0 then ce else tA t 30 c := by simp [m_fill, tA_uB, tA_uF, tA_u]
    have f31 : tA (uF (m_fill (uA t 9 (eA e 6 0) w) (8 + eA e 6 0) ce b) 2 (nI (eA e 6 0 + 1))) 31 c = if c = 8 + eA e 6 0 then b else tA t 31 c := by simp [m_fill, tA_uB, tA_uF, tA_u]
    have f32 : tB (uF (m_fill (uA t 9 (eA e 6 0) w) (8 + eA e 6 0) ce b) 2 (nI (eA e 6 0 + 1))) 32 c = if c = 8 + eA e 6 0 then 1000 * b.toInt64 else tB t 32 c := by simp [m_fill, tB_uF, tB_u, tB_uA]
    unfold tK
    rw [f30, f31, f32]
    show _ ∧ _ ∧ -(1500000 * (eA e 6 3 : Int)) ≤ _ ∧ _
    by_cases e1 : c = 8 + eA e 6 0
    · rw [if_pos e1, if_pos e1, if_pos e1]
      exact ⟨hc, hb, by omega, by omega⟩
    · rw [if_neg e1, if_neg e1, if_neg e1]
      exact ⟨a1, a2, a3, a4⟩
  · have h9 := (hI.2.2.2.2.2.2.2.1.1 k h1 h2).1 j j1 j2
    have e2 : ¬ j = 30 := by omega
    have e3 : ¬ j = 31 := by omega
    have e4 : ¬ j = 9 := by omega
    simp [m_fill, tA_uB, tA_uF, tA_u, e2, e3, e4, h9]
  · have h1' : eA e 6 0 + 1 ≤ r := h1
    exact hI.2.2.2.2.2.2.2.1.2.1 r (by omega) h2
  · have h0' : tA t 28 j = 0 := h0
    have h9 := hI.2.2.2.2.2.2.2.1.2.2 j hj h0'
    have e1 : ¬ 12 + j = 8 + eA e 6 0 := by omega
    simp [m_fill, tA_uB, tA_uF, tA_u, tB_uF, tB_u, tB_uA, e1, h9]
theorem zw_grp (hz : zw G nu z o e t x) (hg : eA e 6 0 < 4) {w ce b : Int32} (hw : bd w 1 12) (hc : bd ce 0 1000) (hb : bd b 0 20000) (hd : nu d = none) (hd2 : va_up nu d (some 2) d2 = none) (hadd : zAdd (va_up (va_up nu d (some 2)) d2 (some 1)) (sR (sI (sJ (sJ (sI (sNew (sNew x d 0) d2 0) 50 d2 ce) 51 d2 (1000 * b.toInt64)) 52 d2 (1000 * b.toInt64)) 100 d w) 101 d (some d2)) (eA e 4 0) (eA e 5 0) (eA e 6 0) d nu3 y D1) : zw G nu3 z o (z_eg e d d2 D1) (uF (m_fill (uA t 9 (eA e 6 0) w) (8 + eA e 6 0) ce b) 2 (nI (eA e 6 0 + 1))) y := by
  have hnl := zd_nl hz
  have hX1 : nuX nu (va_up nu d (some 2)) := nuX.up hd
  have hX : nuX nu (va_up (va_up nu d (some 2)) d2 (some 1)) := hX1.tr (nuX.up hd2)
  have hdd : d ≠ d2 := kw_nb hd2 (va_up_self _ _ _)
  have hnd : va_up (va_up nu d (some 2)) d2 (some 1) d = some 2 := kw_old hd2 (va_up_self _ _ _)
  have hnd2 : va_up (va_up nu d (some 2)) d2 (some 1) d2 = some 1 := va_up_self _ _ _
  generalize hY : sR (sI (sJ (sJ (sI (sNew (sNew x d 0) d2 0) 50 d2 ce) 51 d2 (1000 * b.toInt64)) 52 d2 (1000 * b.toInt64)) 100 d w) 101 d (some d2) = Y at hadd
  generalize hN : va_up (va_up nu d (some 2)) d2 (some 1) = nu2 at *
  have hold : ∀ c q, nu c = some q → c ≠ d ∧ c ≠ d2 := fun c q h => ⟨kw_nb hd h, kw_nb hd2 (hX1 _ _ h)⟩
  have hx : ∀ c q, nu c = some q → kw_ag c x Y := by
    intro c q h
    obtain ⟨h1, h2⟩ := hold c q h
    rw [← hY]
    exact ag_sR (ag_sI (ag_sJ (ag_sJ (ag_sI (ag_sNew (ag_sNew kw_ag.rf h1) h2) h2) h2) h2) h1) h1
  have t28 : ∀ j, tA (uF (m_fill (uA t 9 (eA e 6 0) w) (8 + eA e 6 0) ce b) 2 (nI (eA e 6 0 + 1))) 28 j = tA t 28 j := fun j => rfl
  have hB : ∀ c, zB (z_eg e d d2 D1) (uF (m_fill (uA t 9 (eA e 6 0) w) (8 + eA e 6 0) ce b) 2 (nI (eA e 6 0 + 1))) c → c = 8 + eA e 6 0 ∨ (c ≠ 8 + eA e 6 0 ∧ zB e t c) := by
    intro c hc
    by_cases e1 : c = 8 + eA e 6 0
    · exact Or.inl e1
    · refine Or.inr ⟨e1, ?_⟩
      rcases hc with h | ⟨h5, h6⟩ | h
      · exact Or.inl h
      · have h7 : c < 8 + (eA e 6 0 + 1) := h6
        exact Or.inr (Or.inl ⟨h5, by omega⟩)
      · exact Or.inr (Or.inr h)
  have hK : zK G nu2 o (z_eg e d d2 D1) (uF (m_fill (uA t 9 (eA e 6 0) w) (8 + eA e 6 0) ce b) 2 (nI (eA e 6 0 + 1))) := by
    refine ⟨hX _ _ hz.2.1.1, fun i hi => hX _ _ (hz.2.1.2.1 i hi), fun r hr => ?_, fun i hi => hX _ _ (hz.2.1.2.2.2.1 i hi), fun i hi => hX _ _ (hz.2.1.2.2.2.2.1 i hi), fun c hc => ?_, hX _ _ hz.2.1.2.2.2.2.2.2.1, hz.2.1.2.2.2.2.2.2.2.1, fun i hi j hj heq => ?_, hz.2.1.2.2.2.2.2.2.2.2.2.1, hz.2.1.2.2.2.2.2.2.2.2.2.2.1, fun i hi j hj heq => ?_⟩
    · have hr2 : r < eA e 6 0 + 1 := hr
      rw [eg_0]
      split
      · exact hnd
      · exact hX _ _ (zk_g hz (by omega))
    · rw [eg_3]
      rcases hB c hc with e1 | ⟨e1, e2⟩
      · rw [if_pos e1]; exact hnd2
      · rw [if_neg e1]; exact hX _ _ (zk_b hz e2)
    · have hi2 : i < eA e 6 0 + 1 := hi
      have hj2 : j < eA e 6 0 + 1 := hj
      rw [eg_0, eg_0] at heq
      by_cases e1 : i = eA e 6 0
      · by_cases e2 : j = eA e 6 0
        · omega
        · rw [if_pos e1, if_neg e2] at heq
          exact absurd heq.symm (hold _ _ (zk_g hz (g := j) (by omega))).1
      · by_cases e2 : j = eA e 6 0
        · rw [if_neg e1, if_pos e2] at heq
          exact absurd heq (hold _ _ (zk_g hz (g := i) (by omega))).1
        · rw [if_neg e1, if_neg e2] at heq
          exact (zi_g hz (by omega) (by omega)).mp heq
    · rw [eg_3, eg_3] at heq
      rcases hB i hi with e1 | ⟨e1, e2⟩
      · rcases hB j hj with e3 | ⟨e3, e4⟩
        · omega
        · rw [if_pos e1, if_neg e3] at heq
          exact absurd heq.symm (hold _ _ (zk_b hz e4)).2
      · rcases hB j hj with e3 | ⟨e3, e4⟩
        · rw [if_neg e1, if_pos e3] at heq
          exact absurd heq (hold _ _ (zk_b hz e2)).2
        · rw [if_neg e1, if_neg e3] at heq
          exact (zi_b hz e2 e4).mp heq
  have hno : ∀ k, k < eA e 6 1 → eA e 8 k ≠ eA e 6 0 := fun k hk => by have := zd_gr hz hk; omega
  have hC : zC o (z_eg e d d2 D1) (uF (m_fill (uA t 9 (eA e 6 0) w) (8 + eA e 6 0) ce b) 2 (nI (eA e 6 0 + 1))) Y := by
    refine ⟨fun r hr => ?_, fun j hj => ?_, fun p hp => ?_, fun c hc => ?_, fun j hj => ?_, ?_⟩
    · have hr2 : r < eA e 6 0 + 1 := hr
      unfold zGr
      rw [eg_0, eg_3]
      by_cases e1 : r = eA e 6 0
      · subst e1
        have z0 := hz.1.2.2.2.2.2.2.2.1.2.1 _ (Nat.le_refl _) hg
        have e2 : zGg (z_eg e d d2 D1) (uF (m_fill (uA t 9 (eA e 6 0) w) (8 + eA e 6 0) ce b) 2 (nI (eA e 6 0 + 1))) (eA e 6 0) = 0 := zsum_0.mpr (fun k hk => if_neg (hno k hk))
        have e3 : zW (z_eg e d d2 D1) (eA e 6 0) = 0 := zsum_0.mpr (fun k hk => if_neg (hno k hk))
        rw [e2, e3, ← hY]
        have f10 : tB (uF (m_fill (uA t 9 (eA e 6 0) w) (8 + eA e 6 0) ce b) 2 (nI (eA e 6 0 + 1))) 10 (eA e 6 0) = 0 := z0.1
        have f11 : tB (uF (m_fill (uA t 9 (eA e 6 0) w) (8 + eA e 6 0) ce b) 2 (nI (eA e 6 0 + 1))) 11 (eA e 6 0) = 0 := z0.2
        rw [f10, f11]
        simp [kI_sI, kI_sR, kI_sJ, kI_sNew, kJ_sI, kJ_sR, kJ_sJ, kJ_sNew, kR_sI, kR_sR, kR_sJ, kR_sNew, hdd, m_fill, tA_uB, tA_uF, tA_u, nI_0]
      · rw [if_neg e1, if_neg (by omega)]
        have hr3 : r < eA e 6 0 := by omega
        obtain ⟨c1, c2, c3, c4, c5, c6⟩ := zg hz hr3
        have a := hx _ 2 (zk_g hz hr3)
        refine ⟨(a.1 _).trans (c1.trans ?_), (a.2.2.1 _).trans c2, (a.1 _).trans c3, (a.1 _).trans c4, (a.2.1 _).trans c5, (a.2.1 _).trans c6⟩
        simp [m_fill, tA_uB, tA_uF, tA_u, e1]
    · have hj2 : j < eA e 6 1 := hj
      have a := hx _ 3 (zk_l hz hj2)
      obtain ⟨a1, a2, a3, a4, a5, a6, a7, a8, a9, a10, a11, a12, a13, a14, a15, a16, a17, a18⟩ := zl hz hj2
      have h8 := zd_gr hz hj2
      refine ⟨?_, (a.1 _).trans a2, (a.1 _).trans a3, ?_, (a.1 _).trans a5, ?_, (a.1 _).trans a7, (a.2.2.1 _).trans a8, (a.2.2.1 _).trans a9, (a.1 _).trans a10, (a.1 _).trans a11, (a.1 _).trans a12, (a.1 _).trans a13, (a.1 _).trans a14, (a.1 _).trans a15, (a.1 _).trans a16, (a.1 _).trans a17, (a.2.1 _).trans a18⟩
      · show kR Y 150 (eA e 1 j) = some (eA (z_eg e d d2 D1) 0 (eA e 8 j))
        rw [eg_0, if_neg (by omega)]; exact (a.2.2.1 _).trans a1
      · show kR Y 153 (eA e 1 j) = some (eA (z_eg e d d2 D1) 3 j)
        rw [eg_3, if_neg (by omega)]; exact (a.2.2.1 _).trans a4
      · show kR Y 155 (eA e 1 j) = if tA t 28 j = 0 then none else some (eA (z_eg e d d2 D1) 3 (12 + j))
        rw [eg_3, if_neg (c := 12 + j = 8 + eA e 6 0) (by omega)]; exact (a.2.2.1 _).trans a6
    · have a := hx _ 4 (zk_p hz hp)
      obtain ⟨a1, a2, a3, a4, a5, a6, a7, a8⟩ := zp hz hp
      exact ⟨(a.1 _).trans a1, (a.1 _).trans a2, (a.1 _).trans a3, (a.1 _).trans a4, (a.1 _).trans a5, (a.1 _).trans a6, (a.1 _).trans a7, (a.1 _).trans a8⟩
    · unfold zBu
      rw [eg_3]
      rcases hB c hc with e1 | ⟨e1, e2⟩
      · subst e1
        rw [if_pos rfl, ← hY]
        have hdd2 : ¬ d2 = d := fun h => hdd h.symm
        simp [kI_sI, kI_sR, kI_sJ, kJ_sI, kJ_sR, kJ_sJ, m_fill, tA_uB, tA_uF, tA_u, tB_uF, tB_u, hdd2]
      · rw [if_neg e1]
        have a := hx _ 1 (zk_b hz e2)
        obtain ⟨a1, a2, a3⟩ := zbu hz e2
        refine ⟨(a.1 _).trans (a1.trans ?_), (a.2.1 _).trans (a2.trans ?_), (a.2.1 _).trans (a3.trans ?_)⟩ <;> simp [m_fill, tA_uB, tA_uF, tA_u, tB_uF, tB_u, tB_uA, e1]
    · refine chX_to (e := e) (x := x) (fun p hp => ⟨?_, rfl⟩) (hz.2.2.1.2.2.2.2.2.1 j hj)
      exact (hx _ 4 (zk_p hz ((hz.1.2.2.1 j hj).2.2.2.1 p hp).1)).2.2.1 208
    · have a := hx _ 5 (zk_o hz)
      obtain ⟨a1, a2, a3, a4, a5⟩ := zsh hz
      exact ⟨(a.1 _).trans a1, (a.1 _).trans a2, (a.1 _).trans a3, (a.1 _).trans a4, (a.2.1 _).trans a5⟩
  refine zw_made (i := 0) (x3 := Y) hz (by decide) hX (fun c q h _ => hx c q h) (fun c q hc h1 h2 => ?_) hadd (fun j => eg_o _ _ _ _ _ _ (by decide)) (fun j => ?_) (fun j hj => ?_) (fun j hj => ?_) (fun c hc k hk => ?_) (fun k hk => ?_) (tI_grp hz.1 hg hw hc hb) hK hC (fun c h => h) (fun h => h)
  · have c1 : c ≠ d2 := fun h9 => by rw [h9, hnd2] at hc; cases hc; omega
    have c2 : c ≠ d := fun h9 => by rw [h9, hnd] at hc; cases hc; omega
    have : nu c = some q := by
      rw [← hN, va_up_ne _ _ c1, va_up_ne _ _ c2] at hc
      exact hc
    exact ⟨this, hx c q this⟩
  · simp [z_eg, eA_fA]
  · simp [z_eg, eA_fA]
  · simp [z_eg, eA_fA]
  · rcases (show c = 0 ∨ c = 1 ∨ c = 2 by omega) with rfl | rfl | rfl
    · rw [eg_0]; simp
    · rw [eg_o _ _ _ _ _ _ (by decide)]; simp
    · rw [eg_o _ _ _ _ _ _ (by decide)]; simp
  · rw [eg_o _ _ _ _ 2 _ (by decide), eg_o _ _ _ _ 7 _ (by decide)]; simp
theorem z_four (hz : zw G nu z o e t x) (h : 4 ≤ nI (eA e 6 0)) : tF t 2 = 4 := by
  have h1 := zd_ng hz
  have h2 : 4 ≤ eA e 6 0 := (nI_leI (a := 4) (by omega) (by omega)).mp h
  rw [hz.1.1.1.1, show eA e 6 0 = 4 by omega]
  rfl
theorem z_four' (hz : zw G nu z o e t x) (h : ¬ 4 ≤ nI (eA e 6 0)) : eA e 6 0 < 4 ∧ ¬ tF t 2 = 4 := by
  have h1 := zd_ng hz
  have h3 : eA e 6 0 < 4 := Nat.lt_of_not_le (fun h2 => h (nI_le (a := 4) h2 (by omega)))
  refine ⟨h3, fun h9 => ?_⟩
  rw [hz.1.1.1.1, show (4 : Int32) = nI 4 from rfl, nI_eq (by omega) (by omega)] at h9
  omega
theorem z_eight (hz : zw G nu z o e t x) : (nI (eA e 6 1) < 8 ↔ eA e 6 1 < 8) := by
  have h1 := zd_nl hz
  exact nI_ltI (b := 8) (by omega) (by omega)
end ZM
