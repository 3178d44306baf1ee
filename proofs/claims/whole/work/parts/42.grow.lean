/-! the relation behind what makes new cells -/
theorem wi_bd {v lo hi : Int32} {a b : Nat} (h : kw_wi v lo hi = true) (ha : lo.toInt = (a : Int)) (hb : hi.toInt = (b : Int)) : bd v a b := by
  rw [kw_wi_iff, le_toInt, le_toInt, ha, hb] at h
  exact bd.of h.1 h.2
section ZG
variable {G : kw_G} {nu nu' : Nat → Option Nat} {z x y : kw_St} {o : Nat} {e e' : kE} {t t' : mo_T} {k d d2 g : Nat} {r bu mk : Int32}
theorem zLs_nu (hX : nuX nu nu') (hK : zK G nu o e t) (hL : zLs G nu o e x) : zLs G nu' o e x := by
  refine ⟨fun i hi => ?_, hL.2.1, fun i hi j hj h10 heq => ?_, hL.2.2.2.1, hL.2.2.2.2⟩
  · obtain ⟨c1, c2, c3, c5, c4⟩ := hL.1 i hi
    refine ⟨c1, c2, c3, c5, ?_⟩
    rcases c4 with c4 | c4
    · exact Or.inl c4
    · exact Or.inr ⟨hX _ _ c4.1, c4.2⟩
  · refine hL.2.2.1 i hi j hj ?_ heq
    rcases (hL.1 i hi).2.2.2.2 with c | c
    · rw [c.1, hX _ _ hK.2.2.2.2.2.2.1] at h10
      cases h10
    · exact c.1
theorem zLs_fA {c0 v : Nat} (hc : c0 = 3 ∨ c0 = 8 ∨ c0 = 9) (h : zLs G nu o e x) : zLs G nu o (fA e c0 k v) x := by
  have f : ∀ i r, i ≠ c0 → eA (fA e c0 k v) i r = eA e i r := fun i r hi => by rw [eA_fA, if_neg (fun q => hi q.1)]
  refine ⟨fun i hi => ?_, h.2.1, fun i hi j hj => ?_, fun i hi r hr => ?_, fun r hr => ?_⟩
  · rw [f 4 i (by omega), f 5 i (by omega), f 6 i (by omega), f 10 i (by omega)]; exact h.1 i hi
  · rw [f 5 i (by omega), f 5 j (by omega)]; exact h.2.2.1 i hi j hj
  · rw [f 6 i (by omega)] at hr
    rw [f 5 i (by omega), f i r (by omega)]; exact h.2.2.2.1 i hi r hr
  · rw [f 6 3 (by omega)] at hr
    rw [f 5 3 (by omega), f 7 r (by omega), f 2 _ (by omega)]; exact h.2.2.2.2 r hr
theorem tok_full (hb : bd bu 0 20000) : (1000 * bu.toInt64).toInt = 1000 * bu.toInt ∧ 0 ≤ (1000 * bu.toInt64).toInt ∧ (1000 * bu.toInt64).toInt ≤ 20000000 := by
  obtain ⟨u, -, u2, rfl⟩ := hb
  rw [nI_l (by omega), show (1000 : Int64) = lN 1000 from rfl, lN_mul, pk_lT (by omega), nI_toInt (by omega)]
  omega
theorem tI_pol (hI : tI e t) (hk : k < eA e 6 1) (hr : bd r 0 1000) (hb : bd bu 0 20000) (mk : Int32) : tI e (m_fill (uA (uA t 28 k 1) 29 k mk) (12 + k) r bu) := by
  have hnl := hI.1.2.1.2
  have htf := tok_full hb
  refine ⟨hI.1, hI.2.1, fun j hj => tQ_to (hI.2.2.1 j hj) rfl rfl rfl rfl rfl (fun _ _ => rfl) (fun _ _ => rfl), hI.2.2.2.1, hI.2.2.2.2.1, hI.2.2.2.2.2.1, fun c hc => ?_, ⟨fun j h1 h2 => ⟨fun i i1 i2 => ?_, (hI.2.2.2.2.2.2.2.1.1 j h1 h2).2⟩, hI.2.2.2.2.2.2.2.1.2.1, fun j hj h0 => ?_⟩, hI.2.2.2.2.2.2.2.2⟩
  · obtain ⟨a1, a2, a3, a4⟩ := hI.2.2.2.2.2.2.1 c hc
    have f30 : tA (m_fill (uA (uA t 28 k 1) 29 k mk) (12 + k) r bu) 30 c = if c = 12 + k then r else tA t 30 c := by simp [m_fill, tA_uB, tA_u]
    have f31 : tA (m_fill (uA (uA t 28 k 1) 29 k mk) (12 + k) r bu) 31 c = if c = 12 + k then bu else tA t 31 c := by simp [m_fill, tA_uB, tA_u]
    have f32 : tB (m_fill (uA (uA t 28 k 1) 29 k mk) (12 + k) r bu) 32 c = if c = 12 + k then 1000 * bu.toInt64 else tB t 32 c := by simp [m_fill, tB_u, tB_uA]
    unfold tK
    rw [f30, f31, f32]
    by_cases e1 : c = 12 + k
    · rw [if_pos e1, if_pos e1, if_pos e1]
      exact ⟨hr, hb, by omega, by omega⟩
    · rw [if_neg e1, if_neg e1, if_neg e1]
      exact ⟨a1, a2, a3, a4⟩
  · have h9 := (hI.2.2.2.2.2.2.2.1.1 j h1 h2).1 i i1 i2
    have e1 : ¬ j = k := by omega
    have e2 : ¬ i = 30 := by omega
    have e3 : ¬ i = 31 := by omega
    unfold m_fill
    simp [tA_uB, tA_u, e1, e2, e3, h9]
  · unfold m_fill at h0 ⊢
    simp only [tA_uB, tB_uB, tA_u, tB_uA] at h0 ⊢
    by_cases e1 : j = k
    · subst e1
      simp at h0
    · have e2 : ¬ 12 + j = 12 + k := by omega
      simp [e1] at h0
      have h9 := hI.2.2.2.2.2.2.2.1.2.2 j hj h0
      simp [e1, h9]
theorem zw_pol (hz : zw G nu z o e t x) (hk : k < eA e 6 1) (hd : nu d = none) (hok : m_polok (eA e 6 1) k r bu = true) : zw G (va_up nu d (some 1)) z o (fA e 3 (12 + k) d) (m_fill (uA (uA t 28 k 1) 29 k mk) (12 + k) r bu) (sI (sR (sJ (sJ (sI (sNew x d 0) 50 d r) 51 d (1000 * bu.toInt64)) 52 d (1000 * bu.toInt64)) 155 (eA e 1 k) (some d)) 156 (eA e 1 k) mk) := by
  simp only [m_polok, Bool.and_eq_true, decide_eq_true_eq] at hok
  have hr : bd r 0 1000 := wi_bd hok.2.1 (by decide) (by decide)
  have hb : bd bu 0 20000 := wi_bd hok.2.2 (by decide) (by decide)
  have hnl := zd_nl hz
  have hng := zd_ng hz
  have hX : nuX nu (va_up nu d (some 1)) := nuX.up hd
  have hlk := zk_l hz hk
  have hkd : eA e 1 k ≠ d := kw_nb hd hlk
  generalize hY : sI (sR (sJ (sJ (sI (sNew x d 0) 50 d r) 51 d (1000 * bu.toInt64)) 52 d (1000 * bu.toInt64)) 155 (eA e 1 k) (some d)) 156 (eA e 1 k) mk = Y
  have rI : ∀ i c, c ≠ d → kI Y i c = if i = 156 ∧ c = eA e 1 k then mk else kI x i c := fun i c hc => by rw [← hY]; simp [kI_sI, kI_sR, kI_sJ, kI_sNew, hc]
  have rJ : ∀ i c, c ≠ d → kJ Y i c = kJ x i c := fun i c hc => by rw [← hY]; simp [kJ_sI, kJ_sR, kJ_sJ, kJ_sNew, hc]
  have rR : ∀ i c, c ≠ d → kR Y i c = if i = 155 ∧ c = eA e 1 k then some d else kR x i c := fun i c hc => by rw [← hY]; simp [kR_sI, kR_sR, kR_sJ, kR_sNew, hc]
  have hag : ∀ c q, nu c = some q → q ≠ 3 → kw_ag c x Y := by
    intro c q hc hq
    have h1 : c ≠ d := kw_nb hd hc
    have h2 : c ≠ eA e 1 k := nu_ne hc hlk hq
    rw [← hY]
    exact ag_sI (ag_sR (ag_sJ (ag_sJ (ag_sI (ag_sNew kw_ag.rf h1) h1) h1) h1) h2) h2
  have h3 : ∀ c, c ≠ 12 + k → eA (fA e 3 (12 + k) d) 3 c = eA e 3 c := fun c hc => by simp [eA_fA, hc]
  have h3k : eA (fA e 3 (12 + k) d) 3 (12 + k) = d := by simp [eA_fA]
  have t28 : ∀ j, tA (m_fill (uA (uA t 28 k 1) 29 k mk) (12 + k) r bu) 28 j = if j = k then 1 else tA t 28 j := fun j => by simp [m_fill, tA_uB, tA_u]
  have hB : ∀ c, zB (fA e 3 (12 + k) d) (m_fill (uA (uA t 28 k 1) 29 k mk) (12 + k) r bu) c → c = 12 + k ∨ (c ≠ 12 + k ∧ zB e t c) := by
    intro c hc
    by_cases e1 : c = 12 + k
    · exact Or.inl e1
    · refine Or.inr ⟨e1, ?_⟩
      rcases hc with h | h | ⟨h5, h6, h7⟩
      · exact Or.inl h
      · exact Or.inr (Or.inl h)
      · refine Or.inr (Or.inr ⟨h5, h6, ?_⟩)
        rw [t28, if_neg (by omega)] at h7
        exact h7
  refine ⟨tI_pol hz.1 hk hr hb mk, ⟨hX _ _ hz.2.1.1, fun i hi => hX _ _ (hz.2.1.2.1 i hi), fun i hi => hX _ _ (hz.2.1.2.2.1 i hi), fun i hi => hX _ _ (hz.2.1.2.2.2.1 i hi), fun i hi => hX _ _ (hz.2.1.2.2.2.2.1 i hi), fun c hc => ?_, hX _ _ hz.2.1.2.2.2.2.2.2.1, hz.2.1.2.2.2.2.2.2.2.1, hz.2.1.2.2.2.2.2.2.2.2.1, hz.2.1.2.2.2.2.2.2.2.2.2.1, hz.2.1.2.2.2.2.2.2.2.2.2.2.1, fun i hi j hj heq => ?_⟩, ⟨?_, fun c hc => ?_, fun j hj => ?_, fun p hp => ?_, fun c hc => ?_, fun j hj => ?_, ?_⟩, fun c q hc h1 h2 => ?_⟩
  · rcases hB c hc with e1 | ⟨e1, e2⟩
    · rw [e1, h3k]; exact va_up_self _ _ _
    · rw [h3 c e1]; exact hX _ _ (zk_b hz e2)
  · rcases hB i hi with e1 | ⟨e1, e2⟩
    · rcases hB j hj with e3 | ⟨e3, e4⟩
      · rw [e1, e3]
      · rw [e1, h3k, h3 j e3] at heq
        exact absurd heq.symm (kw_nb hd (zk_b hz e4))
    · rcases hB j hj with e3 | ⟨e3, e4⟩
      · rw [e3, h3k, h3 i e1] at heq
        exact absurd heq (kw_nb hd (zk_b hz e2))
      · rw [h3 i e1, h3 j e3] at heq
        exact (zi_b hz e2 e4).mp heq
  · have hL : zLs G (va_up nu d (some 1)) o e Y := zLs_nu (t := t) hX hz.2.1 (zLs_ag (t := t) hz.2.1 (fun c q hc hq => hag c q hc (by omega)) hz.2.2.1.1)
    exact zLs_fA (Or.inl rfl) hL
  · have hc2 : c < eA e 6 0 := hc
    obtain ⟨c1, c2, c3, c4, c5, c6⟩ := zg hz hc2
    have a := hag _ 2 (zk_g hz hc2) (by decide)
    refine ⟨(a.1 _).trans (c1.trans ?_), ?_, (a.1 _).trans c3, (a.1 _).trans c4, (a.2.1 _).trans (c5.trans ?_), (a.2.1 _).trans (c6.trans ?_)⟩
    · simp [m_fill, tA_uB, tA_u]
    · rw [h3 _ (by omega)]; exact (a.2.2.1 _).trans c2
    · simp [m_fill, tB_u, tB_uA]
    · simp [m_fill, tB_u, tB_uA]
  · have hj2 : j < eA e 6 1 := hj
    obtain ⟨a1, a2, a3, a4, a5, a6, a7, a8, a9, a10, a11, a12, a13, a14, a15, a16, a17, a18⟩ := zl hz hj2
    have hjd : eA e 1 j ≠ d := kw_nb hd (zk_l hz hj2)
    have hi := zi_l hz hj2 hk
    have gI : ∀ i v, i ≠ 156 → kI x i (eA e 1 j) = v → kI Y i (eA e 1 j) = v := fun i v h1 h2 => by rw [rI i _ hjd, if_neg (fun q => h1 q.1)]; exact h2
    have gR : ∀ i v, i ≠ 155 → kR x i (eA e 1 j) = v → kR Y i (eA e 1 j) = v := fun i v h1 h2 => by rw [rR i _ hjd, if_neg (fun q => h1 q.1)]; exact h2
    refine ⟨gR 150 _ (by decide) a1, gI 151 _ (by decide) a2, gI 152 _ (by decide) a3, ?_, gI 154 _ (by decide) a5, ?_, ?_, gR 157 _ (by decide) a8, gR 158 _ (by decide) a9, gI 159 _ (by decide) a10, gI 160 _ (by decide) a11, gI 161 _ (by decide) a12, gI 162 _ (by decide) a13, gI 163 _ (by decide) a14, gI 164 _ (by decide) a15, gI 165 _ (by decide) a16, gI 166 _ (by decide) a17, (rJ 167 _ hjd).trans a18⟩
    · rw [h3 j (by omega)]; exact gR 153 _ (by decide) a4
    · show kR Y 155 (eA e 1 j) = _
      rw [rR 155 _ hjd, t28]
      by_cases e1 : j = k
      · subst e1
        rw [if_pos ⟨rfl, rfl⟩, if_pos rfl, h3k]
        simp
      · rw [if_neg (fun q => e1 (hi.mp q.2)), if_neg e1, h3 _ (by omega), a6]
    · show kI Y 156 (eA e 1 j) = _
      rw [rI 156 _ hjd]
      have e9 : tA (m_fill (uA (uA t 28 k 1) 29 k mk) (12 + k) r bu) 29 j = if j = k then mk else tA t 29 j := by simp [m_fill, tA_uB, tA_u]
      rw [e9]
      by_cases e1 : j = k
      · subst e1; simp
      · rw [if_neg (fun q => e1 (hi.mp q.2)), if_neg e1, a7]
  · have a := hag _ 4 (zk_p hz hp) (by decide)
    obtain ⟨a1, a2, a3, a4, a5, a6, a7, a8⟩ := zp hz hp
    exact ⟨(a.1 _).trans a1, (a.1 _).trans a2, (a.1 _).trans a3, (a.1 _).trans a4, (a.1 _).trans a5, (a.1 _).trans a6, (a.1 _).trans a7, (a.1 _).trans a8⟩
  · unfold zBu
    rcases hB c hc with e1 | ⟨e1, e2⟩
    · subst e1
      rw [h3k, ← hY]
      have hdk : ¬ d = eA e 1 k := fun h => hkd h.symm
      simp [kI_sI, kI_sR, kI_sJ, kJ_sI, kJ_sR, kJ_sJ, m_fill, tA_uB, tA_u, tB_u, hdk]
    · rw [h3 c e1]
      have a := hag _ 1 (zk_b hz e2) (by decide)
      obtain ⟨a1, a2, a3⟩ := zbu hz e2
      refine ⟨(a.1 _).trans (a1.trans ?_), (a.2.1 _).trans (a2.trans ?_), (a.2.1 _).trans (a3.trans ?_)⟩ <;> simp [m_fill, tA_uB, tA_u, tB_u, tB_uA, e1]
  · refine chX_to (e := e) (x := x) (fun p hp => ⟨?_, rfl⟩) (hz.2.2.1.2.2.2.2.2.1 j hj)
    exact (hag _ 4 (zk_p hz ((hz.1.2.2.1 j hj).2.2.2.1 p hp).1) (by decide)).2.2.1 208
  · have a := hag _ 5 (zk_o hz) (by decide)
    obtain ⟨a1, a2, a3, a4, a5⟩ := zsh hz
    exact ⟨(a.1 _).trans a1, (a.1 _).trans a2, (a.1 _).trans a3, (a.1 _).trans a4, (a.2.1 _).trans a5⟩
  · have hcd : c ≠ d := fun h9 => by rw [h9, va_up_self] at hc; cases hc; omega
    rw [va_up_ne _ _ hcd] at hc
    exact (hz.2.2.2 c q hc h1 h2).tr (hag c q hc (by omega))
end ZG
