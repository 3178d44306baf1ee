/-! a packet begins: the relation behind it -/
theorem kw_ag.tr {b : Nat} {z x y : kw_St} (h1 : kw_ag b z x) (h2 : kw_ag b x y) : kw_ag b z y := ⟨fun i => (h2.1 i).trans (h1.1 i), fun i => (h2.2.1 i).trans (h1.2.1 i), fun i => (h2.2.2.1 i).trans (h1.2.2.1 i), h2.2.2.2.1.trans h1.2.2.2.1, h2.2.2.2.2.1.trans h1.2.2.2.2.1, h2.2.2.2.2.2.1.trans h1.2.2.2.2.2.1, h2.2.2.2.2.2.2.trans h1.2.2.2.2.2.2⟩
theorem kw_ag.rf {b : Nat} {x : kw_St} : kw_ag b x x := ⟨fun _ => rfl, fun _ => rfl, fun _ => rfl, rfl, rfl, rfl, rfl⟩
theorem mo_ext {t u : mo_T} (hF : ∀ j, tF t j = tF u j) (hL : tL t = tL u) (hA : ∀ j k, tA t j k = tA u j k) (hB : ∀ j k, tB t j k = tB u j k) : t = u := Prod.ext (funext hF) (Prod.ext hL (Prod.ext (funext fun j => funext (hA j)) (funext fun j => funext (hB j))))
theorem tA_u (t : mo_T) (j k : Nat) (v : Int32) (i r : Nat) : tA (uA t j k v) i r = if i = j ∧ r = k then v else tA t i r := by
  rw [tA_uA]
  by_cases h : i = j <;> by_cases h2 : r = k <;> simp [h, h2]
theorem tB_u (t : mo_T) (j k : Nat) (v : Int64) (i r : Nat) : tB (uB t j k v) i r = if i = j ∧ r = k then v else tB t i r := by
  rw [tB_uB]
  by_cases h : i = j <;> by_cases h2 : r = k <;> simp [h, h2]
section ZE
variable {G : kw_G} {nu nu' : Nat → Option Nat} {z x x2 y : kw_St} {o : Nat} {e : kE} {t t2 : mo_T} {k b p g D1 fr : Nat} {q : List Nat}
/-- what addresses a leaving packet touches -/
def zTo (e : kE) (b p c : Nat) : Prop := c = eA e 1 b ∨ c = eA e 0 (eA e 8 b) ∨ c = eA e 3 b ∨ c = eA e 3 (8 + eA e 8 b) ∨ c = eA e 2 p
theorem zTo_k (hz : zw G nu z o e t x) (hb : b < eA e 6 1) (hp : p < eA e 6 2) {c r : Nat} (hc : nu c = some r) (hr : r = 0 ∨ 5 ≤ r) : ¬ zTo e b p c := by
  rintro (h | h | h | h | h) <;> subst h
  · rw [zk_l hz hb] at hc; cases hc; omega
  · rw [zk_g hz (zd_gr hz hb)] at hc; cases hc; omega
  · rw [zk_b hz (zb_l hb)] at hc; cases hc; omega
  · rw [zk_b hz (zb_g (zd_gr hz hb))] at hc; cases hc; omega
  · rw [zk_p hz hp] at hc; cases hc; omega
theorem zLs_send (hz : zw G nu z o e t x) (hb : b < eA e 6 1) (hp : p < eA e 6 2) (hag : ∀ c, ¬ zTo e b p c → kw_ag c x x2) : zLs G nu o e x2 := zLs_ag hz.2.1 (fun c r hc hr => hag c (zTo_k hz hb hp hc (by omega))) hz.2.2.1.1
/-- the names behind it -/
def z_fin (e : kE) (b p : Nat) (q : List Nat) (D1 fr : Nat) : kE := fA (fA (fA (z_snd e b p q) 5 3 D1) 10 3 (zcap (eA e 10 3) (eA e 6 3))) 9 0 fr
theorem zw_send (hz : zw G nu z o e t x) (hb : b < eA e 6 1) (hp : p < eA e 6 2) (hag : ∀ c, ¬ zTo e b p c → kw_ag c x x2) (hI : tI (z_snd e b p q) t2) (h28 : ∀ k, tA t2 28 k = tA t 28 k) (hC : zC o (z_snd e b p q) t2 x2) (hadd : zAdd nu x2 (eA e 4 3) (eA e 5 3) (eA e 6 3) (eA e 2 p) nu' y D1) : zw G nu' z o (z_fin e b p q D1 fr) t2 (sI y 255 o (nI fr)) := by
  have hLs := zLs_send hz hb hp hag
  have hL3 := hz.2.1.2.1 3 (by decide)
  have hB : ∀ c, zB (z_snd e b p q) t2 c ↔ zB e t c := by
    intro c
    have h9 : zB (z_snd e b p q) t2 c ↔ zB e t2 c := Iff.rfl
    rw [h9]
    unfold zB
    rw [h28]
  have hK2 : zK G nu o (z_snd e b p q) t2 := ⟨hz.2.1.1, hz.2.1.2.1, hz.2.1.2.2.1, hz.2.1.2.2.2.1, hz.2.1.2.2.2.2.1, fun c hc => hz.2.1.2.2.2.2.2.1 c ((hB c).mp hc), hz.2.1.2.2.2.2.2.2.1, hz.2.1.2.2.2.2.2.2.2.1, hz.2.1.2.2.2.2.2.2.2.2.1, hz.2.1.2.2.2.2.2.2.2.2.2.1, hz.2.1.2.2.2.2.2.2.2.2.2.2.1, fun i hi j hj => hz.2.1.2.2.2.2.2.2.2.2.2.2.2 i ((hB i).mp hi) j ((hB j).mp hj)⟩
  have hK3 : zK G nu' o (z_snd e b p q) t2 := zK_nu hadd.nu hK2
  have hC2 : zC o (z_snd e b p q) t2 y := zC_ag hK2 (fun k hk p hp => (hI.2.2.1 k hk).2.2.2.1 p hp |>.1) (fun c r hc h1 h2 => zAdd_ag hadd hL3 hc (by omega) (by omega)) hC
  have hLs2 : zLs G nu' o (z_fin e b p q D1 fr) y := by
    refine zLs_add (i := 3) (by decide) hz.2.1 hLs hadd (fun j => rfl) (fun j => ?_) (fun j hj => ?_) (fun j hj => ?_) (fun c hc k hk => ?_) (fun k hk => ?_)
    · simp [eA_fA, z_fin, z_snd, eA_fQ]
    · simp [eA_fA, z_fin, z_snd, eA_fQ]
    · simp [eA_fA, z_fin, z_snd, eA_fQ]
    · rw [if_neg (by omega)]
      have h9 : c ≠ 9 ∧ c ≠ 5 ∧ c ≠ 6 ∧ c ≠ 7 ∧ c ≠ 10 := by omega
      simp [eA_fA, z_fin, z_snd, eA_fQ, h9]
    · have e1 : eA (z_fin e b p q D1 fr) 7 k = if k = eA e 6 3 then p else eA e 7 k := by
        rw [← z_snd_7 e b p q]
        simp [z_fin, eA_fA]
      have e2 : ∀ r, eA (z_fin e b p q D1 fr) 2 r = eA e 2 r := fun r => by simp [eA_fA, z_fin, z_snd, eA_fQ]
      rw [e2, e1]
      by_cases h9 : k = eA e 6 3
      · simp [h9]
      · simp [h9]
  refine ⟨hI, hK3, ⟨hLs2, ?_⟩, fun c r hc h1 h2 => ?_⟩
  · have h9 : zC o (fA (fA (z_snd e b p q) 5 3 D1) 10 3 (zcap (eA e 10 3) (eA e 6 3))) t2 y := ⟨hC2.1, hC2.2.1, hC2.2.2.1, hC2.2.2.2.1, fun r hr => chX_to (e := z_snd e b p q) (x := y) (fun _ _ => ⟨rfl, rfl⟩) (hC2.2.2.2.2.1 r hr), hC2.2.2.2.2.2⟩
    exact zC_255 h9 rfl
  · have hc2 : nu c = some r := by
      rcases hadd.2.1 with ⟨e1, -⟩ | ⟨e0, e1⟩
      · rw [← e1]; exact hc
      · by_cases h9 : c = D1
        · rw [h9, hadd.2.2.1] at hc; cases hc; omega
        · rw [e1, va_up_ne _ _ h9] at hc; exact hc
    exact ag_sI ((hz.2.2.2 c r hc2 h1 h2).tr ((hag c (zTo_k hz hb hp hc2 (by omega))).tr (zAdd_ag hadd hL3 hc2 (by omega) (by omega)))) (nu_ne hc2 (zk_o hz) (by omega))
/-- DUE: cells and state -/
theorem dsend_eq (t : mo_T) (b p g nb : Nat) (d v : Int32) : uA (uA (uA (m_goes t b p g nb 1) 38 p d) 25 b d) 21 b v = uA (uA (m_goes (uA t 25 b d) b p g nb 1) 38 p d) 21 b v := by
  refine mo_ext (fun j => ?_) ?_ (fun j k => ?_) (fun j k => ?_)
  · simp [m_goes, tF_uB, tF_uF, tF_uA, tA_uA]
  · simp [m_goes, tL_uB, tL_uF, tL_uA]
  · by_cases h : j = 25
    · subst h; simp [m_goes, tA_uB, tA_uF, tA_u]
    · simp [m_goes, tA_uB, tA_uF, tA_u, tF_uA, h]
  · simp [m_goes, tB_u, tB_uF, tB_uA, tA_u]
theorem bd_dl (hI : tI e t) (hb : b < eA e 6 1) (hd : m_duf t (fpT t) b = true) (hp : fpT t b < eA e 6 2) : bd (m_dl t (fpT t) b) 0 1001500000 := by
  simp only [m_duf, Bool.and_eq_true, decide_eq_true_eq] at hd
  obtain ⟨-, hg, hs⟩ := hd
  obtain ⟨-, -, ⟨gu, -, gu2, egu⟩, -, -, hcl⟩ := hI.2.1 b hb
  obtain ⟨⟨s, s1, s2, es⟩, hca⟩ := hI.2.2.2.2.1 _ hp
  have hnow := hI.1.2.2.2.2.1.rng (by decide)
  have hst : bd (m_st t (fpT t) b) 0 1000000000 := by
    have h1 := hcl.rng (by decide)
    have h2 := hca.rng (by decide)
    have h3 : (m_st t (fpT t) b).toInt ≤ (tF t 1).toInt := Int32.le_iff_toInt_le.mp (Int32.not_lt.mp hs)
    have h4 : (0 : Int) ≤ (m_st t (fpT t) b).toInt := by
      unfold m_st
      split <;> omega
    exact bd.of (by omega) (by omega)
  obtain ⟨n, -, n2, en⟩ := hst
  have hgu : 0 < gu := by
    rcases Nat.eq_zero_or_pos gu with h | h
    · rw [egu, h] at hg; exact absurd (by decide) hg
    · exact h
  unfold m_dl
  rw [en, es, egu]
  have e1 : (1000 : Int32) * nI s = nI (1000 * s) := by rw [show (1000 : Int32) = nI 1000 from rfl, pk_mul]
  have e2 : nI (1000 * s) + nI gu - 1 = nI (1000 * s + gu - 1) := by
    rw [nI_add, show (1 : Int32) = nI 1 from rfl, pk_sub (by omega)]
  rw [e1, e2, pk_div (by omega) hgu (by omega), nI_add]
  refine ⟨_, Nat.zero_le _, ?_, rfl⟩
  have h9 : (1000 * s + gu - 1) / gu < 1000 * s + 1 := by
    rw [Nat.div_lt_iff_lt_mul hgu, Nat.add_mul]
    have := Nat.le_mul_of_pos_right (1000 * s) hgu
    omega
  omega
theorem sdue_ag (hz : zw G nu z o e t x) (u : Int32) {c : Nat} (hc : ¬ zTo e b p c) : kw_ag c x (q_sdue x (eA e 1 b) (eA e 0 (eA e 8 b)) (eA e 3 b) (eA e 3 (8 + eA e 8 b)) (eA e 2 p) u) := by
  simp only [zTo, not_or] at hc
  obtain ⟨c1, c2, c3, c4, c5⟩ := hc
  exact ag_sI (ag_sI (ag_sI (ag_sI (rem_ag x c1 c2 c3 c4 c5) c5) c5) c1) c1
theorem zC_due (hz : zw G nu z o e t x) (hb : b < eA e 6 1) (hQ : eQ e b = p :: q) (hd : m_duf t (fpT t) b = true) : zC o (z_snd e b p q) (m_dsend t (fpT t) (grT t) b (eA e 6 3)) (q_sdue x (eA e 1 b) (eA e 0 (eA e 8 b)) (eA e 3 b) (eA e 3 (8 + eA e 8 b)) (eA e 2 p) (tF t 1)) := by
  obtain ⟨-, -, -, -, h2, h3⟩ := zq_cons hz hb hQ
  unfold m_dsend q_sdue
  rw [← dsend_eq, h2, z_gr hz hb, (rd_dl hz hb hd).1, (zl hz hb).2.2.2.2.2.2.2.2.2.2.2.1, (zp hz h3).2.2.1]
  have hC := zC_rem hz hb hQ 1
  exact zC_161 (nu := nu) (G := G) (zC_165 (nu := nu) (G := G) (zC_207 (nu := nu) (G := G) hC hz.2.1 h3 _) hz.2.1 hb _) hz.2.1 hb _
theorem tI_due (hI : tI e t) (hb : b < eA e 6 1) (hQ : eQ e b = p :: q) (h2 : fpT t b = p) (hg : grT t b = eA e 8 b) (hp : p < eA e 6 2) (hd : m_duf t (fpT t) b = true) : tI (z_snd e b p q) (m_dsend t (fpT t) (grT t) b (eA e 6 3)) := by
  have hdl := bd_dl hI hb hd (by rw [h2]; exact hp)
  unfold m_dsend
  rw [h2, hg]
  exact tI_cnt (tI_pk (tI_goes (tI_clk hI hb hdl) hb hQ 1) (Or.inr (Or.inr (Or.inl rfl))) _) (Or.inl rfl) hb _
/-- EXCESS: cells and state -/
theorem xs_eq (T : mo_T) (b p g nb : Nat) (v27 v11 v10 lm : Int64) (v : Int32) : uA (uB (uB (uB (m_goes (uL T lm) b p g nb 2) 27 b v27) 11 g v11) 10 g v10) 22 b v = uA (m_goes (uL (uB (uB (uB T 27 b v27) 11 g v11) 10 g v10) lm) b p g nb 2) 22 b v := by
  refine mo_ext (fun j => ?_) ?_ (fun j k => ?_) (fun j k => ?_)
  · simp [m_goes, tF_uB, tF_uF, tF_uA, tF_uL, tA_uL, tA_uB]
  · simp [m_goes, tL_uB, tL_uF, tL_uA, tL_uL]
  · simp [m_goes, tA_uB, tA_uF, tA_u, tA_uL, tF_uL, tF_uB]
  · by_cases h : j = 32
    · subst h; simp [m_goes, tB_u, tB_uF, tB_uA, tB_uL, tA_uL, tA_uB]
    · simp [m_goes, tB_u, tB_uF, tB_uA, tB_uL, tA_uL, tA_uB, h]
theorem sexc_ag (u : Int32) {c : Nat} (hc : ¬ zTo e b p c) : kw_ag c x (q_sexc x (eA e 1 b) (eA e 0 (eA e 8 b)) (eA e 3 b) (eA e 3 (8 + eA e 8 b)) (eA e 2 p) u) := by
  simp only [zTo, not_or] at hc
  obtain ⟨c1, c2, c3, c4, c5⟩ := hc
  exact ag_sI (ag_sJ (ag_sJ (ag_sJ (ag_sI (rem_ag x c1 c2 c3 c4 c5) c5) c1) c2) c2) c1
theorem zw_mark (hz : zw G nu z o e t x) (v : Int64) : zw G nu z o e (uL t v) (sJ x 258 o v) := ⟨tI_uL hz.1 v, hz.2.1, ⟨hz.2.2.1.1, zC_258 hz.2.2.1.2 v⟩, fun b9 r h1 h2 h3 => ag_sJ (hz.2.2.2 b9 r h1 h2 h3) (nu_ne h1 (zk_o hz) (by omega))⟩
/-- T is t but for what is counted as held -/
def zHe (T t : mo_T) : Prop := (∀ j, tF T j = tF t j) ∧ tL T = tL t ∧ (∀ j k, j ≠ 26 → tA T j k = tA t j k) ∧ ∀ j k, tB T j k = tB t j k
theorem zHe.tg {T t : mo_T} (h : zHe T t) (k : Nat) : fpT T k = fpT t k ∧ grT T k = grT t k ∧ m_tg T (fpT T) k = m_tg t (fpT t) k ∧ m_gtg T (fpT T) (grT T) k = m_gtg t (fpT t) (grT t) k := by
  have h1 : fpT T k = fpT t k := by unfold fpT; rw [h.2.2.1 17 k (by decide)]
  have h2 : grT T k = grT t k := by unfold grT; rw [h.2.2.1 13 k (by decide)]
  refine ⟨h1, h2, ?_, ?_⟩
  · unfold m_tg; rw [h1, h.2.2.2, h.2.2.1 14 k (by decide), h.2.2.1 34 _ (by decide)]
  · unfold m_gtg; rw [h1, h2, h.2.2.2, h.2.2.1 9 _ (by decide), h.2.2.1 34 _ (by decide)]
theorem zmax {a b : Int64} : (if a < b then b else a) = if a ≤ b then b else a := by
  by_cases h : a < b
  · rw [if_pos h, if_pos (Int64.le_of_lt h)]
  · rw [if_neg h]
    by_cases h2 : a ≤ b
    · rw [if_pos h2]; exact Int64.le_antisymm h2 (Int64.not_lt.mp h)
    · rw [if_neg h2]
theorem zC_exc {T : mo_T} (hz : zw G nu z o e T x) (hH : zHe T t) (hb : b < eA e 6 1) (hQ : eQ e b = p :: q) {lm : Int64} (hlm : lm = if m_gtg t (fpT t) (grT t) b ≤ tL t then tL t else m_gtg t (fpT t) (grT t) b) : zC o (z_snd e b p q) (m_xs T t (fpT t) (grT t) b (eA e 6 3)) (q_sexc (sJ x 258 o lm) (eA e 1 b) (eA e 0 (eA e 8 b)) (eA e 3 b) (eA e 3 (8 + eA e 8 b)) (eA e 2 p) (tF t 1)) := by
  obtain ⟨f1, f2, f3, f4⟩ := hH.tg b
  have hz' := zw_mark hz lm
  obtain ⟨-, hw, -, -, h2, h3⟩ := zq_cons hz hb hQ
  have hg := zd_gr hz hb
  have hgr := z_gr hz hb
  have e1 : q_ltag (sJ x 258 o lm) (eA e 1 b) = m_tg t (fpT t) b := (rd_ltag hz hb hw).trans f3
  have e2 : q_lgtag (sJ x 258 o lm) (eA e 1 b) (eA e 0 (eA e 8 b)) = m_gtg t (fpT t) (grT t) b := (rd_lgtag hz hb hw).trans f4
  have e3 : kJ (sJ x 258 o lm) 105 (eA e 0 (eA e 8 b)) = tB t 11 (eA e 8 b) := ((zg hz' hg).2.2.2.2.2).trans (hH.2.2.2 11 _)
  have e4 : kI (sJ x 258 o lm) 162 (eA e 1 b) = tA t 22 b := ((zl hz' hb).2.2.2.2.2.2.2.2.2.2.2.2.1).trans (hH.2.2.1 22 _ (by decide))
  have e5 : kI (sJ x 258 o lm) 202 (eA e 2 p) = tA t 34 p := ((zp hz' h3).2.2.1).trans (hH.2.2.1 34 _ (by decide))
  have e6 : fpT t b = p := f1 ▸ h2
  have e7 : grT t b = eA e 8 b := f2 ▸ hgr
  have e8 : tF t 1 = tF (uL T lm) 1 := (hH.1 1).symm
  unfold m_xs q_sexc
  rw [← hlm, ← xs_eq, e1, e2, e3, e4, e5, e6, e7, zmax, e8]
  have hC := zC_rem hz' hb hQ 2
  exact zC_162 (nu := nu) (G := G) (zC_104 (nu := nu) (G := G) (zC_105 (nu := nu) (G := G) (zC_167 (nu := nu) (G := G) hC hz.2.1 hb _) hz.2.1 hg _) hz.2.1 hg _) hz.2.1 hb _
theorem tI_exc {T : mo_T} (hI : tI e T) (hb : b < eA e 6 1) (hQ : eQ e b = p :: q) (h2 : fpT t b = p) (hg : grT t b = eA e 8 b) : tI (z_snd e b p q) (m_xs T t (fpT t) (grT t) b (eA e 6 3)) := by
  have hgl := (hI.2.1 b hb).1.2
  unfold m_xs
  rw [h2, hg]
  exact tI_cnt (tI_goes (tI_uL (tI_gs (tI_gs (tI_sum hI hb _) (Or.inr rfl) hgl _) (Or.inl rfl) hgl _) _) hb hQ 2) (Or.inr (Or.inl rfl)) hb _
theorem zd_nlt (hz : zw G nu z o e t x) (hb : b < eA e 6 1) (hQ : eQ e b = p :: q) : eA e 6 3 < 512 := by
  have h1 : (eQ e b).length ≤ zL e := zsum_ge (f := fun k => (eQ e k).length) hb
  have h2 := hz.1.1.2.2.2.1.2
  have h3 := zd_np hz
  rw [hQ, List.length_cons] at h1
  omega
theorem z_bne (hz : zw G nu z o e t x) (hb : b < eA e 6 1) : ¬ eA e 3 b = eA e 3 (8 + eA e 8 b) := by
  intro h
  have h1 := (zi_b hz (zb_l hb) (zb_g (zd_gr hz hb))).mp h
  have h2 := zd_nl hz
  omega
theorem hN_He (t : mo_T) (ti : Int32) : ∀ n, zHe (z_hN t ti n) t
  | 0 => ⟨fun _ => rfl, rfl, fun _ _ _ => rfl, fun _ _ => rfl⟩
  | n + 1 => by
    have h := hN_He t ti n
    rw [z_hN]
    split
    · exact ⟨h.1, h.2.1, fun j k hj => by rw [tA_uA, if_neg hj]; exact h.2.2.1 j k hj, h.2.2.2⟩
    · exact h
/-- begun: the whole relation behind it -/
theorem z_begun (hz : zw G nu z o e t x) (hb : b < eA e 6 1) (hp : p < eA e 6 2) (hag : ∀ c, ¬ zTo e b p c → kw_ag c x x2) (hI : tI (z_snd e b p q) t2) (h28 : ∀ k, tA t2 28 k = tA t 28 k) (hC : zC o (z_snd e b p q) t2 x2) (h7 : tF t2 7 = tA t2 34 p) {y1 y2 : kw_St} (hadd : zAdd nu x2 (eA e 4 3) (eA e 5 3) (eA e 6 3) (eA e 2 p) nu' y1 D1) (ey : y2 = sI y1 255 o (kI x2 254 o + kI x2 202 (eA e 2 p))) : nuX nu nu' ∧ ∃ e2, zw G nu' z o e2 t2 y2 ∧ zF e2 t2 ∧ eA e2 10 3 = zcap (eA e 10 3) (eA e 6 3) := by
  have h254 : kI x2 254 o = tF t2 1 := hC.2.2.2.2.2.1
  have h202 : kI x2 202 (eA e 2 p) = tA t2 34 p := (hC.2.2.1 p hp).2.2.1
  obtain ⟨n, -, n2, en⟩ := hI.1.2.2.2.2.1
  obtain ⟨s, s1, s2, es⟩ := (hI.2.2.2.2.1 p hp).1
  rw [h254, h202, en, es, nI_add] at ey
  refine ⟨hadd.nu, z_fin e b p q D1 (n + s), ?_, ⟨fun h9 => ?_, fun _ => ?_⟩, by simp [z_fin, eA_fA]⟩
  · rw [ey]
    exact zw_send hz hb hp hag hI h28 hC hadd
  · rw [h7, es] at h9
    exact absurd h9 (nI_ne0 (by omega) (by omega))
  · rw [h7, en, es, nI_add]
    simp [z_fin, eA_fA]
end ZE
