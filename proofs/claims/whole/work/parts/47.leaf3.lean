/-! leaf: its cells -/
section ZO
variable {G : kw_G} {nu nu3 : Nat → Option Nat} {z x y : kw_St} {o : Nat} {e : kE} {t : mo_T} {k d d2 g D1 n : Nat} {w ce b mo : Int32}
theorem zw_lf (hz : zw G nu z o e t x) (h8 : eA e 6 1 < 8) (hg : g < eA e 6 0) (hw : bd w 1 12) (hn : n ≤ 1000) (hG : zG e t + n ≤ 1000) (hc : bd ce 0 1000) (hb : bd b 0 20000) (hm : bd mo 0 60000) (hd : nu d = none) (hd2 : va_up nu d (some 3) d2 = none) (hadd : zAdd (va_up (va_up nu d (some 3)) d2 (some 1)) (sI (sR (sI (sI (sR (sJ (sJ (sI (sNew (sNew x d 0) d2 0) 50 d2 ce) 51 d2 (1000 * b.toInt64)) 52 d2 (1000 * b.toInt64)) 150 d (some (eA e 0 g))) 151 d w) 152 d (nI n)) 153 d (some d2)) 154 d mo) (eA e 4 1) (eA e 5 1) (eA e 6 1) d nu3 y D1) : zw G nu3 z o (z_el e d d2 g D1) (z_tl t (eA e 6 1) g w (nI n) ce b mo) (sI (sI y 102 (eA e 0 g) (kI y 102 (eA e 0 g) + nI n)) 257 o (kI y 257 o + nI n)) := by
  have hng := zd_ng hz
  have hX1 : nuX nu (va_up nu d (some 3)) := nuX.up hd
  have hX : nuX nu (va_up (va_up nu d (some 3)) d2 (some 1)) := hX1.tr (nuX.up hd2)
  have hdd : d ≠ d2 := kw_nb hd2 (va_up_self _ _ _)
  have hdd2 : ¬ d2 = d := fun h => hdd h.symm
  have hnd : va_up (va_up nu d (some 3)) d2 (some 1) d = some 3 := kw_old hd2 (va_up_self _ _ _)
  have hnd2 : va_up (va_up nu d (some 3)) d2 (some 1) d2 = some 1 := va_up_self _ _ _
  generalize hY : sI (sR (sI (sI (sR (sJ (sJ (sI (sNew (sNew x d 0) d2 0) 50 d2 ce) 51 d2 (1000 * b.toInt64)) 52 d2 (1000 * b.toInt64)) 150 d (some (eA e 0 g))) 151 d w) 152 d (nI n)) 153 d (some d2)) 154 d mo = Y at hadd
  generalize hN : va_up (va_up nu d (some 3)) d2 (some 1) = nu2 at *
  have hold : ∀ c q, nu c = some q → c ≠ d ∧ c ≠ d2 := fun c q h => ⟨kw_nb hd h, kw_nb hd2 (hX1 _ _ h)⟩
  have hx : ∀ c q, nu c = some q → kw_ag c x Y := by
    intro c q h
    obtain ⟨h1, h2⟩ := hold c q h
    rw [← hY]
    exact ag_sI (ag_sR (ag_sI (ag_sI (ag_sR (ag_sJ (ag_sJ (ag_sI (ag_sNew (ag_sNew kw_ag.rf h1) h2) h2) h2) h2) h1) h1) h1) h1) h1
  have hgk := zk_g hz hg
  have hok := zk_o hz
  have hgo : eA e 0 g ≠ o := nu_ne hgk hok (by decide)
  obtain ⟨hgd, hgd2⟩ := hold _ _ hgk
  obtain ⟨hod, hod2⟩ := hold _ _ hok
  -- the cells with the sums
  generalize hT : z_tl t (eA e 6 1) g w (nI n) ce b mo = T at *
  obtain ⟨m13, m14, m15, m16, m17, m30, m31, m32⟩ := tl_n t (eA e 6 1) g w (nI n) ce b mo
  have z0 := hz.1.2.2.2.2.2.2.2.1.1 _ (Nat.le_refl _) h8
  have fA9 : ∀ j r, r ≠ eA e 6 1 → tA T j r = tA t j r := fun j r h => by rw [← hT]; exact tl_A _ _ _ _ _ _ _ _ _ _ h
  have fAj : ∀ j r, ¬ (13 ≤ j ∧ j ≤ 18) ∧ j ≠ 30 ∧ j ≠ 31 → tA T j r = tA t j r := fun j r h => by rw [← hT]; exact tl_Aj _ _ _ _ _ _ _ _ _ _ h
  have fB : ∀ j r, j ≠ 32 ∨ r ≠ eA e 6 1 → tB T j r = tB t j r := fun j r h => by rw [← hT]; exact tl_B _ _ _ _ _ _ _ _ _ _ h
  have fF : ∀ j, j ≠ 3 → tF T j = tF t j := fun j h => by rw [← hT]; exact tl_F _ _ _ _ _ _ _ _ _ h
  have fL : tL T = tL t := by rw [← hT]; rfl
  rw [hT] at m13 m14 m15 m16 m17 m30 m31 m32
  have hI : tI (z_el e d d2 g D1) T := by rw [← hT]; exact tI_lf hz.1 h8 hg hw hn hG hc hb hm
  have e6 : ∀ r, r ≠ 1 → eA (z_el e d d2 g D1) 6 r = eA e 6 r := fun r hr => by simp [z_el, eA_fA, eA_fQ, hr]
  have e61 : eA (z_el e d d2 g D1) 6 1 = eA e 6 1 + 1 := by simp [z_el, eA_fA]
  have hB : ∀ c, zB (z_el e d d2 g D1) T c → c = eA e 6 1 ∨ (c ≠ eA e 6 1 ∧ zB e t c) := by
    intro c hc9
    by_cases e1 : c = eA e 6 1
    · exact Or.inl e1
    · refine Or.inr ⟨e1, ?_⟩
      unfold zB at hc9
      rw [e61, e6 0 (by decide), fAj 28 _ (by decide)] at hc9
      rcases hc9 with h | h | ⟨h5, h6, h7⟩
      · exact Or.inl (by omega)
      · exact Or.inr (Or.inl h)
      · by_cases e2 : c - 12 = eA e 6 1
        · rw [e2, z0.1 28 (by decide) (by decide)] at h7
          exact absurd rfl h7
        · exact Or.inr (Or.inr ⟨h5, by omega, h7⟩)
  have hK : zK G nu2 o (z_el e d d2 g D1) T := by
    refine ⟨hX _ _ hz.2.1.1, fun i hi => ?_, fun r hr => ?_, fun i hi => ?_, fun i hi => ?_, fun c hc9 => ?_, hX _ _ hz.2.1.2.2.2.2.2.2.1, fun i hi j hj => ?_, fun i hi j hj => ?_, fun i hi j hj heq => ?_, fun i hi j hj => ?_, fun i hi j hj heq => ?_⟩
    · rw [el_o _ _ _ _ _ 4 _ (by decide)]; exact hX _ _ (hz.2.1.2.1 i hi)
    · rw [e6 0 (by decide)] at hr
      rw [el_o _ _ _ _ _ 0 _ (by decide)]; exact hX _ _ (zk_g hz hr)
    · rw [e61] at hi
      rw [el_1]
      split
      · exact hnd
      · exact hX _ _ (zk_l hz (by omega))
    · rw [e6 2 (by decide)] at hi
      rw [el_o _ _ _ _ _ 2 _ (by decide)]; exact hX _ _ (zk_p hz hi)
    · rw [el_3]
      rcases hB c hc9 with e1 | ⟨e1, e2⟩
      · rw [if_pos e1]; exact hnd2
      · rw [if_neg e1]; exact hX _ _ (zk_b hz e2)
    · rw [el_o _ _ _ _ _ 4 _ (by decide), el_o _ _ _ _ _ 4 _ (by decide)]; exact (zi_L hz hi hj).mp
    · rw [e6 0 (by decide)] at hi hj
      rw [el_o _ _ _ _ _ 0 _ (by decide), el_o _ _ _ _ _ 0 _ (by decide)]; exact (zi_g hz hi hj).mp
    · rw [e61] at hi hj
      rw [el_1, el_1] at heq
      by_cases e1 : i = eA e 6 1
      · by_cases e2 : j = eA e 6 1
        · omega
        · rw [if_pos e1, if_neg e2] at heq
          exact absurd heq.symm (hold _ _ (zk_l hz (k := j) (by omega))).1
      · by_cases e2 : j = eA e 6 1
        · rw [if_neg e1, if_pos e2] at heq
          exact absurd heq (hold _ _ (zk_l hz (k := i) (by omega))).1
        · rw [if_neg e1, if_neg e2] at heq
          exact (zi_l hz (by omega) (by omega)).mp heq
    · rw [e6 2 (by decide)] at hi hj
      rw [el_o _ _ _ _ _ 2 _ (by decide), el_o _ _ _ _ _ 2 _ (by decide)]; exact (zi_p hz hi hj).mp
    · rw [el_3, el_3] at heq
      rcases hB i hi with e1 | ⟨e1, e2⟩
      · rcases hB j hj with e3 | ⟨e3, e4⟩
        · omega
        · rw [if_pos e1, if_neg e3] at heq
          exact absurd heq.symm (hold _ _ (zk_b hz e4)).2
      · rcases hB j hj with e3 | ⟨e3, e4⟩
        · rw [if_neg e1, if_pos e3] at heq
          exact absurd heq (hold _ _ (zk_b hz e2)).2
        · rw [if_neg e1, if_neg e3] at heq
          exact (zi_b hz e2 e4).mp heq
  have hx3 : ∀ c q, nu c = some q → c ≠ eA e 0 g → c ≠ o → kw_ag c x (sI (sI Y 102 (eA e 0 g) (kI x 102 (eA e 0 g) + nI n)) 257 o (kI x 257 o + nI n)) := fun c q h h1 h2 => ag_sI (ag_sI (hx c q h) h1) h2
  have hC : zC o (z_el e d d2 g D1) T (sI (sI Y 102 (eA e 0 g) (kI x 102 (eA e 0 g) + nI n)) 257 o (kI x 257 o + nI n)) := by
    refine ⟨fun r hr => ?_, fun j hj => ?_, fun p hp => ?_, fun c hc9 => ?_, fun j hj => ?_, ?_⟩
    · rw [e6 0 (by decide)] at hr
      have hrk := zk_g hz hr
      have hro : eA e 0 r ≠ o := nu_ne hrk hok (by decide)
      obtain ⟨c1, c2, c3, c4, c5, c6⟩ := zg hz hr
      have a := hx _ 2 hrk
      have hi := zi_g hz hr hg
      unfold zGr
      rw [el_o _ _ _ _ _ 0 _ (by decide), el_3, if_neg (by omega), el_zW]
      have e2 : zGg (z_el e d d2 g D1) T r = zGg e t r + (if r = g then n else 0) := by rw [← hT]; exact el_zGg _ _ _ _ _ _ _ _ _ _ _ _ (by omega)
      rw [e2, fAj 9 _ (by decide), fB 10 _ (Or.inl (by decide)), fB 11 _ (Or.inl (by decide))]
      refine ⟨?_, (a.2.2.1 _).trans c2, ?_, ?_, (a.2.1 _).trans c5, (a.2.1 _).trans c6⟩
      · simp only [kI_sI]; simp; exact (a.1 _).trans c1
      · simp only [kI_sI]
        by_cases e1 : r = g
        · subst e1
          simp [hro, c3, nI_add]
        · have e3 : ¬ eA e 0 r = eA e 0 g := fun h => e1 (hi.mp h)
          simp [hro, e1, e3]
          exact (a.1 _).trans c3
      · simp only [kI_sI]; simp; exact (a.1 _).trans c4
    · rw [e61] at hj
      unfold zLf
      rw [el_1, el_3, el_3, if_neg (c := 12 + j = eA e 6 1) (by omega), el_8, el_Q, fAj 28 _ (by decide), fAj 29 _ (by decide)]
      rw [fAj 19 _ (by decide), fAj 20 _ (by decide), fAj 21 _ (by decide), fAj 22 _ (by decide), fAj 23 _ (by decide), fAj 24 _ (by decide), fAj 25 _ (by decide), fAj 26 _ (by decide), fB 27 _ (Or.inl (by decide))]
      by_cases e1 : j = eA e 6 1
      · subst e1
        simp only [if_true]
        rw [m14, m15, m16, z0.1 28 (by decide) (by decide), z0.1 29 (by decide) (by decide), z0.1 19 (by decide) (by decide), z0.1 20 (by decide) (by decide), z0.1 21 (by decide) (by decide), z0.1 22 (by decide) (by decide), z0.1 23 (by decide) (by decide), z0.1 24 (by decide) (by decide), z0.1 25 (by decide) (by decide), z0.1 26 (by decide) (by decide), z0.2, el_o _ _ _ _ _ 0 _ (by decide), ← hY]
        simp [kI_sI, kI_sR, kI_sJ, kI_sNew, kJ_sI, kJ_sR, kJ_sJ, kJ_sNew, kR_sI, kR_sR, kR_sJ, kR_sNew, hdd]
      · have hj2 : j < eA e 6 1 := by omega
        have hjk := zk_l hz hj2
        have a := hx3 _ 3 hjk (nu_ne hjk hgk (by decide)) (nu_ne hjk hok (by decide))
        obtain ⟨a1, a2, a3, a4, a5, a6, a7, a8, a9, a10, a11, a12, a13, a14, a15, a16, a17, a18⟩ := zl hz hj2
        simp only [if_neg e1]
        rw [fA9 14 _ e1, fA9 15 _ e1, fA9 16 _ e1, el_o _ _ _ _ _ 0 _ (by decide)]
        have hm2 : (eA (z_el e d d2 g D1) 2) = eA e 2 := funext fun r => el_o _ _ _ _ _ 2 _ (by decide)
        rw [hm2]
        exact ⟨(a.2.2.1 _).trans a1, (a.1 _).trans a2, (a.1 _).trans a3, (a.2.2.1 _).trans a4, (a.1 _).trans a5, (a.2.2.1 _).trans a6, (a.1 _).trans a7, (a.2.2.1 _).trans a8, (a.2.2.1 _).trans a9, (a.1 _).trans a10, (a.1 _).trans a11, (a.1 _).trans a12, (a.1 _).trans a13, (a.1 _).trans a14, (a.1 _).trans a15, (a.1 _).trans a16, (a.1 _).trans a17, (a.2.1 _).trans a18⟩
    · rw [e6 2 (by decide)] at hp
      have hpk := zk_p hz hp
      have a := hx3 _ 4 hpk (nu_ne hpk hgk (by decide)) (nu_ne hpk hok (by decide))
      obtain ⟨a1, a2, a3, a4, a5, a6, a7, a8⟩ := zp hz hp
      unfold zPk
      rw [el_o _ _ _ _ _ 2 _ (by decide), fAj 33 _ (by decide), fAj 34 _ (by decide), fAj 35 _ (by decide), fAj 36 _ (by decide), fAj 37 _ (by decide), fAj 38 _ (by decide), fAj 41 _ (by decide)]
      exact ⟨(a.1 _).trans a1, (a.1 _).trans a2, (a.1 _).trans a3, (a.1 _).trans a4, (a.1 _).trans a5, (a.1 _).trans a6, (a.1 _).trans a7, (a.1 _).trans a8⟩
    · unfold zBu
      rw [el_3]
      rcases hB c hc9 with e1 | ⟨e1, e2⟩
      · subst e1
        rw [if_pos rfl, m30, m31, m32, ← hY]
        have h1 : ¬ d2 = eA e 0 g := fun h => hgd2 h.symm
        simp [kI_sI, kI_sR, kI_sJ, kJ_sI, kJ_sR, kJ_sJ, hdd2, h1]
      · rw [if_neg e1, fA9 30 _ e1, fA9 31 _ e1, fB 32 _ (Or.inr e1)]
        have hbk := zk_b hz e2
        have a := hx3 _ 1 hbk (nu_ne hbk hgk (by decide)) (nu_ne hbk hok (by decide))
        obtain ⟨a1, a2, a3⟩ := zbu hz e2
        exact ⟨(a.1 _).trans a1, (a.2.1 _).trans a2, (a.2.1 _).trans a3⟩
    · rw [e61] at hj
      rw [el_Q]
      by_cases e1 : j = eA e 6 1
      · rw [if_pos e1]; trivial
      · rw [if_neg e1]
        have hj2 : j < eA e 6 1 := by omega
        refine chX_to (e := e) (x := x) (fun p hp => ⟨?_, el_o _ _ _ _ _ 2 _ (by decide)⟩) (hz.2.2.1.2.2.2.2.2.1 j hj2)
        rw [el_o _ _ _ _ _ 2 _ (by decide)]
        have hpk := zk_p hz ((hz.1.2.2.1 j hj2).2.2.2.1 p hp).1
        exact (hx3 _ 4 hpk (nu_ne hpk hgk (by decide)) (nu_ne hpk hok (by decide))).2.2.1 208
    · have a := hx _ 5 hok
      obtain ⟨a1, a2, a3, a4, a5⟩ := zsh hz
      unfold zSh
      have e2 : zG (z_el e d d2 g D1) T = zG e t + n := by rw [← hT]; exact el_zG _ _ _ _ _ _ _ _ _ _ _ (by omega)
      rw [e2, fF 1 (by decide), fF 6 (by decide), fL, el_o _ _ _ _ _ 9 _ (by decide)]
      refine ⟨?_, ?_, ?_, ?_, (a.2.1 _).trans a5⟩
      · simp only [kI_sI]; simp; exact (a.1 _).trans a1
      · simp only [kI_sI]; simp; exact (a.1 _).trans a2
      · simp only [kI_sI]; simp; exact (a.1 _).trans a3
      · rw [kI_self, a4, nI_add]
  have hKz : zK G nu2 o e t := zK_nu hX hz.2.1
  have hL1 := hKz.2.1 1 (by decide)
  have ag1 := zAdd_ag hadd hL1 (hX _ _ hgk) (by decide) (by decide)
  have ag2 := zAdd_ag hadd hL1 (hX _ _ hok) (by decide) (by decide)
  have ev1 : kI y 102 (eA e 0 g) = kI x 102 (eA e 0 g) := (ag1.1 _).trans ((hx _ _ hgk).1 _)
  have ev2 : kI y 257 o = kI x 257 o := (ag2.1 _).trans ((hx _ _ hok).1 _)
  rw [ev1, ev2]
  refine zw_made (i := 1) (x2 := Y) (y := y) hz (by decide) hX (fun c q h _ => hx c q h) (fun c q hc9 h1 h2 => ?_) hadd (fun j => el_o _ _ _ _ _ _ _ (by decide)) (fun j => ?_) (fun j hj => ?_) (fun j hj => ?_) (fun c hc9 k hk => ?_) (fun k hk => ?_) hI hK hC (fun c h => ?_) (fun h => h)
  · have c1 : c ≠ d2 := fun h9 => by rw [h9, hnd2] at hc9; cases hc9; omega
    have c2 : c ≠ d := fun h9 => by rw [h9, hnd] at hc9; cases hc9; omega
    have h9 : nu c = some q := by
      rw [← hN, va_up_ne _ _ c1, va_up_ne _ _ c2] at hc9
      exact hc9
    exact ⟨h9, hx3 c q h9 (nu_ne h9 hgk (by omega)) (nu_ne h9 hok (by omega))⟩
  · simp [z_el, eA_fA, eA_fQ]
  · simp [z_el, eA_fA, eA_fQ]
  · simp [z_el, eA_fA, eA_fQ]
  · rcases (show c = 0 ∨ c = 1 ∨ c = 2 by omega) with rfl | rfl | rfl
    · rw [el_o _ _ _ _ _ _ _ (by decide)]; simp
    · rw [el_1]; simp
    · rw [el_o _ _ _ _ _ _ _ (by decide)]; simp
  · rw [el_o _ _ _ _ _ 2 _ (by decide), el_o _ _ _ _ _ 7 _ (by decide)]; simp
  · refine ⟨fun i => ?_, h.2.1, h.2.2.1, h.2.2.2.1, h.2.2.2.2.1, h.2.2.2.2.2.1, h.2.2.2.2.2.2⟩
    simp only [kI_sI, h.1]
theorem lf_sum (hz : zw G nu z o e t x) (hn : n ≤ 1000) (h : ¬ 1000 - kI x 257 o < nI n) : zG e t + n ≤ 1000 := by
  have hzG := hz.1.2.2.2.2.2.2.2.2
  rw [(zsh hz).2.2.2.1, show (1000 : Int32) = nI 1000 from rfl, pk_sub (by omega), nI_ltI (by omega) (by omega)] at h
  omega
end ZO
