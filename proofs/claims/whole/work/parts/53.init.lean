/-! the start -/
/-- a state in which all is 0, and nothing is on the link -/
def z_zero (t : mo_T) : Prop := (∀ j, tF t j = if j = 8 then -1 else 0) ∧ tL t = 0 ∧ (∀ j k, 9 ≤ j → j < 42 → j ≠ 12 → tA t j k = 0 ∧ tB t j k = 0)
def z_e0 (G : kw_G) (d0 d1 d2 d3 : Nat) : kE := (fun c k => if c = 4 then (if k = 0 then d0 else if k = 1 then d1 else if k = 2 then d2 else d3) else if c = 5 then G.2.2.1 else 0, fun _ => [])
theorem tI_0 {t : mo_T} (h0 : z_zero t) (e : kE) (h6 : ∀ k, eA e 6 k = 0) (hQ : ∀ k, eQ e k = []) : tI e t := by
  obtain ⟨hF, hL, hAB⟩ := h0
  have f : ∀ j, j ≠ 8 → tF t j = 0 := fun j hj => by rw [hF, if_neg hj]
  have hz : zL e = 0 := by unfold zL; rw [h6]; rfl
  refine ⟨⟨?_, ?_, ?_, ?_, ⟨0, by omega, by omega, f 1 (by decide)⟩, ⟨0, by omega, by omega, f 7 (by decide)⟩, fun _ => by rw [hF, if_pos rfl], fun h => absurd (f 7 (by decide)) h⟩, fun k hk => ?_, fun k hk => ?_, fun k hk => ?_, fun k hk => ?_, fun k hk => ?_, fun b hb => ?_, ⟨fun k _ _ => ⟨fun j j1 j2 => (hAB j k (by omega) (by omega) (by omega)).1, (hAB 27 k (by omega) (by omega) (by omega)).2⟩, fun g _ _ => ⟨(hAB 10 g (by omega) (by omega) (by omega)).2, (hAB 11 g (by omega) (by omega) (by omega)).2⟩, fun k _ _ => ⟨(hAB 30 _ (by omega) (by omega) (by omega)).1, (hAB 31 _ (by omega) (by omega) (by omega)).1, (hAB 32 _ (by omega) (by omega) (by omega)).2⟩⟩, ?_⟩
  · rw [h6, f 2 (by decide)]; exact ⟨rfl, by omega⟩
  · rw [h6, f 3 (by decide)]; exact ⟨rfl, by omega⟩
  · rw [h6, f 4 (by decide)]; exact ⟨rfl, by omega⟩
  · rw [h6, h6, hz, f 5 (by decide)]; exact ⟨rfl, rfl⟩
  · rw [h6] at hk; omega
  · rw [h6] at hk; omega
  · rw [h6] at hk; omega
  · rw [h6] at hk; omega
  · rw [h6] at hk; omega
  · have g := (hAB 32 b (by omega) (by omega) (by omega)).2
    refine ⟨⟨0, by omega, by omega, (hAB 30 b (by omega) (by omega) (by omega)).1⟩, ⟨0, by omega, by omega, (hAB 31 b (by omega) (by omega) (by omega)).1⟩, ?_, ?_⟩
    · rw [g, Int64.toInt_zero]; omega
    · rw [g, Int64.toInt_zero]; omega
  · unfold zG; rw [h6]; exact Nat.zero_le _
theorem zF_0 {t : mo_T} (h0 : z_zero t) (G : kw_G) (d0 d1 d2 d3 : Nat) : zF (z_e0 G d0 d1 d2 d3) t := ⟨fun _ => by rw [h0.1, if_neg (by decide)]; show nI 0 ≤ 0; decide, fun h => absurd (by rw [h0.1, if_neg (by decide)]) h⟩
/-- a list that has been made -/
def z_lst0 (G : kw_G) (x : kw_St) (d i o : Nat) : kw_St := sR (sR (sI (sNew x d 0) 0 d 0) 1 d (some G.2.2.1)) (250 + i) o (some d)
theorem zw_init {t : mo_T} (ht : z_zero t) {G : kw_G} {nu : Nat → Option Nat} {x : kw_St} {o d0 d1 d2 d3 : Nat} (ho : nu o = some 5) (h11 : nu G.2.2.1 = some 11) (hN : kN x G.2.2.1 = 0) (h0 : nu d0 = none) (h1 : va_up nu d0 (some 0) d1 = none) (h2 : va_up (va_up nu d0 (some 0)) d1 (some 0) d2 = none) (h3 : va_up (va_up (va_up nu d0 (some 0)) d1 (some 0)) d2 (some 0) d3 = none) : zw G (va_up (va_up (va_up (va_up nu d0 (some 0)) d1 (some 0)) d2 (some 0)) d3 (some 0)) x o (z_e0 G d0 d1 d2 d3) t (sJ (sI (sI (sI (sI (z_lst0 G (z_lst0 G (z_lst0 G (z_lst0 G x d0 0 o) d1 1 o) d2 2 o) d3 3 o) 254 o 0) 255 o 0) 256 o 0) 257 o 0) 258 o 0) := by
  have X0 : nuX nu (va_up nu d0 (some 0)) := nuX.up h0
  have X1 := X0.tr (nuX.up (k := 0) h1)
  have X2 := X1.tr (nuX.up (k := 0) h2)
  have X3 := X2.tr (nuX.up (k := 0) h3)
  have k0 : va_up (va_up (va_up (va_up nu d0 (some 0)) d1 (some 0)) d2 (some 0)) d3 (some 0) d0 = some 0 := kw_old h3 (kw_old h2 (kw_old h1 (va_up_self _ _ _)))
  have k1 : va_up (va_up (va_up (va_up nu d0 (some 0)) d1 (some 0)) d2 (some 0)) d3 (some 0) d1 = some 0 := kw_old h3 (kw_old h2 (va_up_self _ _ _))
  have k2 : va_up (va_up (va_up (va_up nu d0 (some 0)) d1 (some 0)) d2 (some 0)) d3 (some 0) d2 = some 0 := kw_old h3 (va_up_self _ _ _)
  have k3 : va_up (va_up (va_up (va_up nu d0 (some 0)) d1 (some 0)) d2 (some 0)) d3 (some 0) d3 = some 0 := va_up_self _ _ _
  have hold : ∀ c q, nu c = some q → c ≠ d0 ∧ c ≠ d1 ∧ c ≠ d2 ∧ c ≠ d3 := fun c q h => ⟨kw_nb h0 h, kw_nb h1 (X0 _ _ h), kw_nb h2 (X1 _ _ h), kw_nb h3 (X2 _ _ h)⟩
  have n01 : d0 ≠ d1 := kw_nb h1 (va_up_self _ _ _)
  have n02 : d0 ≠ d2 := kw_nb h2 (kw_old h1 (va_up_self _ _ _))
  have n12 : d1 ≠ d2 := kw_nb h2 (va_up_self _ _ _)
  have n03 : d0 ≠ d3 := kw_nb h3 (kw_old h2 (kw_old h1 (va_up_self _ _ _)))
  have n13 : d1 ≠ d3 := kw_nb h3 (kw_old h2 (va_up_self _ _ _))
  have n23 : d2 ≠ d3 := kw_nb h3 (va_up_self _ _ _)
  obtain ⟨o0, o1, o2, o3⟩ := hold _ _ ho
  obtain ⟨e0, e1, e2, e3⟩ := hold _ _ h11
  have eo : ∀ k, eA (z_e0 G d0 d1 d2 d3) 6 k = 0 := fun _ => rfl
  have hsm := @nu_ne
  refine ⟨tI_0 ht _ (fun _ => rfl) (fun _ => rfl), ⟨X3 _ _ ho, fun i hi => ?_, fun i hi => ?_, fun i hi => ?_, fun i hi => ?_, fun i hi => ?_, X3 _ _ h11, fun i hi j hj heq => ?_, fun i hi => ?_, fun i hi => ?_, fun i hi => ?_, fun i hi => ?_⟩, ⟨⟨fun i hi => ?_, ?_, fun i hi j hj h10 => ?_, fun i hi k hk => ?_, fun k hk => ?_⟩, fun i hi => ?_, fun i hi => ?_, fun i hi => ?_, fun i hi => ?_, fun i hi => ?_, ?_⟩, fun c q hc g1 g2 => ?_⟩
  · rcases (show i = 0 ∨ i = 1 ∨ i = 2 ∨ i = 3 by omega) with rfl | rfl | rfl | rfl
    · exact k0
    · exact k1
    · exact k2
    · exact k3
  · rw [eo] at hi; omega
  · rw [eo] at hi; omega
  · rw [eo] at hi; omega
  · exfalso
    rcases hi with h | h | h
    · rw [eo] at h; omega
    · rw [eo] at h; omega
    · rw [eo] at h; omega
  · rcases (show i = 0 ∨ i = 1 ∨ i = 2 ∨ i = 3 by omega) with rfl | rfl | rfl | rfl <;> rcases (show j = 0 ∨ j = 1 ∨ j = 2 ∨ j = 3 by omega) with rfl | rfl | rfl | rfl <;> first | rfl | (exfalso; simp [z_e0, eA] at heq; first | exact n01 heq | exact n02 heq | exact n03 heq | exact n12 heq | exact n13 heq | exact n23 heq | exact n01 heq.symm | exact n02 heq.symm | exact n03 heq.symm | exact n12 heq.symm | exact n13 heq.symm | exact n23 heq.symm)
  · rw [eo] at hi; omega
  · rw [eo] at hi; omega
  · rw [eo] at hi; omega
  · exfalso
    rcases hi with h | h | h
    · rw [eo] at h; omega
    · rw [eo] at h; omega
    · rw [eo] at h; omega
  · have q0 := Ne.symm o0
    have q1 := Ne.symm o1
    have q2 := Ne.symm o2
    have q3 := Ne.symm o3
    have m01 := Ne.symm n01
    have m02 := Ne.symm n02
    have m03 := Ne.symm n03
    have m12 := Ne.symm n12
    have m13 := Ne.symm n13
    have m23 := Ne.symm n23
    rcases (show i = 0 ∨ i = 1 ∨ i = 2 ∨ i = 3 by omega) with rfl | rfl | rfl | rfl <;> refine ⟨?_, ?_, ?_, ?_, Or.inl ⟨rfl, rfl⟩⟩ <;> simp [z_lst0, z_e0, eA, kR_sI, kR_sJ, kR_sR, kR_sNew, kI_sI, kI_sJ, kI_sR, kI_sNew, kN_sI, kN_sJ, kN_sR, kN_sNew, o0, o1, o2, o3, e0, e1, e2, e3, n01, n02, n03, n12, n13, n23, q0, q1, q2, q3, m01, m02, m03, m12, m13, m23, hN, nI_0]
  · simp [z_lst0, kN_sI, kN_sJ, kN_sR, kN_sNew, e0, e1, e2, e3, hN]
  · have : eA (z_e0 G d0 d1 d2 d3) 5 i = G.2.2.1 := rfl
    rw [this, X3 _ _ h11] at h10
    cases h10
  · rw [eo] at hk; omega
  · rw [eo] at hk; omega
  · rw [eo] at hi; omega
  · rw [eo] at hi; omega
  · rw [eo] at hi; omega
  · exfalso
    rcases hi with h | h | h
    · rw [eo] at h; omega
    · rw [eo] at h; omega
    · rw [eo] at h; omega
  · rw [eo] at hi; omega
  · have f1 : tF t 1 = 0 := by rw [ht.1, if_neg (by decide)]
    have f6 : tF t 6 = 0 := by rw [ht.1, if_neg (by decide)]
    unfold zSh
    rw [f1, f6, ht.2.1]
    exact ⟨by simp [kI_sI, kI_sJ], by simp [kI_sI, kI_sJ]; rfl, by simp [kI_sI, kI_sJ], by simp [kI_sI, kI_sJ]; rfl, by rw [kJ_self]⟩
  · have c3 : c ≠ d3 := fun h9 => by rw [h9, k3] at hc; cases hc; omega
    have c2 : c ≠ d2 := fun h9 => by rw [h9, k2] at hc; cases hc; omega
    have c1 : c ≠ d1 := fun h9 => by rw [h9, k1] at hc; cases hc; omega
    have c0 : c ≠ d0 := fun h9 => by rw [h9, k0] at hc; cases hc; omega
    have co : c ≠ o := nu_ne hc (X3 _ _ ho) (by omega)
    have st : ∀ (u : kw_St) (d i : Nat), c ≠ d → kw_ag c x u → kw_ag c x (z_lst0 G u d i o) := fun u d i hd hu => ag_sR (ag_sR (ag_sI (ag_sNew hu hd) hd) hd) co
    exact ag_sJ (ag_sI (ag_sI (ag_sI (ag_sI (st _ _ _ c3 (st _ _ _ c2 (st _ _ _ c1 (st _ _ _ c0 kw_ag.rf)))) co) co) co) co) co
