/-! the relation behind an addition -/
section ZA
variable {G : kw_G} {nu nu' : Nat → Option Nat} {z x y : kw_St} {o : Nat} {e e' : kE} {t : mo_T} {i n el D1 : Nat}
/-- the cells hold the same -/
theorem zC_ag (hK : zK G nu o e t) (hm : ∀ k, k < eA e 6 1 → ∀ p, p ∈ eQ e k → p < eA e 6 2) (h : ∀ b r, nu b = some r → 1 ≤ r → r ≤ 5 → kw_ag b x y) (hC : zC o e t x) : zC o e t y := by
  refine ⟨fun g hg => ?_, fun k hk => ?_, fun p hp => ?_, fun b hb => ?_, fun k hk => ?_, ?_⟩
  · have a := h _ 2 (hK.2.2.1 g hg) (by decide) (by decide)
    obtain ⟨c1, c2, c3, c4, c5, c6⟩ := hC.1 g hg
    exact ⟨(a.1 _).trans c1, (a.2.2.1 _).trans c2, (a.1 _).trans c3, (a.1 _).trans c4, (a.2.1 _).trans c5, (a.2.1 _).trans c6⟩
  · have a := h _ 3 (hK.2.2.2.1 k hk) (by decide) (by decide)
    obtain ⟨a1, a2, a3, a4, a5, a6, a7, a8, a9, a10, a11, a12, a13, a14, a15, a16, a17, a18⟩ := hC.2.1 k hk
    exact ⟨(a.2.2.1 _).trans a1, (a.1 _).trans a2, (a.1 _).trans a3, (a.2.2.1 _).trans a4, (a.1 _).trans a5, (a.2.2.1 _).trans a6, (a.1 _).trans a7, (a.2.2.1 _).trans a8, (a.2.2.1 _).trans a9, (a.1 _).trans a10, (a.1 _).trans a11, (a.1 _).trans a12, (a.1 _).trans a13, (a.1 _).trans a14, (a.1 _).trans a15, (a.1 _).trans a16, (a.1 _).trans a17, (a.2.1 _).trans a18⟩
  · have a := h _ 4 (hK.2.2.2.2.1 p hp) (by decide) (by decide)
    obtain ⟨a1, a2, a3, a4, a5, a6, a7, a8⟩ := hC.2.2.1 p hp
    exact ⟨(a.1 _).trans a1, (a.1 _).trans a2, (a.1 _).trans a3, (a.1 _).trans a4, (a.1 _).trans a5, (a.1 _).trans a6, (a.1 _).trans a7, (a.1 _).trans a8⟩
  · have a := h _ 1 (hK.2.2.2.2.2.1 b hb) (by decide) (by decide)
    obtain ⟨a1, a2, a3⟩ := hC.2.2.2.1 b hb
    exact ⟨(a.1 _).trans a1, (a.2.1 _).trans a2, (a.2.1 _).trans a3⟩
  · refine chX_to (e := e) (x := x) (fun p hp => ⟨?_, rfl⟩) (hC.2.2.2.2.1 k hk)
    exact (h _ 4 (hK.2.2.2.2.1 p (hm k hk p hp)) (by decide) (by decide)).2.2.1 _
  · have a := h _ 5 hK.1 (by decide) (by decide)
    obtain ⟨a1, a2, a3, a4, a5⟩ := hC.2.2.2.2.2
    exact ⟨(a.1 _).trans a1, (a.1 _).trans a2, (a.1 _).trans a3, (a.1 _).trans a4, (a.2.1 _).trans a5⟩
theorem zLs_ag (hK : zK G nu o e t) (h : ∀ b r, nu b = some r → r = 0 ∨ r = 5 ∨ r = 10 ∨ r = 11 → kw_ag b x y) (hL : zLs G nu o e x) : zLs G nu o e y := by
  have he := (h _ 11 hK.2.2.2.2.2.2.1 (by decide)).2.2.2.2.2.2
  refine ⟨fun i hi => ?_, he.trans hL.2.1, hL.2.2.1, fun i hi k hk => ?_, fun k hk => ?_⟩
  · obtain ⟨c1, c2, c3, c5, c4⟩ := hL.1 i hi
    have a := h _ 5 hK.1 (by decide)
    have b := h _ 0 (hK.2.1 i hi) (by decide)
    refine ⟨(a.2.2.1 _).trans c1, (b.2.2.1 _).trans c2, (b.1 _).trans c3, Eq.trans ?_ c5, c4⟩
    rcases c4 with c4 | c4
    · rw [c4.1]; exact he
    · exact (h _ 10 c4.1 (by decide)).2.2.2.2.2.2
  · obtain ⟨c1, c2, c3, c5, c4⟩ := hL.1 i (by omega)
    rcases c4 with c4 | c4
    · omega
    · rw [(h _ 10 c4.1 (by decide)).2.2.2.2.2.1]
      exact hL.2.2.2.1 i hi k hk
  · obtain ⟨c1, c2, c3, c5, c4⟩ := hL.1 3 (by omega)
    rcases c4 with c4 | c4
    · omega
    · rw [(h _ 10 c4.1 (by decide)).2.2.2.2.2.1]
      exact hL.2.2.2.2 k hk
/-- kinds stay, though there are more cells -/
theorem zK_nu (hX : nuX nu nu') (hK : zK G nu o e t) : zK G nu' o e t := ⟨hX _ _ hK.1, fun i hi => hX _ _ (hK.2.1 i hi), fun i hi => hX _ _ (hK.2.2.1 i hi), fun i hi => hX _ _ (hK.2.2.2.1 i hi), fun i hi => hX _ _ (hK.2.2.2.2.1 i hi), fun i hi => hX _ _ (hK.2.2.2.2.2.1 i hi), hX _ _ hK.2.2.2.2.2.2.1, hK.2.2.2.2.2.2.2⟩
/-- what an addition leaves alone -/
theorem zAdd_ag {L D : Nat} (hadd : zAdd nu x L D n el nu' y D1) (hL : nu L = some 0) {b r : Nat} (hb : nu b = some r) (hr : r ≠ 0) (hr2 : r ≠ 10) : kw_ag b x y := by
  refine hadd.1 b (nu_ne hb hL hr) (nu_ne (hadd.nu _ _ hb) hadd.2.2.1 hr2)
theorem zLs_add (hi : i < 4) (hK : zK G nu o e t) (hLs : zLs G nu o e x) (hadd : zAdd nu x (eA e 4 i) (eA e 5 i) (eA e 6 i) el nu' y D1) (h4 : ∀ j, eA e' 4 j = eA e 4 j) (h5 : ∀ j, eA e' 5 j = if j = i then D1 else eA e 5 j) (h6 : ∀ j, j < 4 → eA e' 6 j = if j = i then eA e 6 i + 1 else eA e 6 j) (h10 : ∀ j, j < 4 → eA e' 10 j = if j = i then zcap (eA e 10 i) (eA e 6 i) else eA e 10 j) (hE : ∀ c, c < 3 → ∀ k, k < eA e' 6 c → eA e' c k = if c = i ∧ k = eA e 6 i then el else eA e c k) (hE3 : ∀ k, k < eA e' 6 3 → eA e' 2 (eA e' 7 k) = if 3 = i ∧ k = eA e 6 3 then el else eA e 2 (eA e 7 k)) : zLs G nu' o e' y := by
  have hLi := hK.2.1 i hi
  have hX := hadd.nu
  -- a row that isn't the one added to
  have hrow : ∀ j, j < 4 → j ≠ i → eA e 5 j ≠ D1 ∧ kw_ag (eA e 5 j) x y := by
    intro j hj hne
    have hkind : ∃ r, nu (eA e 5 j) = some r ∧ r ≠ 0 := by
      rcases (hLs.1 j hj).2.2.2.2 with c | c
      · exact ⟨11, by rw [c.1]; exact hK.2.2.2.2.2.2.1, by decide⟩
      · exact ⟨10, c.1, by decide⟩
    obtain ⟨r, hr, hr0⟩ := hkind
    have hne1 : eA e 5 j ≠ D1 := by
      rcases hadd.2.1 with ⟨q1, q2⟩ | ⟨q1, q2⟩
      · intro e9
        have h10 : nu D1 = some 10 := by rw [← q1]; exact hadd.2.2.1
        rw [q2] at e9 h10
        exact hne (hLs.2.2.1 j hj i hi (by rw [e9]; exact h10) e9)
      · exact kw_nb q1 hr
    exact ⟨hne1, hadd.1 _ (nu_ne hr hLi hr0) hne1⟩
  have he : kw_ag G.2.2.1 x y := zAdd_ag hadd hLi hK.2.2.2.2.2.2.1 (by decide) (by decide)
  have ho : kw_ag o x y := zAdd_ag hadd hLi hK.1 (by decide) (by decide)
  refine ⟨fun j hj => ?_, he.2.2.2.2.2.2.trans hLs.2.1, fun j hj k hk hk10 heq => ?_, fun c hc k hk => ?_, fun k hk => ?_⟩
  · obtain ⟨c1, c2, c3, c5, c4⟩ := hLs.1 j hj
    rw [h4, h5, h6 j hj, h10 j hj]
    refine ⟨(ho.2.2.1 _).trans c1, ?_⟩
    by_cases hji : j = i
    · subst hji
      simp only [if_true]
      have ec := hadd.2.2.2.2.2.2.2.2.2.2
      rw [c5] at ec
      rw [← ec]
      exact ⟨hadd.2.2.2.1, hadd.2.2.2.2.1, rfl, Or.inr ⟨hadd.2.2.1, hadd.2.2.2.2.2.2.2.1, hadd.2.2.2.2.2.2.2.2.1, hadd.2.2.2.2.2.2.2.2.2.1⟩⟩
    · simp only [if_neg hji]
      have hLj : kw_ag (eA e 4 j) x y := hadd.1 _ (fun e9 => hji (hK.2.2.2.2.2.2.2.1 j hj i hi e9)) (nu_ne (hX _ _ (hK.2.1 j hj)) hadd.2.2.1 (by decide))
      refine ⟨(hLj.2.2.1 _).trans c2, (hLj.1 _).trans c3, (hrow j hj hji).2.2.2.2.2.2.2.trans c5, ?_⟩
      rcases c4 with c4 | c4
      · exact Or.inl c4
      · exact Or.inr ⟨hX _ _ c4.1, c4.2⟩
  · rw [h5] at hk10
    rw [h5, h5] at heq
    by_cases hji : j = i
    · by_cases hki : k = i
      · rw [hji, hki]
      · rw [if_pos hji, if_neg hki] at heq
        exact absurd heq.symm (hrow k hk hki).1
    · rw [if_neg hji] at hk10 heq
      by_cases hki : k = i
      · rw [if_pos hki] at heq
        exact absurd heq (hrow j hj hji).1
      · rw [if_neg hki] at heq
        refine hLs.2.2.1 j hj k hk ?_ heq
        rcases (hLs.1 j hj).2.2.2.2 with c | c
        · rw [c.1, hX _ _ hK.2.2.2.2.2.2.1] at hk10
          cases hk10
        · exact c.1
  · rw [hE c hc k hk, h5]
    have hk2 := hk
    rw [h6 c (by omega)] at hk2
    by_cases hci : c = i
    · subst hci
      simp only [if_true] at hk2 ⊢
      by_cases hkn : k = eA e 6 c
      · subst hkn
        simp only [and_self, if_true]
        exact hadd.2.2.2.2.2.2.1
      · simp only [hkn, and_false, if_false]
        rw [hadd.2.2.2.2.2.1 k (by omega)]
        exact hLs.2.2.2.1 c hc k (by omega)
    · simp only [hci, if_false, false_and] at hk2 ⊢
      rw [(hrow c (by omega) hci).2.2.2.2.2.2.1]
      exact hLs.2.2.2.1 c hc k hk2
  · rw [hE3 k hk, h5]
    have hk2 := hk
    rw [h6 3 (by omega)] at hk2
    by_cases hci : 3 = i
    · subst hci
      simp only [if_true] at hk2 ⊢
      by_cases hkn : k = eA e 6 3
      · subst hkn
        simp only [and_self, if_true]
        exact hadd.2.2.2.2.2.2.1
      · simp only [hkn, and_false, if_false]
        rw [hadd.2.2.2.2.2.1 k (by omega)]
        exact hLs.2.2.2.2 k (by omega)
    · simp only [hci, if_false, false_and] at hk2 ⊢
      rw [(hrow 3 (by omega) hci).2.2.2.2.2.2.1]
      exact hLs.2.2.2.2 k hk2
end ZA
