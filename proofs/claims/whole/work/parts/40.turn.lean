/-! a turn of the class's run -/
section TT
variable {G : kw_G} {nu : Nat → Option Nat} {z x : kw_St} {o : Nat} {e : kE} {t T : mo_T} {en : Int32} {k b p n tN : Nat} {q : List Nat}
theorem z_wi1 (h1 : 1 ≤ tN) (h2 : tN ≤ 100000) : kw_wi (nI tN) 1 100000 = true := by
  rw [kw_wi_iff]
  exact ⟨nI_le (a := 1) h1 (by omega), nI_le (b := 100000) h2 (by omega)⟩
theorem z_en (hI : tI e t) (h2 : tN ≤ 100000) (hno : (tF t 1).toInt + tN ≤ 1000000000) : (tF t 1 + nI tN).toInt = (tF t 1).toInt + tN := by
  have h1 := hI.1.2.2.2.2.1.rng (by decide)
  rw [fb_addI (by rw [nI_toInt (by omega)]; omega) (by rw [nI_toInt (by omega)]; omega), nI_toInt (by omega)]
theorem z_last (h1 : 1 ≤ tN) (h2 : tN ≤ 100000) (hno : (tF t 1).toInt + tN ≤ 1000000000) : tF t 1 ≤ 1000000000 - nI tN := by
  rw [le_toInt, show (1000000000 : Int32) = nI 1000000000 from rfl, pk_sub (by omega), nI_toInt (by omega)]
  omega
/-- what begins is on the link behind it -/
theorem step_due (hI : tI e T) (h7 : tF T 7 = 0) (hd : m_due T (fpT T) (eA e 6 1) = some b) : m_step T en = m_step2 (m_dsend T (fpT T) (grT T) b (eA e 6 3)) en := by
  obtain ⟨h1, -, p, q, hQ⟩ := due_some hI hd
  unfold m_step
  rw [if_neg (id_false hI h1 (tq_cons hI h1 hQ).1), if_pos h7, begins_e hI]
  unfold m_begins
  rw [hd]
theorem step_exc (hI : tI e T) (h7 : tF T 7 = 0) (hd : m_due T (fpT T) (eA e 6 1) = none) (hb : m_best T (fpT T) (grT T) (eA e 6 1) (eA e 6 0) = some b) : m_step T en = m_step2 (m_xs (z_hN T 1 (eA e 6 1)) T (fpT T) (grT T) b (eA e 6 3)) en := by
  obtain ⟨h1, p, q, hQ⟩ := best_some hI hb
  unfold m_step
  rw [if_neg (id_false hI h1 (tq_cons hI h1 hQ).1), if_pos h7, begins_e hI, hN_outT hI]
  unfold m_begins
  rw [hd]
  dsimp only
  unfold m_excess
  rw [hb]
theorem step_busy (hI : tI e T) (h7 : ¬ tF T 7 = 0) : m_step T en = m_step2 T en := by
  have hid : ¬ m_idN T (nlT T) = true := by
    have : ∀ n, ¬ m_idN T n = true := by
      intro n
      induction n with
      | zero => simp [m_idN, h7]
      | succ n ih =>
        intro h9
        simp only [m_idN, Bool.and_eq_true] at h9
        exact ih h9.1
    exact this _
  unfold m_step
  rw [if_neg hid, if_neg h7]
theorem due_7 (hI : tI e T) (hd : m_due T (fpT T) (eA e 6 1) = some b) : ¬ tF (m_dsend T (fpT T) (grT T) b (eA e 6 3)) 7 = 0 ∧ tF (m_dsend T (fpT T) (grT T) b (eA e 6 3)) 1 = tF T 1 := by
  obtain ⟨h1, -, p, q, hQ⟩ := due_some hI hd
  obtain ⟨-, -, h3, h4, -⟩ := tq_cons hI h1 hQ
  refine ⟨fun h9 => ?_, rfl⟩
  have h8 : tA T 34 (fpT T b) = 0 := h9
  obtain ⟨s, s1, s2, es⟩ := (hI.2.2.2.2.1 p h4).1
  rw [h3, es] at h8
  exact nI_ne0 (by omega) (by omega) h8
theorem exc_7 (hI : tI e T) (hb : m_best T (fpT T) (grT T) (eA e 6 1) (eA e 6 0) = some b) : ¬ tF (m_xs (z_hN T 1 (eA e 6 1)) T (fpT T) (grT T) b (eA e 6 3)) 7 = 0 ∧ tF (m_xs (z_hN T 1 (eA e 6 1)) T (fpT T) (grT T) b (eA e 6 3)) 1 = tF T 1 := by
  obtain ⟨h1, p, q, hQ⟩ := best_some hI hb
  obtain ⟨-, -, h3, h4, -⟩ := tq_cons hI h1 hQ
  refine ⟨fun h9 => ?_, hN_F T 1 _ 1⟩
  have h8 : tA (z_hN T 1 (eA e 6 1)) 34 (fpT T b) = 0 := h9
  rw [(hN_He T 1 _).2.2.1 34 _ (by decide)] at h8
  obtain ⟨s, s1, s2, es⟩ := (hI.2.2.2.2.1 p h4).1
  rw [h3, es] at h8
  exact nI_ne0 (by omega) (by omega) h8
/-- the row of the begun grows: cells and slots that it has taken -/
theorem z_room {c n ce sl : Nat} (hce : ce ≤ c) (hsl : sl ≤ 4 * c) (hc : c = 0 ∧ n = 0 ∨ n ≤ c ∧ 10 ≤ c ∧ c ≤ 768) (hn : n < 512) : ce + zc c n ≤ zcap c n ∧ sl + zs c n ≤ 4 * zcap c n ∧ zcap c n ≤ 768 := by
  unfold zc zs zcap kw_nc
  by_cases h : c = n
  · subst h
    simp only [if_true]
    by_cases h0 : c = 0
    · simp only [h0, if_true]; omega
    · simp only [h0, if_false]; omega
  · simp only [h, if_false]; omega
theorem z_cap (hz : zw G nu z o e t x) : eA e 10 3 = 0 ∧ eA e 6 3 = 0 ∨ eA e 6 3 ≤ eA e 10 3 ∧ 10 ≤ eA e 10 3 ∧ eA e 10 3 ≤ 768 := by
  obtain ⟨-, -, -, h2, h1⟩ := hz.2.2.1.1.1 3 (by decide)
  rcases h1 with h1 | h1
  · refine Or.inl ⟨?_, h1.2⟩
    rw [← h2, h1.1]
    exact hz.2.2.1.1.2.1
  · exact Or.inr h1.2
theorem z_cap9 (hz : zw G nu z o e t x) : eA e 10 3 ≤ 768 := by
  have := z_cap hz
  omega
/-- behind a turn in which nothing began -/
theorem idle_fin {lo : Int} (hen : en.toInt ≤ 1000000000) (hti : en.toInt - lo ≤ 100000) (hlo : lo ≤ (tF T 1).toInt) (hI : tI e T) (h7 : tF T 7 = 0) (hlt : tF T 1 < en) (hd : m_due T (fpT T) (eA e 6 1) = none) (hb : m_best T (fpT T) (grT T) (eA e 6 1) (eA e 6 0) = none) (hn0 : 0 < n) (hle : (tF T 1).toInt + n ≤ en.toInt) (hno : zNo e T n) (hall : (∀ k, k < eA e 6 1 → tA T 19 k = 0) → nI n = en - tF T 1) : m_fin en T = m_fin en (z_S e T n) := by
  by_cases h : ∃ k, k < eA e 6 1 ∧ ¬ tA T 19 k = 0
  · obtain ⟨k, hk, hw⟩ := h
    exact leap hen hti hlo hI h7 hd hb hk hw n hno hn0 hle
  · have hz : ∀ k, k < eA e 6 1 → tA T 19 k = 0 := fun k hk => Classical.byContradiction fun h9 => h ⟨k, hk, h9⟩
    have e1 : z_hN T (nI n) (eA e 6 1) = T := by
      have hh : ∀ k, k < eA e 6 1 → ¬ hld T k = true := fun k hk => by simp [hld, hz k hk]
      have hHe := hN_He T (nI n) (eA e 6 1)
      refine mo_ext hHe.1 hHe.2.1 (fun j k => ?_) hHe.2.2.2
      by_cases hj : j = 26
      · subst hj
        rw [hN_26, if_neg (fun h9 => hh k h9.1 h9.2)]
      · exact hHe.2.2.1 j k hj
    rw [fin_step hen hti ⟨⟨e, hI⟩, hlo⟩ hlt]
    unfold m_step z_S
    rw [if_pos (id_true hI h7 hz), e1, hall hz]
theorem idle_F (hF : zF e T) (hI : tI e T) (h7 : tF T 7 = 0) (hn : n ≤ 100000) (hnow : (tF T 1).toInt + n ≤ 1000000000) : zF e (z_S e T n) := by
  have h1 := hI.1.2.2.2.2.1.rng (by decide)
  have h2 := hF.1 h7
  unfold zF
  rw [z_S_F, z_S_F, if_neg (by decide), if_pos rfl]
  refine ⟨fun _ => ?_, fun h9 => absurd h7 h9⟩
  rw [le_toInt] at h2 ⊢
  have e9 : (nI n).toInt = (n : Int) := nI_toInt (by omega)
  rw [fb_addI (by rw [e9]; omega) (by rw [e9]; omega), e9]
  omega
theorem S_now (hI : tI e T) (hn : n ≤ 100000) (hnow : (tF T 1).toInt + n ≤ 1000000000) : (tF (z_S e T n) 1).toInt = (tF T 1).toInt + n := by
  have h1 := hI.1.2.2.2.2.1.rng (by decide)
  rw [z_S_F, if_pos rfl, fb_addI (by rw [nI_toInt (by omega)]; omega) (by rw [nI_toInt (by omega)]; omega), nI_toInt (by omega)]
end TT
