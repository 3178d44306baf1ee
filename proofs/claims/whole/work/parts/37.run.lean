/-! run: each step goes on, and the end does not depend on how the steps are counted -/
section TR
variable {e : kE} {t u v : mo_T} {en : Int32}
theorem lt_toInt {a b : Int32} : a < b ↔ a.toInt < b.toInt := Int32.lt_iff_toInt_lt
theorem le_toInt {a b : Int32} : a ≤ b ↔ a.toInt ≤ b.toInt := Int32.le_iff_toInt_le
theorem begins_1 (t : mo_T) (nl ng nb : Nat) : tF (m_begins t (fpT t) (grT t) nl ng nb) 1 = tF t 1 := by
  unfold m_begins
  split
  · unfold m_excess
    split
    · exact m_outT_F t (fpT t) nl ng 1
    · exact m_outT_F t (fpT t) nl ng 1
  · rfl
theorem sub_toInt {a b : Int32} (h1 : 0 ≤ b.toInt) (h2 : b.toInt ≤ a.toInt) : (a - b).toInt = a.toInt - b.toInt := by
  have := fb_rng a
  exact fb_subI (by omega) (by omega)
theorem n_ok (hI : tI e v) (hlt : tF v 1 < en) (hen : en.toInt ≤ 1000000000) : 1 ≤ (m_n v en).toInt ∧ (m_n v en).toInt ≤ en.toInt - (tF v 1).toInt ∧ (¬ tF v 7 = 0 → (m_n v en).toInt ≤ (tF v 7).toInt) := by
  have h1 := hI.1.2.2.2.2.1.rng (by decide)
  have h7 := hI.1.2.2.2.2.2.1.rng (by decide)
  rw [lt_toInt] at hlt
  have hs : (en - tF v 1).toInt = en.toInt - (tF v 1).toInt := sub_toInt (by omega) (by omega)
  unfold m_n
  by_cases h0 : tF v 7 = 0
  · rw [if_pos h0]
    have : (1 : Int32).toInt = 1 := rfl
    exact ⟨by omega, by omega, fun h => absurd h0 h⟩
  · have h8 : (tF v 7).toInt ≠ 0 := fun e9 => h0 (Int32.toInt_inj.mp (by rw [e9]; rfl))
    rw [if_neg h0]
    by_cases hc : en - tF v 1 ≤ tF v 7
    · rw [if_pos hc]
      rw [le_toInt, hs] at hc
      rw [hs]
      exact ⟨by omega, by omega, fun _ => by omega⟩
    · rw [if_neg hc]
      rw [le_toInt, hs] at hc
      exact ⟨by omega, by omega, fun _ => by omega⟩
theorem step2_ok (hI : tI e v) (hlt : tF v 1 < en) (hen : en.toInt ≤ 1000000000) (hti : en.toInt - (tF v 1).toInt ≤ 100000) : tI e (m_step2 v en) ∧ (tF (m_step2 v en) 1).toInt = (tF v 1).toInt + (m_n v en).toInt := by
  obtain ⟨n1, n2, n3⟩ := n_ok hI hlt hen
  have h1 := hI.1.2.2.2.2.1.rng (by decide)
  have h7 := hI.1.2.2.2.2.2.1.rng (by decide)
  have hb : bd (m_n v en) 0 100000 := bd.of (by omega) (by omega)
  unfold m_step2
  by_cases h0 : tF v 7 ≤ 0
  · rw [if_pos h0]
    refine ⟨tI_pasN hI hb (by omega) 20 (by omega), ?_⟩
    rw [pasN_F, if_pos rfl, fb_addI (by omega) (by omega)]
  · rw [if_neg h0]
    have hb2 := tI_busy hI (v := tF v 6 + m_n v en) (n := m_n v en) n1 (n3 (kw_nle0 h0))
    refine ⟨tI_pasN hb2 hb (show (tF v 1).toInt + _ ≤ _ by omega) 20 (by omega), ?_⟩
    rw [pasN_F, if_pos rfl]
    show (tF v 1 + m_n v en).toInt = _
    rw [fb_addI (by omega) (by omega)]
theorem step_ok (hI : tI e u) (hlt : tF u 1 < en) (hen : en.toInt ≤ 1000000000) (hti : en.toInt - (tF u 1).toInt ≤ 100000) : (∃ e', tI e' (m_step u en)) ∧ (tF u 1).toInt < (tF (m_step u en) 1).toInt ∧ (tF (m_step u en) 1).toInt ≤ en.toInt := by
  have h1 := hI.1.2.2.2.2.1.rng (by decide)
  unfold m_step
  by_cases h0 : m_idN u (nlT u) = true
  · rw [if_pos h0]
    have hlt2 := hlt
    rw [lt_toInt] at hlt2
    have hs : (en - tF u 1).toInt = en.toInt - (tF u 1).toInt := sub_toInt (by omega) (by omega)
    have hb : bd (en - tF u 1) 0 100000 := bd.of (by rw [hs]; omega) (by rw [hs]; omega)
    refine ⟨⟨e, tI_pasN hI hb (by rw [hs]; omega) 20 (by omega)⟩, ?_⟩
    rw [pasN_F, if_pos rfl, fb_addI (by rw [hs]; omega) (by rw [hs]; omega), hs]
    omega
  · rw [if_neg h0]
    by_cases h7 : tF u 7 = 0
    · rw [if_pos h7]
      obtain ⟨e', hI'⟩ := tI_begins hI
      have hf := begins_1 u (nlT u) (ngT u) (nbT u)
      have hlt' : tF (m_begins u (fpT u) (grT u) (nlT u) (ngT u) (nbT u)) 1 < en := by rw [hf]; exact hlt
      obtain ⟨a1, a2⟩ := step2_ok hI' hlt' hen (by rw [hf]; exact hti)
      obtain ⟨b1, b2, -⟩ := n_ok hI' hlt' hen
      rw [hf] at a2 b2
      exact ⟨⟨e', a1⟩, by rw [a2]; omega, by rw [a2]; omega⟩
    · rw [if_neg h7]
      obtain ⟨a1, a2⟩ := step2_ok hI hlt hen hti
      obtain ⟨b1, b2, -⟩ := n_ok hI hlt hen
      exact ⟨⟨e, a1⟩, by rw [a2]; omega, by rw [a2]; omega⟩
/-- what the reference's loop keeps -/
def rI (lo : Int) (u : mo_T) : Prop := (∃ e, tI e u) ∧ lo ≤ (tF u 1).toInt
theorem rI_step {lo : Int} (hen : en.toInt ≤ 1000000000) (hti : en.toInt - lo ≤ 100000) (h : rI lo u) (hlt : tF u 1 < en) : rI lo (m_step u en) ∧ m_mu en (m_step u en) < m_mu en u := by
  obtain ⟨⟨e, hI⟩, hlo⟩ := h
  obtain ⟨a1, a2, a3⟩ := step_ok hI hlt hen (by omega)
  refine ⟨⟨a1, by omega⟩, ?_⟩
  unfold m_mu
  rw [lt_toInt] at hlt
  omega
theorem rI_good {lo : Int} (h : rI lo u) : m_good u := by
  obtain ⟨⟨e, hI⟩, -⟩ := h
  have e1 := tq_nl hI
  have e2 := tq_ng hI
  have e3 := tq_nb hI
  have h5 := hI.1.2.2.2.1.2
  have h6 := hI.1.2.2.1.2
  unfold m_good
  rw [e1, e2, e3]
  refine ⟨hI.1.1, hI.1.2.1, fun k hk hw => ?_, fun k hk => ?_, fun k hk => (hI.2.1 k hk).2.1.pos (by decide) (by decide), fun g hg => (hI.2.2.2.1 g hg).pos (by decide) (by decide), hI.1.2.2.2.1.1, by omega⟩
  · obtain ⟨p, q, hQ⟩ := tq_wait hI hk hw
    obtain ⟨-, -, h3, h4, h7⟩ := tq_cons hI hk hQ
    rw [h3]
    exact ⟨h7, by omega⟩
  · rw [tq_gr hI hk]
    exact (hI.2.1 k hk).1
/-- the end of the run -/
def m_fin (en : Int32) (u : mo_T) : mo_T := m_runN en (m_mu en u) u
theorem runN_stop : ∀ f, ¬ tF u 1 < en → m_runN en f u = u
  | 0, _ => rfl
  | f + 1, h => by rw [m_runN, if_neg h]
theorem runN_fin {lo : Int} (hen : en.toInt ≤ 1000000000) (hti : en.toInt - lo ≤ 100000) : ∀ f (u : mo_T), rI lo u → m_mu en u ≤ f → m_runN en f u = m_fin en u
  | 0, u, h, hf => by
    have : m_mu en u = 0 := by omega
    unfold m_fin
    rw [this]
  | f + 1, u, h, hf => by
    by_cases hlt : tF u 1 < en
    · obtain ⟨a1, a2⟩ := rI_step hen hti h hlt
      rw [m_runN, if_pos hlt, runN_fin hen hti f _ a1 (by omega)]
      unfold m_fin
      obtain ⟨m, hm⟩ : ∃ m, m_mu en u = m + 1 := ⟨m_mu en u - 1, by omega⟩
      rw [hm, m_runN, if_pos hlt]
      rcases Nat.lt_or_ge m (f + 1) with h9 | h9
      · rcases Nat.lt_or_ge m f with h10 | h10
        · have := runN_fin hen hti m _ a1 (by omega)
          rw [this]; rfl
        · have e9 : m = f := by omega
          subst e9
          have := runN_fin hen hti m _ a1 (by omega)
          rw [this]; rfl
      · omega
    · rw [runN_stop _ hlt]
      unfold m_fin
      rw [runN_stop _ hlt]
theorem fin_step {lo : Int} (hen : en.toInt ≤ 1000000000) (hti : en.toInt - lo ≤ 100000) (h : rI lo u) (hlt : tF u 1 < en) : m_fin en u = m_fin en (m_step u en) := by
  obtain ⟨a1, a2⟩ := rI_step hen hti h hlt
  obtain ⟨m, hm⟩ : ∃ m, m_mu en u = m + 1 := ⟨m_mu en u - 1, by omega⟩
  have e1 : m_fin en u = m_runN en m (m_step u en) := by
    unfold m_fin
    rw [hm, m_runN, if_pos hlt]
  rw [e1]
  exact runN_fin hen hti m _ a1 (by omega)
theorem fin_stop (h : ¬ tF u 1 < en) : m_fin en u = u := runN_stop _ h
end TR
