/-! the reference's step keeps the invariant; many ticks in which nothing can go are one leap -/
section TS
variable {e : kE} {t : mo_T} {k b p : Nat} {q : List Nat}
theorem tq_nil (hI : tI e t) (h : k < eA e 6 1) (hQ : eQ e k = []) : tA t 19 k = 0 := by
  have h2 := (hI.2.2.1 k h).1
  rw [hQ] at h2
  exact h2
theorem tq_cons (hI : tI e t) (h : k < eA e 6 1) (hQ : eQ e k = p :: q) : ¬ tA t 19 k = 0 ∧ ¬ tA t 19 k ≤ 0 ∧ fpT t k = p ∧ p < eA e 6 2 ∧ tA t 17 k = nI p := by
  obtain ⟨h2, h3, -, h4, h5, -⟩ := hI.2.2.1 k h
  have hp := (h4 p (by rw [hQ]; exact List.mem_cons_self)).1
  have hlen : (eQ e k).length ≤ 1000000 := by
    have h6 : (eQ e k).length ≤ zL e := zsum_ge (f := fun k => (eQ e k).length) h
    have h7 := hI.1.2.2.2.1.2
    have h8 := hI.1.2.2.1.2
    omega
  rw [hQ] at h2 h3 hlen
  simp only [List.length_cons] at h2 hlen
  have hnp := hI.1.2.2.1.2
  refine ⟨?_, ?_, ?_, hp, h3⟩
  · rw [h2]; exact nI_ne0 (by omega) (by omega)
  · rw [h2]; exact nI_nle (by omega) (by omega)
  · unfold fpT; rw [h3]; exact nI_clamp (by omega)
theorem tq_wait (hI : tI e t) (h : k < eA e 6 1) (hw : ¬ tA t 19 k = 0) : ∃ p q, eQ e k = p :: q := by
  cases hQ : eQ e k with
  | nil => exact absurd (tq_nil hI h hQ) hw
  | cons p q => exact ⟨p, q, rfl⟩
theorem tq_gr (hI : tI e t) (h : k < eA e 6 1) : grT t k = eA e 8 k := by
  unfold grT
  have := (hI.2.1 k h).1.2
  have := hI.1.1.2
  rw [(hI.2.1 k h).1.1, nI_clamp (by omega)]
theorem tq_nl (hI : tI e t) : nlT t = eA e 6 1 := by
  unfold nlT; rw [hI.1.2.1.1]; exact nI_clamp (by have := hI.1.2.1.2; omega)
theorem tq_ng (hI : tI e t) : ngT t = eA e 6 0 := by
  unfold ngT; rw [hI.1.1.1]; exact nI_clamp (by have := hI.1.1.2; omega)
theorem tq_nb (hI : tI e t) : nbT t = eA e 6 3 := by
  unfold nbT; rw [hI.1.2.2.2.1.1]; exact nI_clamp (by have := hI.1.2.2.2.1.2; have := hI.1.2.2.1.2; omega)
/-- class k is held -/
def hld (t : mo_T) (k : Nat) : Bool := decide (¬ tA t 19 k = 0) && !(m_rd t (fpT t) (grT t k) k)
theorem zHe_hld {T t : mo_T} (h : zHe T t) (k : Nat) : hld T k = hld t k := by
  unfold hld m_rd
  rw [(h.tg k).1, (h.tg k).2.1, h.2.2.1 19 k (by decide), h.2.2.1 34 _ (by decide), h.2.2.2, h.2.2.2]
theorem hN_26 (t : mo_T) (ti : Int32) : ∀ n k, tA (z_hN t ti n) 26 k = if k < n ∧ hld t k = true then tA t 26 k + ti else tA t 26 k
  | 0, k => by rw [if_neg (by omega)]; rfl
  | n + 1, k => by
    have ih := hN_26 t ti n
    have hh : hld (z_hN t ti n) n = hld t n := zHe_hld (hN_He t ti n) n
    have e0 : z_hN t ti (n + 1) = if hld (z_hN t ti n) n = true then uA (z_hN t ti n) 26 n (tA (z_hN t ti n) 26 n + ti) else z_hN t ti n := rfl
    rw [e0, hh]
    by_cases h1 : hld t n = true
    · rw [if_pos h1, tA_uA, if_pos rfl]
      by_cases h2 : k = n
      · subst h2
        rw [if_pos rfl, ih, if_neg (by omega), if_pos ⟨Nat.lt_succ_self _, h1⟩]
      · rw [if_neg h2, ih]
        by_cases h3 : k < n ∧ hld t k = true
        · rw [if_pos h3, if_pos ⟨by omega, h3.2⟩]
        · rw [if_neg h3, if_neg (fun h => h3 ⟨by omega, h.2⟩)]
    · rw [if_neg h1, ih]
      by_cases h2 : k = n
      · subst h2
        rw [if_neg (by omega), if_neg (fun h => h1 h.2)]
      · by_cases h3 : k < n ∧ hld t k = true
        · rw [if_pos h3, if_pos ⟨by omega, h3.2⟩]
        · rw [if_neg h3, if_neg (fun h => h3 ⟨by omega, h.2⟩)]
theorem inT_26 (t : mo_T) (fp : Nat → Nat) (g : Nat) (t0 : mo_T) : ∀ n k, tA (m_inT t fp g t0 n) 26 k = if k < n ∧ (m_wt t g k && !(m_rd t fp g k)) = true then tA t0 26 k + 1 else tA t0 26 k
  | 0, k => by rw [if_neg (by omega)]; rfl
  | n + 1, k => by
    have ih := inT_26 t fp g t0 n
    rw [m_inT]
    by_cases h1 : (m_wt t g n && !(m_rd t fp g n)) = true
    · rw [if_pos h1, tA_uA, if_pos rfl]
      by_cases h2 : k = n
      · subst h2
        rw [if_pos rfl, ih, if_neg (by omega), if_pos ⟨Nat.lt_succ_self _, h1⟩]
      · rw [if_neg h2, ih]
        by_cases h3 : k < n ∧ (m_wt t g k && !(m_rd t fp g k)) = true
        · rw [if_pos h3, if_pos ⟨by omega, h3.2⟩]
        · rw [if_neg h3, if_neg (fun h => h3 ⟨by omega, h.2⟩)]
    · rw [if_neg h1, ih]
      by_cases h2 : k = n
      · subst h2
        rw [if_neg (by omega), if_neg (fun h => h1 h.2)]
      · by_cases h3 : k < n ∧ (m_wt t g k && !(m_rd t fp g k)) = true
        · rw [if_pos h3, if_pos ⟨by omega, h3.2⟩]
        · rw [if_neg h3, if_neg (fun h => h3 ⟨by omega, h.2⟩)]
theorem outT_26 (hI : tI e t) : ∀ g k, g ≤ 4 → tA (m_outT t (fpT t) (eA e 6 1) g) 26 k = if k < eA e 6 1 ∧ eA e 8 k < g ∧ hld t k = true then tA t 26 k + 1 else tA t 26 k
  | 0, k, _ => by rw [if_neg (by omega)]; rfl
  | g + 1, k, hg => by
    have ih := outT_26 hI g k (by omega)
    rw [m_outT, inT_26, ih]
    by_cases hk : k < eA e 6 1
    · have h13 := (hI.2.1 k hk).1.1
      have h8 := (hI.2.1 k hk).1.2
      have hng := hI.1.1.2
      have hgr := tq_gr hI hk
      by_cases h1 : eA e 8 k = g
      · have e1 : m_wt t g k = decide (¬ tA t 19 k = 0) := by simp [m_wt, h13, h1]
        have e2 : (m_wt t g k && !(m_rd t (fpT t) g k)) = hld t k := by rw [e1]; unfold hld; rw [hgr, h1]
        rw [e2, if_neg (c := k < eA e 6 1 ∧ eA e 8 k < g ∧ hld t k = true) (by omega)]
        by_cases h2 : hld t k = true
        · rw [if_pos ⟨hk, h2⟩, if_pos ⟨hk, by omega, h2⟩]
        · rw [if_neg (fun h => h2 h.2), if_neg (fun h => h2 h.2.2)]
      · have e1 : m_wt t g k = false := by
          have : ¬ tA t 13 k = nI g := by rw [h13, nI_eq (by omega) (by omega)]; exact h1
          simp [m_wt, this]
        rw [e1]
        simp only [Bool.false_and, Bool.false_eq_true, and_false, if_false]
        by_cases h2 : eA e 8 k < g ∧ hld t k = true
        · rw [if_pos ⟨hk, h2⟩, if_pos ⟨hk, by omega, h2.2⟩]
        · rw [if_neg (fun h => h2 h.2), if_neg (fun h => h2 ⟨by omega, h.2.2⟩)]
    · rw [if_neg (fun h => hk h.1), if_neg (fun h => hk h.1), if_neg (fun h => hk h.1)]
theorem hN_outT (hI : tI e t) : z_hN t 1 (eA e 6 1) = m_outT t (fpT t) (eA e 6 1) (eA e 6 0) := by
  have h := hN_He t 1 (eA e 6 1)
  refine mo_ext (fun j => ?_) ?_ (fun j k => ?_) (fun j k => ?_)
  · rw [h.1, m_outT_F]
  · rw [h.2.1, m_outT_L]
  · by_cases hj : j = 26
    · subst hj
      rw [hN_26, outT_26 hI _ _ hI.1.1.2]
      by_cases hk : k < eA e 6 1
      · have h8 := (hI.2.1 k hk).1.2
        by_cases h2 : hld t k = true
        · rw [if_pos ⟨hk, h2⟩, if_pos ⟨hk, h8, h2⟩]
        · rw [if_neg (fun h => h2 h.2), if_neg (fun h => h2 h.2.2)]
      · rw [if_neg (fun h => hk h.1), if_neg (fun h => hk h.1)]
    · rw [h.2.2.1 j k hj, m_outT_A t (fpT t) _ _ hj]
  · rw [h.2.2.2, m_outT_B]
theorem tI_hN (hI : tI e t) (ti : Int32) : ∀ n, n ≤ eA e 6 1 → tI e (z_hN t ti n)
  | 0, _ => hI
  | n + 1, h => by
    rw [z_hN]
    split
    · exact tI_held (tI_hN hI ti n (by omega)) (by omega) _
    · exact tI_hN hI ti n (by omega)
theorem best_some (hI : tI e t) (h : m_best t (fpT t) (grT t) (eA e 6 1) (eA e 6 0) = some b) : b < eA e 6 1 ∧ ∃ p q, eQ e b = p :: q := by
  obtain ⟨h1, g, -, h3⟩ := m_best_some h
  exact ⟨h1, tq_wait hI h1 (exf_w h3).1⟩
theorem due_some (hI : tI e t) (h : m_due t (fpT t) (eA e 6 1) = some b) : b < eA e 6 1 ∧ m_duf t (fpT t) b = true ∧ ∃ p q, eQ e b = p :: q := by
  obtain ⟨h1, h2⟩ := m_am_some h
  refine ⟨h1, h2, tq_wait hI h1 ?_⟩
  simp only [m_duf, Bool.and_eq_true, decide_eq_true_eq] at h2
  exact kw_nle0 h2.1
/-- what begins, with the numbers of e -/
theorem begins_e (hI : tI e t) : m_begins t (fpT t) (grT t) (nlT t) (ngT t) (nbT t) = m_begins t (fpT t) (grT t) (eA e 6 1) (eA e 6 0) (eA e 6 3) := by rw [tq_nl hI, tq_ng hI, tq_nb hI]
theorem tI_begins (hI : tI e t) : ∃ e', tI e' (m_begins t (fpT t) (grT t) (nlT t) (ngT t) (nbT t)) := by
  rw [begins_e hI]
  unfold m_begins
  cases hd : m_due t (fpT t) (eA e 6 1) with
  | some b =>
    obtain ⟨h1, h2, p, q, hQ⟩ := due_some hI hd
    obtain ⟨-, -, h3, h4, -⟩ := tq_cons hI h1 hQ
    exact ⟨_, tI_due hI h1 hQ h3 (tq_gr hI h1) h4 h2⟩
  | none =>
    have hO : tI e (m_outT t (fpT t) (eA e 6 1) (eA e 6 0)) := by
      rw [← hN_outT hI]
      exact tI_hN hI 1 _ (Nat.le_refl _)
    dsimp only
    unfold m_excess
    cases hb : m_best t (fpT t) (grT t) (eA e 6 1) (eA e 6 0) with
    | none => exact ⟨e, hO⟩
    | some b =>
      obtain ⟨h1, p, q, hQ⟩ := best_some hI hb
      obtain ⟨-, -, h3, h4, -⟩ := tq_cons hI h1 hQ
      exact ⟨_, tI_exc hO h1 hQ h3 (tq_gr hI h1)⟩
theorem tI_busy (hI : tI e t) {v n : Int32} (h1 : 1 ≤ n.toInt) (h2 : n.toInt ≤ (tF t 7).toInt) : tI e (uF (uF (uF t 6 v) 7 (tF t 7 - n)) 8 (if tF t 7 - n = 0 then -1 else tF t 8)) := by
  have h7 := hI.1.2.2.2.2.2.1.rng (by decide)
  have hs : (tF t 7 - n).toInt = (tF t 7).toInt - n.toInt := fb_subI (by omega) (by omega)
  refine ⟨⟨hI.1.1, hI.1.2.1, hI.1.2.2.1, hI.1.2.2.2.1, hI.1.2.2.2.2.1, bd.of (v := tF t 7 - n) (by rw [hs]; omega) (by rw [hs]; omega), fun h9 => ?_, fun h9 => ?_⟩, hI.2.1, fun r hr => tQ_to (hI.2.2.1 r hr) rfl rfl rfl rfl rfl (fun _ _ => rfl) (fun _ _ => rfl), hI.2.2.2.1, hI.2.2.2.2.1, hI.2.2.2.2.2.1, hI.2.2.2.2.2.2.1, hI.2.2.2.2.2.2.2.1, hI.2.2.2.2.2.2.2.2⟩
  · have h8 : tF t 7 - n = 0 := h9
    show (if tF t 7 - n = 0 then -1 else tF t 8) = -1
    rw [if_pos h8]
  · have h8 : ¬ tF t 7 - n = 0 := h9
    have h10 : ¬ tF t 7 = 0 := fun e9 => by rw [e9] at h2; have : (0 : Int32).toInt = 0 := rfl; omega
    show 1 ≤ eA e 6 3 ∧ (if tF t 7 - n = 0 then -1 else tF t 8) = _
    rw [if_neg h8]
    exact hI.1.2.2.2.2.2.2.2 h10
end TS
