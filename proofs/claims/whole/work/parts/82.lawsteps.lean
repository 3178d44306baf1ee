/-! the law's calls: the class and the reference, side by side -/
section LW
variable {nu nu' : Nat → Option Nat} {x y y2 z : kw_St} {o mo : Nat} {ma : Nat → Nat} {e : kE} {t t' : mo_T}
theorem mw_fr (hm : mw nu z mo ma t x) (hX : nuX nu nu') (hf : ∀ c q, nu c = some q → 6 ≤ q → q ≤ 9 → kw_ag c x y) : mw nu' y mo ma t y := by
  obtain ⟨⟨h1, h2, h3, h4⟩, h5, -⟩ := hm
  have hmk : ∀ j, 6 ≤ mk j ∧ mk j ≤ 9 := by intro j; unfold mk; split; omega; split <;> omega
  have a0 := hf mo 6 h1 (by omega) (by omega)
  refine ⟨⟨hX _ _ h1, fun j j1 j2 j3 => ?_, h3, h4⟩, ?_, fun _ _ _ => kw_ag.rf⟩
  · obtain ⟨g1, g2, g3⟩ := h2 j j1 j2 j3
    exact ⟨(a0.2.2.1 _).trans g1, hX _ _ g2, (hf _ _ g2 (hmk j).1 (hmk j).2).2.2.2.2.2.2.trans g3⟩
  · rw [← h5]
    refine Prod.ext (funext fun j => a0.1 _) (Prod.ext (a0.2.1 _) (Prod.ext (funext fun j => ?_) (funext fun j => ?_)))
    · show (if mR j then kA y (ma j) else fun _ => 0) = if mR j then kA x (ma j) else fun _ => 0
      by_cases hj : mR j
      · rw [if_pos hj, if_pos hj]
        exact (hf _ _ (h2 j hj.1 hj.2.1 hj.2.2).2.1 (hmk j).1 (hmk j).2).2.2.2.1
      · rw [if_neg hj, if_neg hj]
    · show (if mR j then kB y (ma j) else fun _ => 0) = if mR j then kB x (ma j) else fun _ => 0
      by_cases hj : mR j
      · rw [if_pos hj, if_pos hj]
        exact (hf _ _ (h2 j hj.1 hj.2.1 hj.2.2).2.1 (hmk j).1 (hmk j).2).2.2.2.2.1
      · rw [if_neg hj, if_neg hj]
theorem zw_fr {G : kw_G} (hz : zw G nu z o e t y) (hm : mw nu y mo ma t' y2) : zw G nu y2 o e t y2 := by
  have hmk : ∀ j, 7 ≤ mk j ∧ mk j ≤ 9 := by intro j; unfold mk; split; omega; split <;> omega
  have hag : ∀ c q, nu c = some q → q < 6 ∨ 9 < q → kw_ag c y y2 := by
    intro c q hc hq
    refine hm.2.2 c (nu_ne hc hm.1.1 (by omega)) (fun j hj => nu_ne hc (hm.1.2.1 j hj.1 hj.2.1 hj.2.2).2.1 ?_)
    have := hmk j
    omega
  refine ⟨hz.1, hz.2.1, ⟨zLs_ag hz.2.1 (fun c q hc hq => hag c q hc (by omega)) hz.2.2.1.1, zC_ag hz.2.1 (fun k hk p hp => ((hz.1.2.2.1 k hk).2.2.2.1 p hp).1) (fun c q hc h1 h2 => hag c q hc (by omega)) hz.2.2.1.2⟩, fun _ _ _ _ _ => kw_ag.rf⟩
theorem mw_rf (hm : mw nu z mo ma t x) : mw nu x mo ma t x := ⟨hm.1, hm.2.1, fun _ _ _ => kw_ag.rf⟩
def zPC (G : kw_G) (nu : Nat → Option Nat) (x : kw_St) (o : Nat) (t' : mo_T) (V : Value) : Option Value → (Nat → Option Nat) → kw_St → Prop := fun v' nu' y => v' = some V ∧ nuX nu nu' ∧ ∃ e2, zw G nu' x o e2 t' y ∧ zF e2 t'
def zPM (nu : Nat → Option Nat) (y : kw_St) (mo : Nat) (ma : Nat → Nat) (t' : mo_T) (V : Value) : Option Value → (Nat → Option Nat) → kw_St → Prop := fun v' nu' y2 => v' = some V ∧ nu' = nu ∧ mw nu y mo ma t' y2
theorem pc_of {G : kw_G} {V : Value} (hz : zw G nu x o e t x) (hF : zF e t) : ∀ v nu' y, kw_P nu (some V) x v nu' y → zPC G nu x o t V v nu' y := by
  rintro v nu' y ⟨rfl, rfl, rfl⟩
  exact ⟨rfl, nuX.rf, e, hz, hF⟩
theorem ix_em (a : Int32) (n : Nat) : (∃ k, k < n ∧ a = nI k) ∨ (∀ k, k < n → a ≠ nI k) := by
  by_cases h : ∃ k, k < n ∧ a = nI k
  · exact Or.inl h
  · exact Or.inr (fun k hk e9 => h ⟨k, hk, e9⟩)
theorem t_nl (hI : tI e t) : tF t 3 = nI (eA e 6 1) ∧ eA e 6 1 ≤ 8 := hI.1.2.1
theorem t_ng (hI : tI e t) : tF t 2 = nI (eA e 6 0) ∧ eA e 6 0 ≤ 4 := hI.1.1
theorem t_np (hI : tI e t) : tF t 4 = nI (eA e 6 2) ∧ eA e 6 2 ≤ 1000 := ⟨hI.1.2.2.1.1, by have := hI.1.2.2.1.2; omega⟩
theorem t_nb (hI : tI e t) : tF t 5 = nI (eA e 6 3) ∧ eA e 6 3 ≤ 1000 := ⟨hI.1.2.2.2.1.1, by have := hI.1.2.2.2.1.2; have := hI.1.2.2.1.2; omega⟩
theorem step_4 (u : mo_T) (en : Int32) : tF (m_step u en) 4 = tF u 4 := by
  have hb : ∀ nl ng nb, tF (m_begins u (fpT u) (grT u) nl ng nb) 4 = tF u 4 := by
    intro nl ng nb
    unfold m_begins
    split
    · unfold m_excess
      split
      · exact m_outT_F u (fpT u) nl ng 4
      · exact m_outT_F u (fpT u) nl ng 4
    · rfl
  have h2 : ∀ v : mo_T, tF (m_step2 v en) 4 = tF v 4 := by
    intro v
    unfold m_step2
    rw [pasN_F, if_neg (by decide)]
    split <;> rfl
  unfold m_step
  split
  · rw [pasN_F, if_neg (by decide)]
  · rw [h2]
    split
    · exact hb _ _ _
    · rfl
theorem runN_4 (en : Int32) : ∀ f (u : mo_T), tF (m_runN en f u) 4 = tF u 4
  | 0, _ => rfl
  | f + 1, u => by
    rw [m_runN]
    split
    · rw [runN_4 en f, step_4]
    · rfl
theorem toInt_1 (v : Int32) : v.toInt ≤ v.toInt + 1 := by omega
theorem arr_4 (nl k g pl : Nat) (sz : Int32) (h : tF t 4 = nI (eA e 6 2)) (hn : eA e 6 2 < 512) : (tF (m_arr t nl (eA e 6 2) k g pl sz).2 4).toInt ≤ (tF t 4).toInt + 1 := by
  unfold m_arr
  split
  · split
    · exact toInt_1 _
    · split
      · show (nI (eA e 6 2 + 1)).toInt ≤ _
        rw [h, nI_toInt (by omega), nI_toInt (by omega)]
        omega
      · show (tF (m_arT t k sz) 4).toInt ≤ _
        rw [m_arT_F]
        exact toInt_1 _
  · exact toInt_1 _
end LW
section LL
variable {nu : Nat → Option Nat} {x : kw_St} {o : Nat} {e : kE} {t : mo_T} (l : Launch) (G : kw_G)
set_option maxHeartbeats 1000000 in
theorem L_now (hz : zw G nu x o e t x) (hF : zF e t) : ∃ (mc ms : Nat) (v : Int32) (t2 : mo_T), mc ≤ 768 ∧ ms ≤ 3072 ∧ (tF t2 4).toInt ≤ (tF t 4).toInt + 1 ∧ kw_M l G yX4_now wsX4_now { frames := 0, cells := mc, slots := ms, locals := 0 } mc ms [.ref o] nu x (zPC G nu x o t2 (.int v)) ∧ ∀ (nu2 : Nat → Option Nat) (y : kw_St) (mo : Nat) (ma : Nat → Nat), mw nu2 y mo ma t y → kw_M l G yX5_now wsX5_now { frames := 0, cells := 0, slots := 0, locals := 0 } 0 0 [.ref mo] nu2 y (zPM nu2 y mo ma t2 (.int v)) := by
  refine ⟨0, 0, tF t 1, t, by omega, by omega, toInt_1 _, ?_, fun nu2 y mo ma hm => c_X5_now l G nu2 y y mo ma t hm⟩
  have h := c_X4_now l G nu x o (zk_o hz)
  rw [(zsh hz).1] at h
  exact kw_M.post' h (pc_of hz hF)
set_option maxHeartbeats 1000000 in
theorem L_count (hz : zw G nu x o e t x) (hF : zF e t) (w : Int32) : ∃ (mc ms : Nat) (v : Int32) (t2 : mo_T), mc ≤ 768 ∧ ms ≤ 3072 ∧ (tF t2 4).toInt ≤ (tF t 4).toInt + 1 ∧ kw_M l G yX4_count wsX4_count { frames := 4, cells := mc, slots := ms, locals := 85 } mc ms [.ref o, .int w] nu x (zPC G nu x o t2 (.int v)) ∧ ∀ (nu2 : Nat → Option Nat) (y : kw_St) (mo : Nat) (ma : Nat → Nat), mw nu2 y mo ma t y → kw_M l G yX5_count wsX5_count { frames := 0, cells := 0, slots := 0, locals := 0 } 0 0 [.ref mo, .int w] nu2 y (zPM nu2 y mo ma t2 (.int v)) := by
  exact ⟨0, 0, m_count t w, t, by omega, by omega, toInt_1 _, kw_M.post' (c_X4_count l G nu x x o e t w hz hF) (pc_of hz hF), fun nu2 y mo ma hm => c_X5_count l G nu2 y y mo ma t w hm⟩
set_option maxHeartbeats 1000000 in
theorem L_about (hz : zw G nu x o e t x) (hF : zF e t) (a w : Int32) : ∃ (mc ms : Nat) (v : Int32) (t2 : mo_T), mc ≤ 768 ∧ ms ≤ 3072 ∧ (tF t2 4).toInt ≤ (tF t 4).toInt + 1 ∧ kw_M l G yX4_about wsX4_about { frames := 4, cells := mc, slots := ms, locals := 85 } mc ms [.ref o, .int a, .int w] nu x (zPC G nu x o t2 (.int v)) ∧ ∀ (nu2 : Nat → Option Nat) (y : kw_St) (mo : Nat) (ma : Nat → Nat), mw nu2 y mo ma t y → kw_M l G yX5_about wsX5_about { frames := 1, cells := 0, slots := 0, locals := 22 } 0 0 [.ref mo, .int a, .int w] nu2 y (zPM nu2 y mo ma t2 (.int v)) := by
  obtain ⟨h1, h2⟩ := t_nl hz.1
  rcases ix_em a (eA e 6 1) with ⟨k, hk, rfl⟩ | hno
  · exact ⟨0, 0, m_about t (eA e 6 1) k w, t, by omega, by omega, toInt_1 _, kw_M.post' (c_X4_about_s l G nu x x o e t k w hz hk) (pc_of hz hF), fun nu2 y mo ma hm => c_X5_about_s l G nu2 y y mo ma t k w (eA e 6 1) hm (by omega) h1 h2⟩
  · refine ⟨0, 0, -1, t, by omega, by omega, toInt_1 _, kw_M.post' (c_X4_about_o l G nu x x o e t a w hz hno) (pc_of hz hF), fun nu2 y mo ma hm => ?_⟩
    rcases ix_em a 1000 with ⟨k, hk, rfl⟩ | hn9
    · have hkn : ¬ k < eA e 6 1 := fun h9 => hno k h9 rfl
      have h := c_X5_about_s l G nu2 y y mo ma t k w (eA e 6 1) hm hk h1 h2
      rw [show m_about t (eA e 6 1) k w = -1 by simp [m_about, hkn]] at h
      exact h
    · exact c_X5_about_o l G nu2 y y mo ma t a w (eA e 6 1) hm hn9 h1 h2
set_option maxHeartbeats 1000000 in
theorem L_packet (hz : zw G nu x o e t x) (hF : zF e t) (a w : Int32) : ∃ (mc ms : Nat) (v : Int32) (t2 : mo_T), mc ≤ 768 ∧ ms ≤ 3072 ∧ (tF t2 4).toInt ≤ (tF t 4).toInt + 1 ∧ kw_M l G yX4_packet wsX4_packet { frames := 3, cells := mc, slots := ms, locals := 64 } mc ms [.ref o, .int a, .int w] nu x (zPC G nu x o t2 (.int v)) ∧ ∀ (nu2 : Nat → Option Nat) (y : kw_St) (mo : Nat) (ma : Nat → Nat), mw nu2 y mo ma t y → kw_M l G yX5_packet wsX5_packet { frames := 1, cells := 0, slots := 0, locals := 22 } 0 0 [.ref mo, .int a, .int w] nu2 y (zPM nu2 y mo ma t2 (.int v)) := by
  obtain ⟨h1, h2⟩ := t_np hz.1
  rcases ix_em a (eA e 6 2) with ⟨k, hk, rfl⟩ | hno
  · exact ⟨0, 0, m_packet t (eA e 6 2) k w, t, by omega, by omega, toInt_1 _, kw_M.post' (c_X4_packet_s l G nu x x o e t k w hz hk) (pc_of hz hF), fun nu2 y mo ma hm => c_X5_packet_s l G nu2 y y mo ma t k w (eA e 6 2) hm (by omega) h1 h2⟩
  · refine ⟨0, 0, -1, t, by omega, by omega, toInt_1 _, kw_M.post' (c_X4_packet_o l G nu x x o e t a w hz hno) (pc_of hz hF), fun nu2 y mo ma hm => ?_⟩
    rcases ix_em a 1000 with ⟨k, hk, rfl⟩ | hn9
    · have hkn : ¬ k < eA e 6 2 := fun h9 => hno k h9 rfl
      have h := c_X5_packet_s l G nu2 y y mo ma t k w (eA e 6 2) hm hk h1 h2
      rw [show m_packet t (eA e 6 2) k w = -1 by simp [m_packet, hkn]] at h
      exact h
    · exact c_X5_packet_o l G nu2 y y mo ma t a w (eA e 6 2) hm hn9 h1 h2
set_option maxHeartbeats 1000000 in
theorem L_sent (hz : zw G nu x o e t x) (hF : zF e t) (a : Int32) : ∃ (mc ms : Nat) (v : Int32) (t2 : mo_T), mc ≤ 768 ∧ ms ≤ 3072 ∧ (tF t2 4).toInt ≤ (tF t 4).toInt + 1 ∧ kw_M l G yX4_sent wsX4_sent { frames := 3, cells := mc, slots := ms, locals := 64 } mc ms [.ref o, .int a] nu x (zPC G nu x o t2 (.int v)) ∧ ∀ (nu2 : Nat → Option Nat) (y : kw_St) (mo : Nat) (ma : Nat → Nat), mw nu2 y mo ma t y → kw_M l G yX5_sent wsX5_sent { frames := 1, cells := 0, slots := 0, locals := 22 } 0 0 [.ref mo, .int a] nu2 y (zPM nu2 y mo ma t2 (.int v)) := by
  obtain ⟨h1, h2⟩ := t_nb hz.1
  rcases ix_em a (eA e 6 3) with ⟨k, hk, rfl⟩ | hno
  · refine ⟨0, 0, tA t 40 k, t, by omega, by omega, toInt_1 _, kw_M.post' (c_X4_sent_s l G nu x x o e t k hz hk) (pc_of hz hF), fun nu2 y mo ma hm => ?_⟩
    have h := c_X5_sent_s l G nu2 y y mo ma t k (eA e 6 3) hm (by omega) h1 h2
    rw [if_pos hk] at h
    exact h
  · refine ⟨0, 0, -1, t, by omega, by omega, toInt_1 _, kw_M.post' (c_X4_sent_o l G nu x x o e t a hz hno) (pc_of hz hF), fun nu2 y mo ma hm => ?_⟩
    rcases ix_em a 1000 with ⟨k, hk, rfl⟩ | hn9
    · have hkn : ¬ k < eA e 6 3 := fun h9 => hno k h9 rfl
      have h := c_X5_sent_s l G nu2 y y mo ma t k (eA e 6 3) hm hk h1 h2
      rw [if_neg hkn] at h
      exact h
    · exact c_X5_sent_o l G nu2 y y mo ma t a (eA e 6 3) hm hn9 h1 h2
set_option maxHeartbeats 1000000 in
theorem L_tokens (hz : zw G nu x o e t x) (hF : zF e t) (a w : Int32) : ∃ (mc ms : Nat) (v : Int64) (t2 : mo_T), mc ≤ 768 ∧ ms ≤ 3072 ∧ (tF t2 4).toInt ≤ (tF t 4).toInt + 1 ∧ kw_M l G yX4_tokens wsX4_tokens { frames := 4, cells := mc, slots := ms, locals := 85 } mc ms [.ref o, .int a, .int w] nu x (zPC G nu x o t2 (.long v)) ∧ ∀ (nu2 : Nat → Option Nat) (y : kw_St) (mo : Nat) (ma : Nat → Nat), mw nu2 y mo ma t y → kw_M l G yX5_tokens wsX5_tokens { frames := 1, cells := 0, slots := 0, locals := 22 } 0 0 [.ref mo, .int a, .int w] nu2 y (zPM nu2 y mo ma t2 (.long v)) := by
  obtain ⟨h1, h2⟩ := t_nl hz.1
  obtain ⟨h3, h4⟩ := t_ng hz.1
  rcases ix_em a 1000 with ⟨k, hk, rfl⟩ | hn9
  · have h5 := fun (nu2 : Nat → Option Nat) (y : kw_St) (mo : Nat) (ma : Nat → Nat) (hm : mw nu2 y mo ma t y) => c_X5_tokens_s l G nu2 y y mo ma t k w (eA e 6 0) (eA e 6 1) hm hk h3 h4 h1 h2
    have hno : ∀ n, n ≤ 8 → ¬ k < n → ∀ j, j < n → nI k ≠ nI j := fun n hn hkn j hj e9 => hkn (by rw [(nI_eq (by omega) (by omega)).mp e9]; exact hj)
    by_cases hl : k < eA e 6 1
    · by_cases hg : k < eA e 6 0
      · exact ⟨0, 0, m_tokens t (eA e 6 0) (eA e 6 1) k w, t, by omega, by omega, toInt_1 _, kw_M.post' (c_X4_tokens_ss l G nu x x o e t k w hz hl hg) (pc_of hz hF), h5⟩
      · exact ⟨0, 0, m_tokens t (eA e 6 0) (eA e 6 1) k w, t, by omega, by omega, toInt_1 _, kw_M.post' (c_X4_tokens_so l G nu x x o e t k w hz hl (hno _ (by omega) hg)) (pc_of hz hF), h5⟩
    · by_cases hg : k < eA e 6 0
      · exact ⟨0, 0, m_tokens t (eA e 6 0) (eA e 6 1) k w, t, by omega, by omega, toInt_1 _, kw_M.post' (c_X4_tokens_os l G nu x x o e t k w hz (hno _ (by omega) hl) hg) (pc_of hz hF), h5⟩
      · refine ⟨0, 0, 0, t, by omega, by omega, toInt_1 _, kw_M.post' (c_X4_tokens_oo l G nu x x o e t (nI k) w hz (hno _ (by omega) hl) (hno _ (by omega) hg)) (pc_of hz hF), fun nu2 y mo ma hm => ?_⟩
        have h := h5 nu2 y mo ma hm
        rw [show m_tokens t (eA e 6 0) (eA e 6 1) k w = 0 by simp [m_tokens, hl, hg]] at h
        exact h
  · have hno : ∀ n, n ≤ 8 → ∀ j, j < n → a ≠ nI j := fun n hn j hj => hn9 j (by omega)
    exact ⟨0, 0, 0, t, by omega, by omega, toInt_1 _, kw_M.post' (c_X4_tokens_oo l G nu x x o e t a w hz (hno _ (by omega)) (hno _ (by omega))) (pc_of hz hF), fun nu2 y mo ma hm => c_X5_tokens_o l G nu2 y y mo ma t a w (eA e 6 0) (eA e 6 1) hm hn9 h3 h4 h1 h2⟩
set_option maxHeartbeats 1000000 in
theorem L_tag (hz : zw G nu x o e t x) (hF : zF e t) (a w : Int32) : ∃ (mc ms : Nat) (v : Int64) (t2 : mo_T), mc ≤ 768 ∧ ms ≤ 3072 ∧ (tF t2 4).toInt ≤ (tF t 4).toInt + 1 ∧ kw_M l G yX4_tag wsX4_tag { frames := 4, cells := mc, slots := ms, locals := 85 } mc ms [.ref o, .int a, .int w] nu x (zPC G nu x o t2 (.long v)) ∧ ∀ (nu2 : Nat → Option Nat) (y : kw_St) (mo : Nat) (ma : Nat → Nat), mw nu2 y mo ma t y → kw_M l G yX5_tag wsX5_tag { frames := 1, cells := 0, slots := 0, locals := 22 } 0 0 [.ref mo, .int a, .int w] nu2 y (zPM nu2 y mo ma t2 (.long v)) := by
  obtain ⟨h1, h2⟩ := t_nl hz.1
  obtain ⟨h3, h4⟩ := t_ng hz.1
  rcases ix_em a 1000 with ⟨k, hk, rfl⟩ | hn9
  · have h5 := fun (nu2 : Nat → Option Nat) (y : kw_St) (mo : Nat) (ma : Nat → Nat) (hm : mw nu2 y mo ma t y) => c_X5_tag_s l G nu2 y y mo ma t k w (eA e 6 0) (eA e 6 1) hm hk h3 h4 h1 h2
    have hno : ∀ n, n ≤ 8 → ¬ k < n → ∀ j, j < n → nI k ≠ nI j := fun n hn hkn j hj e9 => hkn (by rw [(nI_eq (by omega) (by omega)).mp e9]; exact hj)
    by_cases hl : k < eA e 6 1
    · by_cases hg : k < eA e 6 0
      · exact ⟨0, 0, m_tag t (eA e 6 0) (eA e 6 1) k w, t, by omega, by omega, toInt_1 _, kw_M.post' (c_X4_tag_ss l G nu x x o e t k w hz hl hg) (pc_of hz hF), h5⟩
      · exact ⟨0, 0, m_tag t (eA e 6 0) (eA e 6 1) k w, t, by omega, by omega, toInt_1 _, kw_M.post' (c_X4_tag_so l G nu x x o e t k w hz hl (hno _ (by omega) hg)) (pc_of hz hF), h5⟩
    · by_cases hg : k < eA e 6 0
      · exact ⟨0, 0, m_tag t (eA e 6 0) (eA e 6 1) k w, t, by omega, by omega, toInt_1 _, kw_M.post' (c_X4_tag_os l G nu x x o e t k w hz (hno _ (by omega) hl) hg) (pc_of hz hF), h5⟩
      · refine ⟨0, 0, if w = 3 then tL t else 0, t, by omega, by omega, toInt_1 _, kw_M.post' (c_X4_tag_oo l G nu x x o e t (nI k) w hz (hno _ (by omega) hl) (hno _ (by omega) hg)) (pc_of hz hF), fun nu2 y mo ma hm => ?_⟩
        have h := h5 nu2 y mo ma hm
        rw [show m_tag t (eA e 6 0) (eA e 6 1) k w = if w = 3 then tL t else 0 by simp [m_tag, hl, hg]] at h
        exact h
  · have hno : ∀ n, n ≤ 8 → ∀ j, j < n → a ≠ nI j := fun n hn j hj => hn9 j (by omega)
    exact ⟨0, 0, if w = 3 then tL t else 0, t, by omega, by omega, toInt_1 _, kw_M.post' (c_X4_tag_oo l G nu x x o e t a w hz (hno _ (by omega)) (hno _ (by omega))) (pc_of hz hF), fun nu2 y mo ma hm => c_X5_tag_o l G nu2 y y mo ma t a w (eA e 6 0) (eA e 6 1) hm hn9 h3 h4 h1 h2⟩
set_option maxHeartbeats 1000000 in
theorem L_police (hz : zw G nu x o e t x) (hF : zF e t) (a r b mk : Int32) (hmk : mk = 0 ∨ mk = 1) : ∃ (mc ms : Nat) (v : Int32) (t2 : mo_T), mc ≤ 768 ∧ ms ≤ 3072 ∧ (tF t2 4).toInt ≤ (tF t 4).toInt + 1 ∧ kw_M l G yX4_police wsX4_police { frames := 4, cells := mc, slots := ms, locals := 85 } mc ms [.ref o, .int a, .int r, .int b, .int mk] nu x (zPC G nu x o t2 (.int v)) ∧ ∀ (nu2 : Nat → Option Nat) (y : kw_St) (mo : Nat) (ma : Nat → Nat), mw nu2 y mo ma t y → kw_M l G yX5_police wsX5_police { frames := 1, cells := 0, slots := 0, locals := 23 } 0 0 [.ref mo, .int a, .int r, .int b, .int mk] nu2 y (zPM nu2 y mo ma t2 (.int v)) := by
  obtain ⟨h1, h2⟩ := t_nl hz.1
  rcases ix_em a (eA e 6 1) with ⟨k, hk, rfl⟩ | hno
  · refine ⟨1, 3, kw_b (m_polok (eA e 6 1) k r b = true), m_police t (eA e 6 1) k r b mk, by omega, by omega, ?_, c_X4_police_s l G nu x x o e t k r b mk hz hk hF hmk, fun nu2 y mo ma hm => c_X5_police_s l G nu2 y y mo ma t k r b mk (eA e 6 1) hm (by omega) h1 h2 hmk⟩
    unfold m_police
    split <;> exact toInt_1 _
  · refine ⟨0, 0, 0, t, by omega, by omega, toInt_1 _, kw_M.post' (c_X4_police_o l G nu x x o e t a r b mk hz hno) (pc_of hz hF), fun nu2 y mo ma hm => ?_⟩
    rcases ix_em a 1000 with ⟨k, hk, rfl⟩ | hn9
    · have hkn : ¬ k < eA e 6 1 := fun h9 => hno k h9 rfl
      have h := c_X5_police_s l G nu2 y y mo ma t k r b mk (eA e 6 1) hm hk h1 h2 hmk
      rw [show m_police t (eA e 6 1) k r b mk = t by simp [m_police, m_polok, hkn], show kw_b (m_polok (eA e 6 1) k r b = true) = 0 by simp [m_polok, hkn, kw_b]] at h
      exact h
    · exact c_X5_police_o l G nu2 y y mo ma t a r b mk (eA e 6 1) hm hn9 h1 h2
set_option maxHeartbeats 1000000 in
theorem L_group (hz : zw G nu x o e t x) (hF : zF e t) (w ce b : Int32) : ∃ (mc ms : Nat) (v : Int32) (t2 : mo_T), mc ≤ 768 ∧ ms ≤ 3072 ∧ (tF t2 4).toInt ≤ (tF t 4).toInt + 1 ∧ kw_M l G yX4_group wsX4_group { frames := 7, cells := mc, slots := ms, locals := 171 } mc ms [.ref o, .int w, .int ce, .int b] nu x (zPC G nu x o t2 (.int v)) ∧ ∀ (nu2 : Nat → Option Nat) (y : kw_St) (mo : Nat) (ma : Nat → Nat), mw nu2 y mo ma t y → kw_M l G yX5_group wsX5_group { frames := 1, cells := 0, slots := 0, locals := 23 } 0 0 [.ref mo, .int w, .int ce, .int b] nu2 y (zPM nu2 y mo ma t2 (.int v)) := by
  obtain ⟨h3, h4⟩ := t_ng hz.1
  refine ⟨3, 777, if m_gok t w ce b = true then nI (eA e 6 0) else -1, m_group t (eA e 6 0) w ce b, by omega, by omega, ?_, c_X4_group l G nu x x o e t w ce b hz hF, fun nu2 y mo ma hm => c_X5_group l G nu2 y y mo ma t w ce b (eA e 6 0) hm h3 h4⟩
  unfold m_group
  split <;> exact toInt_1 _
set_option maxHeartbeats 1000000 in
theorem L_leaf (hz : zw G nu x o e t x) (hF : zF e t) (a w gu ce b li : Int32) : ∃ (mc ms : Nat) (v : Int32) (t2 : mo_T), mc ≤ 768 ∧ ms ≤ 3072 ∧ (tF t2 4).toInt ≤ (tF t 4).toInt + 1 ∧ kw_M l G yX4_leaf wsX4_leaf { frames := 7, cells := mc, slots := ms, locals := 171 } mc ms [.ref o, .int a, .int w, .int gu, .int ce, .int b, .int li] nu x (zPC G nu x o t2 (.int v)) ∧ ∀ (nu2 : Nat → Option Nat) (y : kw_St) (mo : Nat) (ma : Nat → Nat), mw nu2 y mo ma t y → kw_M l G yX5_leaf wsX5_leaf { frames := 1, cells := 0, slots := 0, locals := 23 } 0 0 [.ref mo, .int a, .int w, .int gu, .int ce, .int b, .int li] nu2 y (zPM nu2 y mo ma t2 (.int v)) := by
  obtain ⟨h1, h2⟩ := t_nl hz.1
  obtain ⟨h3, h4⟩ := t_ng hz.1
  rcases ix_em a (eA e 6 0) with ⟨g, hg, rfl⟩ | hno
  · refine ⟨3, 789, if m_lfok t (eA e 6 0) (eA e 6 1) g w gu ce b li = true then nI (eA e 6 1) else -1, m_leaf t (eA e 6 0) (eA e 6 1) g w gu ce b li, by omega, by omega, ?_, c_X4_leaf_s l G nu x x o e t g w gu ce b li hz hg hF, fun nu2 y mo ma hm => c_X5_leaf_s l G nu2 y y mo ma t g w gu ce b li (eA e 6 0) (eA e 6 1) hm (by omega) h3 h4 h1 h2⟩
    unfold m_leaf
    split <;> exact toInt_1 _
  · refine ⟨0, 0, -1, t, by omega, by omega, toInt_1 _, kw_M.post' (c_X4_leaf_o l G nu x x o e t a w gu ce b li hz hno) (pc_of hz hF), fun nu2 y mo ma hm => ?_⟩
    rcases ix_em a 1000 with ⟨k, hk, rfl⟩ | hn9
    · have hkn : ¬ k < eA e 6 0 := fun h9 => hno k h9 rfl
      have h := c_X5_leaf_s l G nu2 y y mo ma t k w gu ce b li (eA e 6 0) (eA e 6 1) hm hk h3 h4 h1 h2
      have hf : ¬ m_lfok t (eA e 6 0) (eA e 6 1) k w gu ce b li = true := by simp [m_lfok, hkn]
      rw [if_neg hf, m_leaf, if_neg hf] at h
      exact h
    · exact c_X5_leaf_o l G nu2 y y mo ma t a w gu ce b li (eA e 6 0) (eA e 6 1) hm hn9 h3 h4 h1 h2
set_option maxHeartbeats 1000000 in
theorem L_arrive (hz : zw G nu x o e t x) (hF : zF e t) (hnp : eA e 6 2 < 512) (a sz : Int32) : ∃ (mc ms : Nat) (v : Int32) (t2 : mo_T), mc ≤ 768 ∧ ms ≤ 3072 ∧ (tF t2 4).toInt ≤ (tF t 4).toInt + 1 ∧ kw_M l G yX4_arrive wsX4_arrive { frames := 7, cells := mc, slots := ms, locals := 171 } mc ms [.ref o, .int a, .int sz] nu x (zPC G nu x o t2 (.int v)) ∧ ∀ (nu2 : Nat → Option Nat) (y : kw_St) (mo : Nat) (ma : Nat → Nat), mw nu2 y mo ma t y → kw_M l G yX5_arrive wsX5_arrive { frames := 1, cells := 0, slots := 0, locals := 22 } 0 0 [.ref mo, .int a, .int sz] nu2 y (zPM nu2 y mo ma t2 (.int v)) := by
  obtain ⟨h1, h2⟩ := t_nl hz.1
  obtain ⟨h3, h4⟩ := t_np hz.1
  rcases ix_em a (eA e 6 1) with ⟨k, hk, rfl⟩ | hno
  · obtain ⟨p1, p2⟩ := plE_3 hz.1 hk
    have hg := (hz.1.2.1 k hk).1
    have hng := (t_ng hz.1).2
    exact ⟨2, 777, (m_arr t (eA e 6 1) (eA e 6 2) k (eA e 8 k) (plE e k) sz).1, (m_arr t (eA e 6 1) (eA e 6 2) k (eA e 8 k) (plE e k) sz).2, by omega, by omega, arr_4 _ _ _ _ _ h3 hnp, c_X4_arrive_s l G nu x x o e t k sz hz hk hF hnp, fun nu2 y mo ma hm => c_X5_arrive_s l G nu2 y y mo ma t k sz (eA e 6 1) (eA e 6 2) (eA e 8 k) (plE e k) hm (by omega) h1 h2 h3 h4 (fun _ => hg.1) (by omega) p1 p2⟩
  · refine ⟨0, 0, -1, t, by omega, by omega, toInt_1 _, kw_M.post' (c_X4_arrive_o l G nu x x o e t a sz hz hno) (pc_of hz hF), fun nu2 y mo ma hm => ?_⟩
    rcases ix_em a 1000 with ⟨k, hk, rfl⟩ | hn9
    · exact c_X5_arrive_n l G nu2 y y mo ma t k sz (eA e 6 1) (eA e 6 2) hm hk (fun h9 => hno k h9 rfl) h1 h2 h3 h4
    · exact c_X5_arrive_o l G nu2 y y mo ma t a sz (eA e 6 1) (eA e 6 2) hm hn9 h1 h2 h3 h4
set_option maxHeartbeats 1000000 in
theorem L_run (hz : zw G nu x o e t x) (hF : zF e t) (ti : Int32) : ∃ (mc ms : Nat) (v : Int32) (t2 : mo_T), mc ≤ 768 ∧ ms ≤ 3072 ∧ (tF t2 4).toInt ≤ (tF t 4).toInt + 1 ∧ kw_M l G yX4_run wsX4_run { frames := 9, cells := mc, slots := ms, locals := 214 } mc ms [.ref o, .int ti] nu x (zPC G nu x o t2 (.int v)) ∧ ∀ (nu2 : Nat → Option Nat) (y : kw_St) (mo : Nat) (ma : Nat → Nat), mw nu2 y mo ma t y → kw_M l G yX5_run wsX5_run { frames := 3, cells := 0, slots := 0, locals := 73 } 0 0 [.ref mo, .int ti] nu2 y (zPM nu2 y mo ma t2 (.int v)) := by
  by_cases hr : m_rok t ti = true
  · have hr2 := hr
    simp only [m_rok, Bool.and_eq_true, decide_eq_true_eq] at hr2
    obtain ⟨n, n1, n2, rfl⟩ := wi_bd hr2.1 (a := 1) (b := 100000) (by decide) (by decide)
    have hnow := hz.1.1.2.2.2.2.1.rng (by decide)
    have hno : (tF t 1).toInt + n ≤ 1000000000 := by
      have h9 := hr2.2
      rw [le_toInt, show (1000000000 : Int32) = nI 1000000000 from rfl, pk_sub (by omega), nI_toInt (by omega)] at h9
      omega
    have hE := z_en hz.1 n2 hno
    refine ⟨768, 3072, tF (m_fin (tF t 1 + nI n) t) 5 - tF t 5, m_fin (tF t 1 + nI n) t, by omega, by omega, ?_, c_X4_run_s l G nu x x o e t n hz hF n1 n2 hno, fun nu2 y mo ma hm => ?_⟩
    · unfold m_fin
      rw [runN_4]
      exact toInt_1 _
    · have h := c_X5_run l G nu2 y y mo ma t (nI n) (rI (tF t 1).toInt) hm ⟨⟨e, hz.1⟩, Int.le_refl _⟩ (fun u hu => rI_good hu) (fun u hu hlt => rI_step (by omega) (by omega) hu hlt)
      rw [if_pos hr, m_run, if_pos hr] at h
      exact h
  · have hr3 : m_rok t ti = false := Bool.eq_false_iff.mpr hr
    exact ⟨0, 0, -1, t, by omega, by omega, toInt_1 _, kw_M.post' (c_X4_run_o l G nu x x o e t ti hz hr3) (pc_of hz hF), fun nu2 y mo ma hm => c_X5_run_o l G nu2 y y mo ma t ti hm hr3⟩
end LL
