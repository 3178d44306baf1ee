/-! arrive: the policer, catching up, the queue's end -/
section ZQ
variable {G : kw_G} {nu : Nat → Option Nat} {z x xs y : kw_St} {o : Nat} {e : kE} {t T : mo_T} {k g d D1 pl : Nat} {sz mk : Int32}
theorem sz_toInt (hs : bd sz 64 1500) : (1000 * sz.toInt64).toInt = 1000 * sz.toInt := by
  obtain ⟨s, s1, s2, rfl⟩ := hs
  rw [nI_l (by omega), show (1000 : Int64) = lN 1000 from rfl, lN_mul, pk_lT (by omega), nI_toInt (by omega)]
  omega
theorem pays_eq (hz : zw G nu z o e t x) (hk : k < eA e 6 1) : q_pays x (eA e 1 k) sz = true ↔ ¬ (¬ tA t 28 k = 0 ∧ tB t 32 (12 + k) < 1000 * sz.toInt64) := by
  unfold q_pays
  cases hp : kR x 155 (eA e 1 k) with
  | none => simp [(z_pol0 hz hk hp).1]
  | some b =>
    obtain ⟨h1, h2, h3⟩ := z_pol1 hz hk hp
    simp [h1, h3]
theorem zw_pay (hz : zw G nu z o e t x) (hk : k < eA e 6 1) (hs : bd sz 64 1500) : zw G nu z o e (m_arT t k sz) (q_payx x (eA e 1 k) sz) := by
  unfold q_payx m_arT
  cases hp : kR x 155 (eA e 1 k) with
  | none => rw [if_pos (z_pol0 hz hk hp).1]; exact hz
  | some b =>
    obtain ⟨h1, h2, h3⟩ := z_pol1 hz hk hp
    rw [if_neg h1]
    dsimp only
    rw [h3]
    by_cases hc : tB t 32 (12 + k) < 1000 * sz.toInt64
    · rw [if_pos hc, if_pos hc]; exact hz
    · rw [if_neg hc, if_neg hc, h2]
      have hb := zb_p (t := t) hk h1
      have h20 := zb_20 hz.1 hb
      have hK := hz.1.2.2.2.2.2.2.1 (12 + k) h20
      have hK4 := hK.2.2.2
      have hsi := sz_toInt hs
      have hsr := hs.rng (by decide)
      rw [Int64.lt_iff_toInt_lt, hsi] at hc
      have hv : (tB t 32 (12 + k) - 1000 * sz.toInt64).toInt = (tB t 32 (12 + k)).toInt - 1000 * sz.toInt := by rw [fb_subL (by rw [hsi]; omega) (by rw [hsi]; omega), hsi]
      refine zw_B hz hb (tI_B hz.1 (by rw [hv]; omega) (by rw [hv]; omega) (fun j hj e9 h9 => ?_))
      have : k = j := by omega
      subst this
      exact absurd h9 h1
theorem none_iff (hI : tI e t) (hg : g < 4) : ∀ n, n ≤ eA e 6 1 → (m_none t g n = true ↔ ∀ j, j < n → (if eA e 8 j = g then (eQ e j).length else 0) = 0)
  | 0, _ => by simp [m_none]
  | n + 1, h => by
    have ih := none_iff hI hg n (by omega)
    have hng := hI.1.1.2
    obtain ⟨h13, h8⟩ := (hI.2.1 n (by omega)).1
    have hq : tA t 19 n = 0 ↔ (eQ e n).length = 0 := by
      cases hQ : eQ e n with
      | nil => simp [tq_nil hI (by omega) hQ]
      | cons p q => simp [(tq_cons hI (by omega) hQ).1]
    have h13' : tA t 13 n = nI g ↔ eA e 8 n = g := by rw [h13, nI_eq (by omega) (by omega)]
    simp only [m_none, Bool.and_eq_true, Bool.or_eq_true, decide_eq_true_eq]
    rw [ih, h13', hq]
    constructor
    · rintro ⟨a, b⟩ j hj
      by_cases e1 : j = n
      · subst e1
        split
        · rename_i h9
          rcases b with b | b
          · exact absurd h9 b
          · exact b
        · rfl
      · exact a j (by omega)
    · intro a
      refine ⟨fun j hj => a j (by omega), ?_⟩
      have := a n (by omega)
      by_cases h9 : eA e 8 n = g
      · rw [if_pos h9] at this; exact Or.inr this
      · exact Or.inl h9
theorem zw_zW (hz : zw G nu z o e t x) (hg : g < eA e 6 0) : kI x 103 (eA e 0 g) = 0 ↔ m_none t g (eA e 6 1) = true := by
  have hng := zd_ng hz
  have hle := zW_le hz.1 g
  rw [(zg hz hg).2.2.2.1, none_iff hz.1 (by omega) _ (Nat.le_refl _), show (0 : Int32) = nI 0 from rfl, nI_eq (by omega) (by omega)]
  exact zsum_0
theorem zmax2 {a b : Int64} : (if a < b then b else a) = if a ≤ b then b else a := zmax
theorem zmax3 {a b : Int64} : (if b < a then a else b) = if b ≤ a then a else b := zmax
theorem zw_s167 (hz : zw G nu z o e t x) (hk : k < eA e 6 1) (v : Int64) : zw G nu z o e (uB t 27 k v) (sJ x 167 (eA e 1 k) v) := ⟨tI_sum hz.1 hk v, hz.2.1, ⟨hz.2.2.1.1, zC_167 (nu := nu) (G := G) hz.2.2.1.2 hz.2.1 hk v⟩, fun b9 r h1 h2 h3 => ag_sJ (hz.2.2.2 b9 r h1 h2 h3) (nu_ne h1 (zk_l hz hk) (by omega))⟩
theorem zw_s104 (hz : zw G nu z o e t x) (hg : g < eA e 6 0) (v : Int64) : zw G nu z o e (uB t 10 g v) (sJ x 104 (eA e 0 g) v) := ⟨tI_gs hz.1 (Or.inl rfl) hg v, hz.2.1, ⟨hz.2.2.1.1, zC_104 (nu := nu) (G := G) hz.2.2.1.2 hz.2.1 hg v⟩, fun b9 r h1 h2 h3 => ag_sJ (hz.2.2.2 b9 r h1 h2 h3) (nu_ne h1 (zk_g hz hg) (by omega))⟩
/-- who was idle gets no credit for it -/
def z_cat (t : mo_T) (n k g : Nat) : mo_T := if tA t 19 k = 0 then (if m_none t g n = true then (if tL t ≤ tB t 10 g then uB t 27 k (if tB t 11 g ≤ tB t 27 k then tB t 27 k else tB t 11 g) else uB (uB t 27 k (if tB t 11 g ≤ tB t 27 k then tB t 27 k else tB t 11 g)) 10 g (tL t)) else uB t 27 k (if tB t 11 g ≤ tB t 27 k then tB t 27 k else tB t 11 g)) else t
theorem none_k (hI : tI e t) (hk : k < eA e 6 1) (h0 : ¬ tA t 19 k = 0) : ¬ m_none t (eA e 8 k) (eA e 6 1) = true := by
  have hng := hI.1.1.2
  have hg := (hI.2.1 k hk).1.2
  intro h9
  have h1 := (none_iff hI (by omega) _ (Nat.le_refl _)).mp h9 k hk
  rw [if_pos rfl] at h1
  exact h0 (tq_nil hI hk (List.length_eq_zero_iff.mp h1))
theorem zw_catch (hz : zw G nu z o e t x) (hk : k < eA e 6 1) : zw G nu z o e (z_cat t (eA e 6 1) k (eA e 8 k)) (q_catch x (eA e 1 k) (eA e 0 (eA e 8 k)) (tL t)) := by
  have hg := zd_gr hz hk
  have hW := zw_zW hz hg
  unfold q_catch z_cat
  cases hQ : eQ e k with
  | nil =>
    obtain ⟨h1, h2⟩ := zq_nil hz hk hQ
    rw [h1, if_pos h2]
    dsimp only
    rw [(zl hz hk).2.2.2.2.2.2.2.2.2.2.2.2.2.2.2.2.2, (zg hz hg).2.2.2.2.1, (zg hz hg).2.2.2.2.2, zmax]
    have hz1 := zw_s167 hz hk (if tB t 11 (eA e 8 k) ≤ tB t 27 k then tB t 27 k else tB t 11 (eA e 8 k))
    by_cases hn : m_none t (eA e 8 k) (eA e 6 1) = true
    · rw [if_pos hn, if_pos (hW.mpr hn), zmax]
      by_cases hl : tL t ≤ tB t 10 (eA e 8 k)
      · rw [if_pos hl, if_pos hl]
        have hz2 := zw_s104 hz1 hg (tB t 10 (eA e 8 k))
        have e1 : uB (uB t 27 k (if tB t 11 (eA e 8 k) ≤ tB t 27 k then tB t 27 k else tB t 11 (eA e 8 k))) 10 (eA e 8 k) (tB t 10 (eA e 8 k)) = uB t 27 k (if tB t 11 (eA e 8 k) ≤ tB t 27 k then tB t 27 k else tB t 11 (eA e 8 k)) := uB_self (uB t 27 k (if tB t 11 (eA e 8 k) ≤ tB t 27 k then tB t 27 k else tB t 11 (eA e 8 k))) 10 (eA e 8 k)
        rw [e1] at hz2
        exact hz2
      · rw [if_neg hl, if_neg hl]
        exact zw_s104 hz1 hg _
    · rw [if_neg hn, if_neg (fun h => hn (hW.mp h))]
      exact hz1
  | cons p q =>
    obtain ⟨h1, h0, -⟩ := zq_cons hz hk hQ
    rw [h1, if_neg h0]
    dsimp only
    rw [if_neg (fun h => none_k hz.1 hk h0 (hW.mp h))]
    exact hz
theorem arS_eq (t : mo_T) (nl k g : Nat) (sz : Int32) : m_arS t nl k g sz = z_cat (m_arT t k sz) nl k g := by
  have f1 : ∀ j, tB (m_arT t k sz) 27 j = tB t 27 j := fun j => m_arT_B t k sz (by decide) j
  have f2 : ∀ j, tB (m_arT t k sz) 11 j = tB t 11 j := fun j => m_arT_B t k sz (by decide) j
  have f3 : ∀ j, tB (m_arT t k sz) 10 j = tB t 10 j := fun j => m_arT_B t k sz (by decide) j
  have f4 : ∀ n, m_none (m_arT t k sz) g n = m_none t g n := by
    intro n
    induction n with
    | zero => rfl
    | succ n ih => simp only [m_none, ih, m_arT_A]
  unfold m_arS z_cat m_arU
  rw [m_arT_A, f4, m_arT_L, f3, f2, f1]
theorem cat_A (t : mo_T) (n k g j r : Nat) : tA (z_cat t n k g) j r = tA t j r := by
  unfold z_cat
  split
  · split
    · split <;> rfl
    · rfl
  · rfl
theorem cat_F (t : mo_T) (n k g j : Nat) : tF (z_cat t n k g) j = tF t j := by
  unfold z_cat
  split
  · split
    · split <;> rfl
    · rfl
  · rfl
theorem catch_R (x : kw_St) (a g : Nat) (m : Int64) : kR (q_catch x a g m) = kR x ∧ kI (q_catch x a g m) = kI x := by
  unfold q_catch
  split <;> split <;> exact ⟨rfl, rfl⟩
theorem ag_J2 {c : Nat} {x y : kw_St} {id a : Nat} {v : Int64} (h : kw_ag c x y) : kw_ag c (sJ x id a v) (sJ y id a v) := ⟨h.1, fun i => by simp only [kJ_sJ, h.2.1], h.2.2.1, h.2.2.2.1, h.2.2.2.2.1, h.2.2.2.2.2.1, h.2.2.2.2.2.2⟩
theorem catch_ag {x y : kw_St} {a g : Nat} {m : Int64} (ha : kw_ag a x y) (hg : kw_ag g x y) {c : Nat} (hc : kw_ag c x y) : kw_ag c (q_catch x a g m) (q_catch y a g m) := by
  unfold q_catch
  rw [ha.2.2.1, hg.1, hg.2.1, hg.2.1, ha.2.1]
  split <;> split
  · exact ag_J2 (ag_J2 hc)
  · exact ag_J2 hc
  · exact ag_J2 hc
  · exact hc
theorem catch_oth {x : kw_St} {a g c : Nat} {m : Int64} (h1 : c ≠ a) (h2 : c ≠ g) : kw_ag c x (q_catch x a g m) := by
  unfold q_catch
  split <;> split
  · exact ag_sJ (ag_sJ kw_ag.rf h1) h2
  · exact ag_sJ kw_ag.rf h1
  · exact ag_sJ kw_ag.rf h2
  · exact kw_ag.rf
theorem app_I (x : kw_St) (a g q i c : Nat) : kI (q_app x a g q) i c = if i = 103 ∧ c = g then kI x 103 g + 1 else if i = 160 ∧ c = a then kI x 160 a + kI x 202 q else if i = 159 ∧ c = a then kI x 159 a + 1 else kI x i c := by
  unfold q_app
  split <;> simp [kI_sI, kI_sR]
theorem app_J (x : kw_St) (a g q : Nat) : kJ (q_app x a g q) = kJ x := by
  unfold q_app
  split <;> rfl
theorem app_R (x : kw_St) (a g q i c : Nat) : kR (q_app x a g q) i c = if i = 158 ∧ c = a then some q else if i = 157 ∧ c = a ∧ kR x 158 a = none then some q else if i = 208 ∧ kR x 158 a = some c then some q else kR x i c := by
  unfold q_app
  split
  · rename_i h
    simp only [kR_sI, kR_sR, h]
    simp
  · rename_i r h
    simp only [kR_sI, kR_sR, h]
    by_cases h1 : i = 158 ∧ c = a
    · simp [h1]
    · simp only [h1, if_false]
      by_cases h2 : i = 208
      · subst h2
        by_cases h3 : c = r
        · simp [h3]
        · have : ¬ r = c := fun q => h3 q.symm
          simp [h3, this]
      · simp [h2]
theorem app_oth {x : kw_St} {a g q c : Nat} (h1 : c ≠ a) (h2 : c ≠ g) (h3 : kR x 158 a ≠ some c) : kw_ag c x (q_app x a g q) := by
  refine ⟨fun i => ?_, fun i => by rw [app_J], fun i => ?_, ?_, ?_, ?_, ?_⟩
  · rw [app_I]; simp [h1, h2]
  · rw [app_R]; simp [h1, h3]
  all_goals (unfold q_app; split <;> rfl)
end ZQ
