/-! arrive: a packet more -/
section ZS
variable {G : kw_G} {nu nu3 : Nat → Option Nat} {z x xs x3 y : kw_St} {o : Nat} {e : kE} {t T : mo_T} {k g d D1 pl : Nat} {sz mk : Int32}
def z_tp (T : mo_T) (k np : Nat) (sz mk : Int32) : mo_T := uA (uA (uA (uA (uA (uA (uA (uA T 33 np (nI k)) 34 np sz) 35 np (tF T 1)) 36 np (-1)) 37 np 0) 38 np (-1)) 39 np (-1)) 41 np mk
def z_ta (T : mo_T) (k np pl : Nat) (sz mk : Int32) : mo_T := uF (uA (uA (uA (if tA T 19 k = 0 then uA (z_tp T k np sz mk) 17 k (nI np) else uA (z_tp T k np sz mk) 39 pl (nI np)) 18 k (nI np)) 19 k (tA T 19 k + 1)) 20 k (tA T 20 k + sz)) 4 (nI (np + 1))
theorem arF_eq (t : mo_T) (nl k g np pl : Nat) (sz : Int32) : m_arF (m_arS t nl k g sz) t k np pl sz = z_ta (m_arS t nl k g sz) k np pl sz (m_arM t k sz) := by
  unfold m_arF z_ta m_arP z_tp
  rw [m_arS_A, m_arS_A, m_arS_F]
theorem ta_F (T : mo_T) (k np pl : Nat) (sz mk : Int32) (j : Nat) : tF (z_ta T k np pl sz mk) j = if j = 4 then nI (np + 1) else tF T j := by
  unfold z_ta z_tp
  split <;> simp [tF_uF, tF_uA]
theorem ta_L (T : mo_T) (k np pl : Nat) (sz mk : Int32) : tL (z_ta T k np pl sz mk) = tL T := by
  unfold z_ta z_tp
  split <;> rfl
theorem ta_B (T : mo_T) (k np pl : Nat) (sz mk : Int32) (j r : Nat) : tB (z_ta T k np pl sz mk) j r = tB T j r := by
  unfold z_ta z_tp
  split <;> rfl
theorem ta_A (T : mo_T) (k np pl : Nat) (sz mk : Int32) (j r : Nat) : tA (z_ta T k np pl sz mk) j r = if j = 20 ∧ r = k then tA T 20 k + sz else if j = 19 ∧ r = k then tA T 19 k + 1 else if j = 18 ∧ r = k then nI np else if tA T 19 k = 0 ∧ j = 17 ∧ r = k then nI np else if ¬ tA T 19 k = 0 ∧ j = 39 ∧ r = pl then nI np else if j = 41 ∧ r = np then mk else if j = 39 ∧ r = np then -1 else if j = 38 ∧ r = np then -1 else if j = 37 ∧ r = np then 0 else if j = 36 ∧ r = np then -1 else if j = 35 ∧ r = np then tF T 1 else if j = 34 ∧ r = np then sz else if j = 33 ∧ r = np then nI k else tA T j r := by
  unfold z_ta z_tp
  by_cases h : tA T 19 k = 0
  · rw [if_pos h]; simp [tA_uF, tA_u, h]
  · rw [if_neg h]; simp [tA_uF, tA_u, h]
/-- what stays -/
theorem ta_o (T : mo_T) (k np pl : Nat) (sz mk : Int32) {j r : Nat} (h : (j < 17 ∨ (20 < j ∧ j < 33) ∨ j = 40) ∨ (j ≤ 20 ∧ r ≠ k) ∨ (33 ≤ j ∧ j ≠ 39 ∧ r ≠ np) ∨ (j = 39 ∧ r ≠ np ∧ (tA T 19 k = 0 ∨ r ≠ pl))) : tA (z_ta T k np pl sz mk) j r = tA T j r := by
  rw [ta_A]
  rcases h with h | h | h | h
  · have : j ≠ 20 ∧ j ≠ 19 ∧ j ≠ 18 ∧ j ≠ 17 ∧ j ≠ 39 ∧ j ≠ 41 ∧ j ≠ 38 ∧ j ≠ 37 ∧ j ≠ 36 ∧ j ≠ 35 ∧ j ≠ 34 ∧ j ≠ 33 := by omega
    simp [this]
  · have : j ≠ 39 ∧ j ≠ 41 ∧ j ≠ 38 ∧ j ≠ 37 ∧ j ≠ 36 ∧ j ≠ 35 ∧ j ≠ 34 ∧ j ≠ 33 := by omega
    simp [this, h.2]
  · have : j ≠ 20 ∧ j ≠ 19 ∧ j ≠ 18 ∧ j ≠ 17 := by omega
    simp [this, h.2.2, h.2.1]
  · obtain ⟨h1, h2, h3⟩ := h
    subst h1
    rcases h3 with h3 | h3
    · simp [h2, h3]
    · simp [h2, h3]
/-- the names behind it -/
def z_ep (e : kE) (k d D1 : Nat) : kE := fA (fA (fA (fA (fQ e k (eQ e k ++ [eA e 6 2])) 2 (eA e 6 2) d) 6 2 (eA e 6 2 + 1)) 5 2 D1) 10 2 (zcap (eA e 10 2) (eA e 6 2))
theorem ep_2 (e : kE) (k d D1 r : Nat) : eA (z_ep e k d D1) 2 r = if r = eA e 6 2 then d else eA e 2 r := by simp [z_ep, eA_fA, eA_fQ]
theorem ep_6 (e : kE) (k d D1 r : Nat) : eA (z_ep e k d D1) 6 r = if r = 2 then eA e 6 2 + 1 else eA e 6 r := by simp [z_ep, eA_fA, eA_fQ]
theorem ep_o (e : kE) (k d D1 c r : Nat) (h : c ≠ 2 ∧ c ≠ 6 ∧ c ≠ 5 ∧ c ≠ 10) : eA (z_ep e k d D1) c r = eA e c r := by simp [z_ep, eA_fA, eA_fQ, h]
theorem ep_Q (e : kE) (k d D1 r : Nat) : eQ (z_ep e k d D1) r = if r = k then eQ e k ++ [eA e 6 2] else eQ e r := rfl
theorem ep_zL (hk : k < eA e 6 1) : zL (z_ep e k d D1) = zL e + 1 := by
  have h := zsum_up (f := fun j => (eQ e j).length) (g := fun j => (eQ (z_ep e k d D1) j).length) hk (fun j _ hj => by rw [ep_Q, if_neg hj])
  simp only [ep_Q, if_true, List.length_append, List.length_singleton] at h
  show zsum (fun j => (eQ (z_ep e k d D1) j).length) (eA e 6 1) = zsum _ (eA e 6 1) + 1
  simp only [ep_Q]
  omega
theorem ep_zW (hk : k < eA e 6 1) (r : Nat) : zW (z_ep e k d D1) r = zW e r + (if r = eA e 8 k then 1 else 0) := by
  have h := zsum_up (f := fun j => if eA e 8 j = r then (eQ e j).length else 0) (g := fun j => if eA e 8 j = r then (eQ (z_ep e k d D1) j).length else 0) hk (fun j _ hj => by rw [ep_Q, if_neg hj])
  simp only [ep_Q, if_true, List.length_append, List.length_singleton] at h
  show zsum (fun j => if eA e 8 j = r then (eQ (z_ep e k d D1) j).length else 0) (eA e 6 1) = zsum _ (eA e 6 1) + _
  simp only [ep_Q]
  by_cases e1 : eA e 8 k = r
  · subst e1
    simp only [if_true] at h ⊢
    omega
  · have e2 : ¬ r = eA e 8 k := fun h => e1 h.symm
    simp only [e1, e2, if_false] at h ⊢
    omega
theorem chT_app {t t' : mo_T} {n : Nat} (hn : tA t' 39 n = -1) : ∀ {q : List Nat}, (∀ p, p ∈ q → q.getLast? ≠ some p → tA t' 39 p = tA t 39 p) → (∀ p, q.getLast? = some p → tA t' 39 p = nI n) → q.Nodup → chT t q → chT t' (q ++ [n])
  | [], _, _, _, _ => hn
  | [p], _, h2, _, _ => ⟨h2 p rfl, hn⟩
  | p :: r :: q, h1, h2, h3, h4 => by
    have hl : (p :: r :: q).getLast? = (r :: q).getLast? := List.getLast?_cons_cons
    have hp : (p :: r :: q).getLast? ≠ some p := fun h9 => by
      rw [hl] at h9
      exact (List.nodup_cons.mp h3).1 (List.mem_of_getLast? h9)
    refine ⟨(h1 p List.mem_cons_self hp).trans h4.1, ?_⟩
    exact chT_app hn (fun a ha h9 => h1 a (List.mem_cons_of_mem _ ha) (by rw [hl]; exact h9)) (fun a h9 => h2 a (by rw [hl]; exact h9)) (List.nodup_cons.mp h3).2 h4.2
theorem chX_app {e e' : kE} {x y : kw_St} {n : Nat} (hn : kR y 208 (eA e' 2 n) = none) : ∀ {q : List Nat}, (∀ p, p ∈ q → eA e' 2 p = eA e 2 p) → (∀ p, p ∈ q → q.getLast? ≠ some p → kR y 208 (eA e 2 p) = kR x 208 (eA e 2 p)) → (∀ p, q.getLast? = some p → kR y 208 (eA e 2 p) = some (eA e' 2 n)) → q.Nodup → chX e x q → chX e' y (q ++ [n])
  | [], _, _, _, _, _ => hn
  | [p], h0, _, h2, _, _ => ⟨by rw [h0 p List.mem_cons_self]; exact h2 p rfl, hn⟩
  | p :: r :: q, h0, h1, h2, h3, h4 => by
    have hl : (p :: r :: q).getLast? = (r :: q).getLast? := List.getLast?_cons_cons
    have hp : (p :: r :: q).getLast? ≠ some p := fun h9 => by
      rw [hl] at h9
      exact (List.nodup_cons.mp h3).1 (List.mem_of_getLast? h9)
    refine ⟨?_, chX_app hn (fun a ha => h0 a (List.mem_cons_of_mem _ ha)) (fun a ha h9 => h1 a (List.mem_cons_of_mem _ ha) (by rw [hl]; exact h9)) (fun a h9 => h2 a (by rw [hl]; exact h9)) (List.nodup_cons.mp h3).2 h4.2⟩
    rw [h0 p List.mem_cons_self, h0 r (List.mem_cons_of_mem _ List.mem_cons_self)]
    exact (h1 p List.mem_cons_self hp).trans h4.1
theorem tI_arr (hI : tI e T) (hk : k < eA e 6 1) (hnp : eA e 6 2 < 512) (hs : bd sz 64 1500) (hpl : ∀ p, (eQ e k).getLast? = some p → p = pl) (hpp : pl ≠ eA e 6 2 ∨ tA T 19 k = 0) : tI (z_ep e k d D1) (z_ta T k (eA e 6 2) pl sz mk) := by
  have hsr := hs.rng (by decide)
  have hnl := hI.1.2.1.2
  have hsum := hI.1.2.2.2.1.2
  have hF : ∀ j, j ≠ 4 → tF (z_ta T k (eA e 6 2) pl sz mk) j = tF T j := fun j hj => by rw [ta_F, if_neg hj]
  have e6 : ∀ r, r ≠ 2 → eA (z_ep e k d D1) 6 r = eA e 6 r := fun r hr => by rw [ep_6, if_neg hr]
  have e62 : eA (z_ep e k d D1) 6 2 = eA e 6 2 + 1 := by rw [ep_6, if_pos rfl]
  have hplm : ¬ tA T 19 k = 0 → pl ∈ eQ e k := by
    intro h
    obtain ⟨p, q, hQ⟩ := tq_wait hI hk h
    cases hL : (eQ e k).getLast? with
    | none => rw [List.getLast?_eq_none_iff] at hL; rw [hL] at hQ; cases hQ
    | some r =>
      rw [← hpl r hL]
      exact List.mem_of_getLast? hL
  refine ⟨⟨?_, ?_, ⟨?_, ?_⟩, ?_, ?_, ?_, ?_, ?_⟩, fun j hj => ?_, fun j hj => ?_, fun r hr => ?_, fun p hp => ?_, fun i hi => ?_, fun c hc => ?_, ⟨fun j h1 h2 => ?_, fun r h1 h2 => ?_, fun j hj h0 => ?_⟩, ?_⟩
  · rw [hF 2 (by decide), e6 0 (by decide)]; exact hI.1.1
  · rw [hF 3 (by decide), e6 1 (by decide)]; exact hI.1.2.1
  · rw [ta_F, if_pos rfl, e62]
  · rw [e62]; omega
  · rw [hF 5 (by decide), e6 3 (by decide), e62, ep_zL hk]
    exact ⟨hI.1.2.2.2.1.1, by omega⟩
  · rw [hF 1 (by decide)]; exact hI.1.2.2.2.2.1
  · rw [hF 7 (by decide)]; exact hI.1.2.2.2.2.2.1
  · rw [hF 7 (by decide), hF 8 (by decide)]; exact hI.1.2.2.2.2.2.2.1
  · rw [hF 7 (by decide), hF 8 (by decide), e6 3 (by decide), ep_o _ _ _ _ 7 _ (by decide)]; exact hI.1.2.2.2.2.2.2.2
  · rw [e6 1 (by decide)] at hj
    obtain ⟨a1, a2, a3, a4, a5, a6⟩ := hI.2.1 j hj
    unfold tC
    rw [ep_o _ _ _ _ 8 _ (by decide), e6 0 (by decide), e6 3 (by decide), e62, ta_o _ _ _ _ _ _ (j := 13) (by omega), ta_o _ _ _ _ _ _ (j := 14) (by omega), ta_o _ _ _ _ _ _ (j := 15) (by omega), ta_o _ _ _ _ _ _ (j := 16) (by omega), ta_o _ _ _ _ _ _ (j := 25) (by omega)]
    refine ⟨a1, a2, a3, a4, ?_, a6⟩
    have f20 : tA (z_ta T k (eA e 6 2) pl sz mk) 20 j = if j = k then tA T 20 k + sz else tA T 20 j := by rw [ta_A]; simp
    rw [f20]
    split
    · rename_i h
      subst h
      rw [fb_addI (by omega) (by omega)]
      omega
    · omega
  · rw [e6 1 (by decide)] at hj
    obtain ⟨b1, b2, b3, b4, b5, b6⟩ := hI.2.2.1 j hj
    by_cases e1 : j = k
    · subst e1
      unfold tQ
      rw [ep_Q, if_pos rfl, e62]
      have f19 : tA (z_ta T j (eA e 6 2) pl sz mk) 19 j = tA T 19 j + 1 := by rw [ta_A]; simp
      have f18 : tA (z_ta T j (eA e 6 2) pl sz mk) 18 j = nI (eA e 6 2) := by rw [ta_A]; simp
      have f33 : tA (z_ta T j (eA e 6 2) pl sz mk) 33 (eA e 6 2) = nI j := by rw [ta_A]; simp
      have f39 : tA (z_ta T j (eA e 6 2) pl sz mk) 39 (eA e 6 2) = -1 := by
        rw [ta_A]
        rcases hpp with h | h
        · have h' : ¬ eA e 6 2 = pl := fun q => h q.symm
          simp [h']
        · simp [h]
      rw [f19, f18]
      refine ⟨?_, ?_, fun p hp => ?_, fun p hp => ?_, ?_, ?_⟩
      · rw [b1, List.length_append, List.length_singleton, nI_1]
      · have f17 : tA (z_ta T j (eA e 6 2) pl sz mk) 17 j = if tA T 19 j = 0 then nI (eA e 6 2) else tA T 17 j := by rw [ta_A]; simp
        rw [f17]
        cases hQ : eQ e j with
        | nil => rw [if_pos (tq_nil hI hj hQ)]; rfl
        | cons p q =>
          rw [if_neg (tq_cons hI hj hQ).1, b2, hQ]
          rfl
      · rw [List.getLast?_append] at hp
        simp at hp
        rw [hp]
      · rw [List.mem_append, List.mem_singleton] at hp
        rcases hp with hp | hp
        · have h9 := b4 p hp
          exact ⟨by omega, by rw [ta_o _ _ _ _ _ _ (j := 33) (by omega)]; exact h9.2⟩
        · subst hp
          exact ⟨by omega, f33⟩
      · rw [List.nodup_append]
        refine ⟨b5, by simp, fun a ha c hc => ?_⟩
        rw [List.mem_singleton] at hc
        have := (b4 a ha).1
        omega
      · refine chT_app (t := T) f39 (fun p hp h9 => ?_) (fun p hp => ?_) b5 b6
        · have h10 := (b4 p hp).1
          refine ta_o _ _ _ _ _ _ (Or.inr (Or.inr (Or.inr ⟨rfl, by omega, ?_⟩)))
          by_cases h0 : tA T 19 j = 0
          · exact Or.inl h0
          · refine Or.inr (fun h11 => h9 ?_)
            cases hL : (eQ e j).getLast? with
            | none => rw [List.getLast?_eq_none_iff] at hL; rw [hL] at hp; cases hp
            | some r => rw [hpl r hL, h11]
        · have h10 := hpl p hp
          have h0 : ¬ tA T 19 j = 0 := by
            cases hQ : eQ e j with
            | nil => rw [hQ] at hp; cases hp
            | cons a q => exact (tq_cons hI hj hQ).1
          rw [ta_A]
          simp [h0, h10]
    · unfold tQ
      rw [ep_Q, if_neg e1, e62, ta_o _ _ _ _ _ _ (j := 17) (r := j) (by omega), ta_o _ _ _ _ _ _ (j := 18) (r := j) (by omega), ta_o _ _ _ _ _ _ (j := 19) (r := j) (by omega)]
      refine ⟨b1, b2, b3, fun p hp => ?_, b5, chT_to (t := T) (fun p hp => ?_) b6⟩
      · have h9 := b4 p hp
        exact ⟨by omega, by rw [ta_o _ _ _ _ _ _ (j := 33) (by omega)]; exact h9.2⟩
      · have h10 := (b4 p hp).1
        refine ta_o _ _ _ _ _ _ (Or.inr (Or.inr (Or.inr ⟨rfl, by omega, ?_⟩)))
        by_cases h0 : tA T 19 k = 0
        · exact Or.inl h0
        · refine Or.inr (fun h11 => ?_)
          subst h11
          have h12 := (hI.2.2.1 k hk).2.2.2.1 p (hplm h0)
          have h13 := (b4 p hp).2
          rw [h12.2] at h13
          exact e1 ((nI_eq (by omega) (by omega)).mp h13).symm
  · rw [e6 0 (by decide)] at hr
    rw [ta_o _ _ _ _ _ _ (j := 9) (by omega)]; exact hI.2.2.2.1 r hr
  · rw [e62] at hp
    unfold tP
    by_cases e1 : p = eA e 6 2
    · subst e1
      have f34 : tA (z_ta T k (eA e 6 2) pl sz mk) 34 (eA e 6 2) = sz := by rw [ta_A]; simp
      have f35 : tA (z_ta T k (eA e 6 2) pl sz mk) 35 (eA e 6 2) = tF T 1 := by rw [ta_A]; simp
      rw [f34, f35]
      exact ⟨hs, hI.1.2.2.2.2.1⟩
    · rw [ta_o _ _ _ _ _ _ (j := 34) (by omega), ta_o _ _ _ _ _ _ (j := 35) (by omega)]
      exact hI.2.2.2.2.1 p (by omega)
  · rw [e6 3 (by decide)] at hi
    rw [ta_o _ _ _ _ _ _ (j := 40) (by omega), ep_o _ _ _ _ 7 _ (by decide), e62]
    have := hI.2.2.2.2.2.1 i hi
    exact ⟨this.1, by omega⟩
  · unfold tK
    rw [e6 3 (by decide), ta_o _ _ _ _ _ _ (j := 30) (by omega), ta_o _ _ _ _ _ _ (j := 31) (by omega), ta_B]
    exact hI.2.2.2.2.2.2.1 c hc
  · rw [e6 1 (by decide)] at h1
    have h9 := hI.2.2.2.2.2.2.2.1.1 j h1 h2
    refine ⟨fun i i1 i2 => ?_, ?_⟩
    · rw [ta_o _ _ _ _ _ _ (by omega)]; exact h9.1 i i1 i2
    · rw [ta_B]; exact h9.2
  · rw [e6 0 (by decide)] at h1
    rw [ta_B, ta_B]; exact hI.2.2.2.2.2.2.2.1.2.1 r h1 h2
  · rw [ta_o _ _ _ _ _ _ (j := 28) (by omega)] at h0
    rw [ta_o _ _ _ _ _ _ (j := 30) (by omega), ta_o _ _ _ _ _ _ (j := 31) (by omega), ta_B]
    exact hI.2.2.2.2.2.2.2.1.2.2 j hj h0
  · have : zG (z_ep e k d D1) (z_ta T k (eA e 6 2) pl sz mk) = zG e T := by
      show zsum (gN (z_ta T k (eA e 6 2) pl sz mk)) (eA e 6 1) = zsum (gN T) (eA e 6 1)
      exact zsum_congr (fun j _ => by unfold gN; rw [ta_o _ _ _ _ _ _ (j := 15) (by omega)])
    rw [this]
    exact hI.2.2.2.2.2.2.2.2
end ZS
