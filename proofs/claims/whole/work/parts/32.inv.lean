/-! the invariant behind the reference's steps -/
section TI
variable {e : kE} {t : mo_T} {k b p : Nat} {q : List Nat}
theorem tQ_to {e e' : kE} {t t' : mo_T} {k : Nat} (h : tQ e t k) (h1 : eQ e' k = eQ e k) (h2 : eA e' 6 2 = eA e 6 2) (h3 : tA t' 17 k = tA t 17 k) (h4 : tA t' 18 k = tA t 18 k) (h5 : tA t' 19 k = tA t 19 k) (h6 : ∀ p, p ∈ eQ e k → tA t' 33 p = tA t 33 p) (h7 : ∀ p, p ∈ eQ e k → tA t' 39 p = tA t 39 p) : tQ e' t' k := by
  unfold tQ
  rw [h1, h2, h3, h4, h5]
  exact ⟨h.1, h.2.1, h.2.2.1, fun p hp => ⟨(h.2.2.2.1 p hp).1, (h6 p hp).trans (h.2.2.2.1 p hp).2⟩, h.2.2.2.2.1, chT_to h7 h.2.2.2.2.2⟩
theorem tI_uL (hI : tI e t) (v : Int64) : tI e (uL t v) := ⟨hI.1, hI.2.1, fun k hk => tQ_to (hI.2.2.1 k hk) rfl rfl rfl rfl rfl (fun _ _ => rfl) (fun _ _ => rfl), hI.2.2.2.1, hI.2.2.2.2.1, hI.2.2.2.2.2.1, hI.2.2.2.2.2.2.1, hI.2.2.2.2.2.2.2.1, hI.2.2.2.2.2.2.2.2⟩
theorem tI_clk (hI : tI e t) (hk : k < eA e 6 1) {v : Int32} (hv : bd v 0 1001500000) : tI e (uA t 25 k v) := by
  refine ⟨hI.1, fun r hr => ?_, fun r hr => tQ_to (hI.2.2.1 r hr) rfl rfl rfl rfl rfl (fun _ _ => rfl) (fun _ _ => rfl), hI.2.2.2.1, hI.2.2.2.2.1, hI.2.2.2.2.2.1, hI.2.2.2.2.2.2.1, ⟨fun r h1 h2 => ⟨fun j j1 j2 => ?_, (hI.2.2.2.2.2.2.2.1.1 r h1 h2).2⟩, hI.2.2.2.2.2.2.2.1.2.1, hI.2.2.2.2.2.2.2.1.2.2⟩, hI.2.2.2.2.2.2.2.2⟩
  · obtain ⟨a1, a2, a3, a4, a5, a6⟩ := hI.2.1 r hr
    refine ⟨a1, a2, a3, a4, a5, ?_⟩
    rw [tA_uA, if_pos rfl]
    split
    · exact hv
    · exact a6
  · have h3 := (hI.2.2.2.2.2.2.2.1.1 r h1 h2).1 j j1 j2
    rw [tA_uA]
    have h4 : r ≠ k := by omega
    simp [h4, h3]
theorem tI_cnt (hI : tI e t) {j : Nat} (hj : j = 21 ∨ j = 22 ∨ j = 23 ∨ j = 24 ∨ j = 26) (hk : k < eA e 6 1) (v : Int32) : tI e (uA t j k v) := by
  have key : (∀ r, tA (uA t j k v) 28 r = tA t 28 r) → (∀ r, eA e 6 1 ≤ r → ∀ i, tA (uA t j k v) i r = tA t i r) := by
    intro _ r hr i
    rw [tA_uA]
    have : r ≠ k := by omega
    simp [this]
  rcases hj with rfl | rfl | rfl | rfl | rfl <;> exact ⟨hI.1, hI.2.1, fun r hr => tQ_to (hI.2.2.1 r hr) rfl rfl rfl rfl rfl (fun _ _ => rfl) (fun _ _ => rfl), hI.2.2.2.1, hI.2.2.2.2.1, hI.2.2.2.2.2.1, hI.2.2.2.2.2.2.1, ⟨fun r h1 h2 => ⟨fun j j1 j2 => (key (fun _ => rfl) r h1 j).trans ((hI.2.2.2.2.2.2.2.1.1 r h1 h2).1 j j1 j2), (hI.2.2.2.2.2.2.2.1.1 r h1 h2).2⟩, hI.2.2.2.2.2.2.2.1.2.1, hI.2.2.2.2.2.2.2.1.2.2⟩, hI.2.2.2.2.2.2.2.2⟩
theorem tI_pk (hI : tI e t) {j : Nat} (hj : j = 36 ∨ j = 37 ∨ j = 38 ∨ j = 41) (v : Int32) : tI e (uA t j p v) := by
  have key : ∀ i, i < 36 → ∀ r, tA (uA t j p v) i r = tA t i r := by
    intro i hi r
    rw [tA_uA, if_neg (by omega)]
  rcases hj with rfl | rfl | rfl | rfl <;> exact ⟨hI.1, hI.2.1, fun r hr => tQ_to (hI.2.2.1 r hr) rfl rfl rfl rfl rfl (fun _ _ => rfl) (fun _ _ => rfl), hI.2.2.2.1, hI.2.2.2.2.1, hI.2.2.2.2.2.1, hI.2.2.2.2.2.2.1, ⟨fun r h1 h2 => ⟨fun j j1 j2 => (key j (by omega) r).trans ((hI.2.2.2.2.2.2.2.1.1 r h1 h2).1 j j1 j2), (hI.2.2.2.2.2.2.2.1.1 r h1 h2).2⟩, hI.2.2.2.2.2.2.2.1.2.1, hI.2.2.2.2.2.2.2.1.2.2⟩, hI.2.2.2.2.2.2.2.2⟩
theorem tI_sum (hI : tI e t) (hk : k < eA e 6 1) (v : Int64) : tI e (uB t 27 k v) := by
  refine ⟨hI.1, hI.2.1, fun r hr => tQ_to (hI.2.2.1 r hr) rfl rfl rfl rfl rfl (fun _ _ => rfl) (fun _ _ => rfl), hI.2.2.2.1, hI.2.2.2.2.1, hI.2.2.2.2.2.1, hI.2.2.2.2.2.2.1, ⟨fun r h1 h2 => ⟨(hI.2.2.2.2.2.2.2.1.1 r h1 h2).1, ?_⟩, hI.2.2.2.2.2.2.2.1.2.1, hI.2.2.2.2.2.2.2.1.2.2⟩, hI.2.2.2.2.2.2.2.2⟩
  rw [tB_uB, if_pos rfl, if_neg (by omega)]
  exact (hI.2.2.2.2.2.2.2.1.1 r h1 h2).2
theorem tI_gs (hI : tI e t) {g j : Nat} (hj : j = 10 ∨ j = 11) (hg : g < eA e 6 0) (v : Int64) : tI e (uB t j g v) := by
  have key : ∀ i r, eA e 6 0 ≤ r → tB (uB t j g v) i r = tB t i r := by
    intro i r hr
    rw [tB_uB]
    have : r ≠ g := by omega
    simp [this]
  rcases hj with rfl | rfl <;> exact ⟨hI.1, hI.2.1, fun r hr => tQ_to (hI.2.2.1 r hr) rfl rfl rfl rfl rfl (fun _ _ => rfl) (fun _ _ => rfl), hI.2.2.2.1, hI.2.2.2.2.1, hI.2.2.2.2.2.1, hI.2.2.2.2.2.2.1, ⟨hI.2.2.2.2.2.2.2.1.1, fun r h1 h2 => ⟨(key 10 r h1).trans (hI.2.2.2.2.2.2.2.1.2.1 r h1 h2).1, (key 11 r h1).trans (hI.2.2.2.2.2.2.2.1.2.1 r h1 h2).2⟩, hI.2.2.2.2.2.2.2.1.2.2⟩, hI.2.2.2.2.2.2.2.2⟩
/-- class b's first packet p has gone, q are left -/
def z_snd (e : kE) (b p : Nat) (q : List Nat) : kE := fA (fA (fQ e b q) 7 (eA e 6 3) p) 6 3 (eA e 6 3 + 1)
theorem z_snd_Q (e : kE) (b p : Nat) (q : List Nat) (k : Nat) : eQ (z_snd e b p q) k = if k = b then q else eQ e k := rfl
theorem z_snd_7 (e : kE) (b p : Nat) (q : List Nat) (i : Nat) : eA (z_snd e b p q) 7 i = if i = eA e 6 3 then p else eA e 7 i := by
  simp [z_snd, eA_fA, eA_fQ]
theorem z_snd_L (hb : b < eA e 6 1) (hQ : eQ e b = p :: q) : zL (z_snd e b p q) + 1 = zL e := by
  have h := zsum_up (f := fun k => (eQ e k).length) (g := fun k => (eQ (z_snd e b p q) k).length) hb (fun k _ hk => by rw [z_snd_Q, if_neg hk])
  simp only [z_snd_Q, if_true, hQ, List.length_cons] at h
  show zsum (fun k => (eQ (z_snd e b p q) k).length) (eA e 6 1) + 1 = _
  unfold zL
  simp only [z_snd_Q]
  omega
theorem getLast_tail {p : Nat} {q : List Nat} {r : Nat} (h : q.getLast? = some r) : (p :: q).getLast? = some r := by
  cases q with
  | nil => cases h
  | cons a q => rw [List.getLast?_cons_cons]; exact h
theorem tok_sub {v : Int64} {s n m : Nat} (hs : s ≤ 1500) (hn : n ≤ 512) (h1 : -(1500000 * (n : Int)) ≤ v.toInt) (h2 : v.toInt ≤ 20000000) (hm : n + 1 = m) : -(1500000 * (m : Int)) ≤ (v - 1000 * (nI s).toInt64).toInt ∧ (v - 1000 * (nI s).toInt64).toInt ≤ 20000000 := by
  have e2 : (1000 : Int64) * (nI s).toInt64 = lN (1000 * s) := by rw [nI_l (by omega), show (1000 : Int64) = lN 1000 from rfl, lN_mul]
  have e4 : (lN (1000 * s)).toInt = ((1000 * s : Nat) : Int) := pk_lT (by omega)
  rw [e2, fb_subL (by rw [e4]; omega) (by rw [e4]; omega), e4]
  omega
theorem tI_goes (hI : tI e t) (hb : b < eA e 6 1) (hQ : eQ e b = p :: q) (w : Int32) : tI (z_snd e b p q) (m_goes t b p (eA e 8 b) (eA e 6 3) w) := by
  obtain ⟨hD, hC, hQs, hG, hP, hO, hK, hZ, hS⟩ := hI
  have hp : p < eA e 6 2 := ((hQs b hb).2.2.2.1 p (by rw [hQ]; exact List.mem_cons_self)).1
  obtain ⟨s, s1, s2, es⟩ := (hP p hp).1
  have hgb := (hC b hb).1.2
  have hng := hD.1.2
  have hnl := hD.2.1.2
  have hnp := hD.2.2.1.2
  have hsum := hD.2.2.2.1.2
  have hzl := z_snd_L hb hQ
  refine ⟨⟨hD.1, hD.2.1, hD.2.2.1, ⟨rfl, ?_⟩, hD.2.2.2.2.1, ⟨s, by omega, s2, es⟩, fun h9 => ?_, fun _ => ⟨Nat.succ_le_succ (Nat.zero_le _), ?_⟩⟩, fun k hk => ?_, fun k hk => ?_, hG, hP, fun i hi => ?_, fun c hc => ?_, ⟨fun k h1 h2 => ?_, hZ.2.1, fun k hk h0 => ?_⟩, hS⟩
  · show eA e 6 3 + 1 + zL (z_snd e b p q) = eA e 6 2
    omega
  · exfalso
    have h8 : tA t 34 p = 0 := h9
    rw [es] at h8
    exact nI_ne0 (by omega) (by omega) h8
  · show nI p = nI (eA (z_snd e b p q) 7 (eA e 6 3 + 1 - 1))
    rw [z_snd_7, if_pos (by omega)]
  · obtain ⟨a1, a2, a3, a4, a5, a6⟩ := hC k hk
    refine ⟨a1, a2, a3, a4, ?_, a6⟩
    show -(1500 * ((eA e 6 3 + 1 : Nat) : Int)) ≤ (tA (m_goes t b p (eA e 8 b) (eA e 6 3) w) 20 k).toInt ∧ (tA (m_goes t b p (eA e 8 b) (eA e 6 3) w) 20 k).toInt ≤ 1500 * (eA e 6 2 : Int)
    have e1 : tA (m_goes t b p (eA e 8 b) (eA e 6 3) w) 20 k = if k = b then tA t 20 b - tA t 34 p else tA t 20 k := by
      simp [m_goes, tA_uB, tA_uF, tA_uA]
    rw [e1]
    split
    · rename_i hkb
      subst hkb
      have e2 : (nI s).toInt = (s : Int) := nI_toInt (by omega)
      rw [es, fb_subI (by rw [e2]; omega) (by rw [e2]; omega), e2]
      omega
    · omega
  · by_cases hkb : k = b
    · subst hkb
      obtain ⟨b1, b2, b3, b4, b5, b6⟩ := hQs k hk
      rw [hQ] at b1 b2 b3 b4 b5 b6
      have hq : eQ (z_snd e k p q) k = q := by rw [z_snd_Q, if_pos rfl]
      unfold tQ
      rw [hq]
      have e19 : tA (m_goes t k p (eA e 8 k) (eA e 6 3) w) 19 k = tA t 19 k - 1 := by simp [m_goes, tA_uB, tA_uF, tA_uA]
      have e17 : tA (m_goes t k p (eA e 8 k) (eA e 6 3) w) 17 k = tA t 39 p := by simp [m_goes, tA_uB, tA_uF, tA_uA]
      have e18 : tA (m_goes t k p (eA e 8 k) (eA e 6 3) w) 18 k = tA t 18 k := by simp [m_goes, tA_uB, tA_uF, tA_uA]
      rw [e19, e17, e18]
      refine ⟨?_, ?_, fun r hr => b3 r (getLast_tail hr), fun r hr => b4 r (List.mem_cons_of_mem _ hr), (List.nodup_cons.mp b5).2, ?_⟩
      · rw [b1, List.length_cons, nI_pred]
      · cases q with
        | nil => exact b6
        | cons r q => exact b6.1
      · refine chT_to (t := t) (fun r hr => ?_) ?_
        · simp [m_goes, tA_uB, tA_uF, tA_uA]
        · cases q with
          | nil => trivial
          | cons r q => exact b6.2
    · refine tQ_to (hQs k hk) (by rw [z_snd_Q, if_neg hkb]) rfl ?_ ?_ ?_ (fun r hr => ?_) (fun r hr => ?_) <;> simp [m_goes, tA_uB, tA_uF, tA_uA, hkb]
  · have e40 : tA (m_goes t b p (eA e 8 b) (eA e 6 3) w) 40 i = if i = eA e 6 3 then nI p else tA t 40 i := by simp [m_goes, tA_uB, tA_uF, tA_uA]
    rw [e40, z_snd_7]
    have hi2 : i < eA e 6 3 + 1 := hi
    show _ ∧ _ < eA e 6 2
    split
    · exact ⟨rfl, hp⟩
    · exact hO i (by omega)
  · obtain ⟨c1, c2, c3, c4⟩ := hK c hc
    refine ⟨c1, c2, ?_⟩
    show -(1500000 * ((eA e 6 3 + 1 : Nat) : Int)) ≤ (tB (m_goes t b p (eA e 8 b) (eA e 6 3) w) 32 c).toInt ∧ (tB (m_goes t b p (eA e 8 b) (eA e 6 3) w) 32 c).toInt ≤ 20000000
    have e32 : tB (m_goes t b p (eA e 8 b) (eA e 6 3) w) 32 c = if c = 8 + eA e 8 b then tB t 32 (8 + eA e 8 b) - 1000 * (tA t 34 p).toInt64 else if c = b then tB t 32 b - 1000 * (tA t 34 p).toInt64 else tB t 32 c := by
      simp [m_goes, tB_uB, tB_uF, tB_uA]
    rw [e32, es]
    split
    · rename_i hc2
      have h4 := hK (8 + eA e 8 b) (by omega)
      exact tok_sub s2 (by omega) h4.2.2.1 h4.2.2.2 rfl
    · split
      · have h4 := hK b (by omega)
        exact tok_sub s2 (by omega) h4.2.2.1 h4.2.2.2 rfl
      · omega
  · have h1' : eA e 6 1 ≤ k := h1
    have hkb : k ≠ b := by omega
    refine ⟨fun j j1 j2 => ?_, (hZ.1 k h1' h2).2⟩
    have h9 := (hZ.1 k h1' h2).1 j j1 j2
    have e36 : ¬ j = 36 := by omega
    have e37 : ¬ j = 37 := by omega
    have e40 : ¬ j = 40 := by omega
    simp [m_goes, tA_uB, tA_uF, tA_uA, hkb, e36, e37, e40, h9]
  · have h9 := hZ.2.2 k hk (by simpa [m_goes, tA_uB, tA_uF, tA_uA] using h0)
    refine ⟨h9.1, h9.2.1, ?_⟩
    have g1 : ¬ 12 + k = 8 + eA e 8 b := by omega
    have g2 : ¬ 12 + k = b := by omega
    simp [m_goes, tB_uB, tB_uF, tB_uA, g1, g2, h9.2.2]
end TI
