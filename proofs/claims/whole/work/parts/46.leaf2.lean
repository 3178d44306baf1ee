/-! leaf: the relation behind it -/
section ZN
variable {G : kw_G} {nu nu2 nu3 : Nat → Option Nat} {z x y : kw_St} {o : Nat} {e : kE} {t : mo_T} {k d d2 g D1 : Nat} {w gu ce b mo : Int32}
theorem all_eq (hI : tI e t) {n : Nat} : ∀ m, m ≤ eA e 6 1 → m_all t (nI n) m = nI (n + zsum (gN t) m)
  | 0, _ => rfl
  | m + 1, h => by
    obtain ⟨q, -, q2, eq⟩ := (hI.2.1 m (by omega)).2.2.1
    have hg : gN t m = q := by unfold gN; rw [eq]; exact nI_clamp (by omega)
    rw [m_all, all_eq hI m (by omega), eq, nI_add, zsum, hg]
    congr 1
    omega
theorem its_eq (hI : tI e t) {n : Nat} (hg : g < 4) : ∀ m, m ≤ eA e 6 1 → m_its t g (nI n) m = nI (n + zsum (fun k => if eA e 8 k = g then gN t k else 0) m)
  | 0, _ => rfl
  | m + 1, h => by
    have hng := hI.1.1.2
    obtain ⟨⟨h13, h8⟩, -, ⟨q, -, q2, eq⟩, -⟩ := hI.2.1 m (by omega)
    have hgn : gN t m = q := by unfold gN; rw [eq]; exact nI_clamp (by omega)
    rw [m_its, its_eq hI hg m (by omega), h13, eq, zsum]
    by_cases e1 : eA e 8 m = g
    · subst e1
      rw [if_pos rfl, if_pos rfl, hgn, nI_add]
      congr 1
      omega
    · rw [if_neg (by rw [nI_eq (by omega) (by omega)]; exact e1), if_neg e1]
      simp
theorem zGg_le (e : kE) (t : mo_T) (g : Nat) : zGg e t g ≤ zG e t := zsum_le (fun k _ => by split <;> omega)
theorem gu_bd (h : gu = 0 ∨ kw_wi gu 10 1000 = true) : bd gu 0 1000 := by
  rcases h with h | h
  · exact ⟨0, Nat.le_refl _, by omega, h⟩
  · exact (wi_bd h (a := 10) (b := 1000) (by decide) (by decide)).lo
theorem lf_iff (hz : zw G nu z o e t x) (hg : g < eA e 6 0) : m_lfok t (eA e 6 0) (eA e 6 1) g w gu ce b mo = true ↔ (eA e 6 1 < 8 ∧ kw_wi w 1 12 = true ∧ (kw_wi ce 0 1000 = true ∧ kw_wi b 1500 20000 = true) ∧ kw_wi mo 1500 60000 = true ∧ (gu = 0 ∨ kw_wi gu 10 1000 = true) ∧ ¬ ce < gu ∧ (¬ 1000 - kI x 257 o < gu ∧ ¬ kI x 50 (eA e 3 (8 + g)) - kI x 102 (eA e 0 g) < gu)) := by
  have hnl := zd_nl hz
  have hng := zd_ng hz
  have hzG := hz.1.2.2.2.2.2.2.2.2
  have hzg := zGg_le e t g
  rw [(zsh hz).2.2.2.1, (zg hz hg).2.2.1, (zbu hz (zb_g hg)).1]
  obtain ⟨r, -, r2, er⟩ := (hz.1.2.2.2.2.2.2.1 (8 + g) (by omega)).1
  rw [er]
  have key : ∀ n, n ≤ 1000 → ((¬ 1000 < m_all t (nI n) (eA e 6 1)) ↔ ¬ 1000 - nI (zG e t) < nI n) ∧ ((m_its t g (nI n) (eA e 6 1) ≤ nI r) ↔ ¬ nI r - nI (zGg e t g) < nI n) := by
    intro n hn
    rw [all_eq hz.1 _ (Nat.le_refl _), its_eq hz.1 (by omega) _ (Nat.le_refl _)]
    have e1 : zsum (gN t) (eA e 6 1) = zG e t := rfl
    have e2 : zsum (fun k => if eA e 8 k = g then gN t k else 0) (eA e 6 1) = zGg e t g := rfl
    rw [e1, e2, show (1000 : Int32) = nI 1000 from rfl]
    constructor
    · rw [nI_ltI (by omega) (by omega), pk_sub (by omega), nI_ltI (by omega) (by omega)]
      omega
    · rw [nI_leI (by omega) (by omega), lt_toInt, fb_subI (by rw [nI_toInt (by omega), nI_toInt (by omega)]; omega) (by rw [nI_toInt (by omega), nI_toInt (by omega)]; omega), nI_toInt (by omega), nI_toInt (by omega), nI_toInt (by omega)]
      omega
  unfold m_lfok
  simp only [Bool.and_eq_true, Bool.not_eq_true', Bool.or_eq_true, decide_eq_true_eq, decide_eq_false_iff_not]
  rw [er]
  constructor
  · rintro ⟨⟨h1, h2, h3, h4, h5, h6, h7⟩, h8, h9⟩
    obtain ⟨n, -, n2, en⟩ := gu_bd h4
    subst en
    rw [kw_wi_iff, le_toInt, le_toInt, nI_toInt (by omega)] at h5
    refine ⟨by omega, h3, ⟨?_, h6⟩, h7, h4, ?_, (key n n2).1.mp h8, (key n n2).2.mp h9⟩
    · rw [kw_wi_iff, le_toInt, le_toInt]
      have : (0 : Int32).toInt = 0 := rfl
      exact ⟨by omega, h5.2⟩
    · rw [lt_toInt, nI_toInt (by omega)]; omega
  · rintro ⟨h1, h2, ⟨h3, h4⟩, h5, h6, h7, h8, h9⟩
    obtain ⟨n, -, n2, en⟩ := gu_bd h6
    subst en
    rw [kw_wi_iff] at h3
    refine ⟨⟨by omega, hg, h2, h6, ?_, h4, h5⟩, (key n n2).1.mpr h8, (key n n2).2.mpr h9⟩
    rw [kw_wi_iff]
    exact ⟨Int32.not_lt.mp h7, h3.2⟩
/-- the names behind leaf -/
def z_el (e : kE) (d d2 g D1 : Nat) : kE := fA (fA (fA (fA (fA (fA (fQ e (eA e 6 1) []) 1 (eA e 6 1) d) 3 (eA e 6 1) d2) 8 (eA e 6 1) g) 6 1 (eA e 6 1 + 1)) 5 1 D1) 10 1 (zcap (eA e 10 1) (eA e 6 1))
theorem el_1 (e : kE) (d d2 g D1 r : Nat) : eA (z_el e d d2 g D1) 1 r = if r = eA e 6 1 then d else eA e 1 r := by simp [z_el, eA_fA, eA_fQ]
theorem el_3 (e : kE) (d d2 g D1 r : Nat) : eA (z_el e d d2 g D1) 3 r = if r = eA e 6 1 then d2 else eA e 3 r := by simp [z_el, eA_fA, eA_fQ]
theorem el_8 (e : kE) (d d2 g D1 r : Nat) : eA (z_el e d d2 g D1) 8 r = if r = eA e 6 1 then g else eA e 8 r := by simp [z_el, eA_fA, eA_fQ]
theorem el_o (e : kE) (d d2 g D1 c r : Nat) (h : c ≠ 1 ∧ c ≠ 3 ∧ c ≠ 8 ∧ c ≠ 6 ∧ c ≠ 5 ∧ c ≠ 10) : eA (z_el e d d2 g D1) c r = eA e c r := by simp [z_el, eA_fA, eA_fQ, h]
theorem el_Q (e : kE) (d d2 g D1 r : Nat) : eQ (z_el e d d2 g D1) r = if r = eA e 6 1 then [] else eQ e r := rfl
/-- the reference's state behind leaf -/
def z_tl (t : mo_T) (n g : Nat) (w gu ce b mo : Int32) : mo_T := uF (m_fill (uA (uA (uA (uA (uA (uA t 13 n (nI g)) 14 n w) 15 n gu) 16 n mo) 17 n (-1)) 18 n (-1)) n ce b) 3 (nI (n + 1))
theorem tl_A (t : mo_T) (n g : Nat) (w gu ce b mo : Int32) (j r : Nat) (h : r ≠ n) : tA (z_tl t n g w gu ce b mo) j r = tA t j r := by simp [z_tl, m_fill, tA_uF, tA_uB, tA_u, h]
theorem tl_Aj (t : mo_T) (n g : Nat) (w gu ce b mo : Int32) (j r : Nat) (h : ¬ (13 ≤ j ∧ j ≤ 18) ∧ j ≠ 30 ∧ j ≠ 31) : tA (z_tl t n g w gu ce b mo) j r = tA t j r := by
  have h1 : j ≠ 13 ∧ j ≠ 14 ∧ j ≠ 15 ∧ j ≠ 16 ∧ j ≠ 17 ∧ j ≠ 18 := by omega
  simp [z_tl, m_fill, tA_uF, tA_uB, tA_u, h1, h]
theorem tl_n (t : mo_T) (n g : Nat) (w gu ce b mo : Int32) : tA (z_tl t n g w gu ce b mo) 13 n = nI g ∧ tA (z_tl t n g w gu ce b mo) 14 n = w ∧ tA (z_tl t n g w gu ce b mo) 15 n = gu ∧ tA (z_tl t n g w gu ce b mo) 16 n = mo ∧ tA (z_tl t n g w gu ce b mo) 17 n = -1 ∧ tA (z_tl t n g w gu ce b mo) 30 n = ce ∧ tA (z_tl t n g w gu ce b mo) 31 n = b ∧ tB (z_tl t n g w gu ce b mo) 32 n = 1000 * b.toInt64 := by simp [z_tl, m_fill, tA_uF, tA_uB, tA_u, tB_uF, tB_u]
theorem tl_B (t : mo_T) (n g : Nat) (w gu ce b mo : Int32) (j r : Nat) (h : j ≠ 32 ∨ r ≠ n) : tB (z_tl t n g w gu ce b mo) j r = tB t j r := by
  have : ¬ (j = 32 ∧ r = n) := by omega
  simp [z_tl, m_fill, tB_uF, tB_uA, tB_u, this]
theorem tl_F (t : mo_T) (n g : Nat) (w gu ce b mo : Int32) (j : Nat) (h : j ≠ 3) : tF (z_tl t n g w gu ce b mo) j = tF t j := by simp [z_tl, m_fill, tF_uF, tF_uB, tF_uA, h]
theorem el_zL (e : kE) (d d2 g D1 : Nat) : zL (z_el e d d2 g D1) = zL e := by
  show zsum (fun k => (eQ (z_el e d d2 g D1) k).length) (eA e 6 1 + 1) = _
  rw [zsum, zsum_congr (g := fun k => (eQ e k).length) (fun k hk => by rw [el_Q, if_neg (by omega)])]
  simp [el_Q, zL]
theorem el_zW (e : kE) (d d2 g D1 r : Nat) : zW (z_el e d d2 g D1) r = zW e r := by
  show zsum (fun k => if eA (z_el e d d2 g D1) 8 k = r then (eQ (z_el e d d2 g D1) k).length else 0) (eA e 6 1 + 1) = _
  rw [zsum, zsum_congr (g := fun k => if eA e 8 k = r then (eQ e k).length else 0) (fun k hk => by have hne : k ≠ eA e 6 1 := (by omega); simp only [el_Q, el_8, hne, if_false])]
  simp [el_Q, zW]
theorem el_zG (e : kE) (t : mo_T) (d d2 g D1 n : Nat) (w ce b mo : Int32) (hn : n < 2 ^ 31) : zG (z_el e d d2 g D1) (z_tl t (eA e 6 1) g w (nI n) ce b mo) = zG e t + n := by
  show zsum (gN (z_tl t (eA e 6 1) g w (nI n) ce b mo)) (eA e 6 1 + 1) = _
  rw [zsum, zsum_congr (g := gN t) (fun k hk => by unfold gN; rw [tl_A _ _ _ _ _ _ _ _ _ _ (by omega)])]
  have : gN (z_tl t (eA e 6 1) g w (nI n) ce b mo) (eA e 6 1) = n := by unfold gN; rw [(tl_n _ _ _ _ _ _ _ _).2.2.1]; exact nI_clamp hn
  rw [this]; rfl
theorem el_zGg (e : kE) (t : mo_T) (d d2 g D1 n r : Nat) (w ce b mo : Int32) (hn : n < 2 ^ 31) : zGg (z_el e d d2 g D1) (z_tl t (eA e 6 1) g w (nI n) ce b mo) r = zGg e t r + (if r = g then n else 0) := by
  show zsum (fun k => if eA (z_el e d d2 g D1) 8 k = r then gN (z_tl t (eA e 6 1) g w (nI n) ce b mo) k else 0) (eA e 6 1 + 1) = _
  rw [zsum, zsum_congr (g := fun k => if eA e 8 k = r then gN t k else 0) (fun k hk => by have hne : k ≠ eA e 6 1 := (by omega); simp only [gN, el_8, hne, if_false, tl_A _ _ _ _ _ _ _ _ _ _ hne])]
  have : gN (z_tl t (eA e 6 1) g w (nI n) ce b mo) (eA e 6 1) = n := by unfold gN; rw [(tl_n _ _ _ _ _ _ _ _).2.2.1]; exact nI_clamp hn
  rw [this, el_8, if_pos rfl]
  show zGg e t r + _ = _
  by_cases h : g = r
  · rw [if_pos h, if_pos h.symm]
  · rw [if_neg h, if_neg (fun q => h q.symm)]
theorem tI_lf (hI : tI e t) (h8 : eA e 6 1 < 8) (hg : g < eA e 6 0) (hw : bd w 1 12) {n : Nat} (hn : n ≤ 1000) (hG : zG e t + n ≤ 1000) (hc : bd ce 0 1000) (hb : bd b 0 20000) (hm : bd mo 0 60000) : tI (z_el e d d2 g D1) (z_tl t (eA e 6 1) g w (nI n) ce b mo) := by
  have htf := tok_full hb
  have hng := hI.1.1.2
  have hnp := hI.1.2.2.1.2
  have z0 := hI.2.2.2.2.2.2.2.1.1 _ (Nat.le_refl _) h8
  have hF : ∀ j, j ≠ 3 → tF (z_tl t (eA e 6 1) g w (nI n) ce b mo) j = tF t j := fun j hj => tl_F _ _ _ _ _ _ _ _ _ hj
  have e6 : ∀ r, r ≠ 1 → eA (z_el e d d2 g D1) 6 r = eA e 6 r := fun r hr => by simp [z_el, eA_fA, eA_fQ, hr]
  obtain ⟨m13, m14, m15, m16, m17, m30, m31, m32⟩ := tl_n t (eA e 6 1) g w (nI n) ce b mo
  refine ⟨⟨?_, ⟨rfl, by show eA e 6 1 + 1 ≤ 8; omega⟩, ?_, ?_, ?_, ?_, ?_, ?_⟩, fun k hk => ?_, fun k hk => ?_, fun r hr => ?_, fun p hp => ?_, fun i hi => ?_, fun c hc2 => ?_, ⟨fun k h1 h2 => ?_, fun r h1 h2 => ?_, fun j hj h0 => ?_⟩, ?_⟩
  · rw [hF 2 (by decide), e6 0 (by decide)]; exact hI.1.1
  · rw [hF 4 (by decide), e6 2 (by decide)]; exact hI.1.2.2.1
  · rw [hF 5 (by decide), e6 3 (by decide), e6 2 (by decide), el_zL]; exact hI.1.2.2.2.1
  · rw [hF 1 (by decide)]; exact hI.1.2.2.2.2.1
  · rw [hF 7 (by decide)]; exact hI.1.2.2.2.2.2.1
  · rw [hF 7 (by decide), hF 8 (by decide)]; exact hI.1.2.2.2.2.2.2.1
  · rw [hF 7 (by decide), hF 8 (by decide), e6 3 (by decide), el_o _ _ _ _ _ 7 _ (by decide)]; exact hI.1.2.2.2.2.2.2.2
  · have hk2 : k < eA e 6 1 + 1 := hk
    unfold tC
    rw [el_8, e6 0 (by decide), e6 3 (by decide), e6 2 (by decide)]
    by_cases e1 : k = eA e 6 1
    · subst e1
      rw [if_pos rfl, m13, m14, m15, m16, tl_Aj _ _ _ _ _ _ _ _ 20 _ (by decide), tl_Aj _ _ _ _ _ _ _ _ 25 _ (by decide), z0.1 20 (by decide) (by decide), z0.1 25 (by decide) (by decide)]
      refine ⟨⟨rfl, hg⟩, hw, ⟨n, Nat.zero_le _, hn, rfl⟩, hm, ⟨?_, ?_⟩, ⟨0, Nat.le_refl _, by omega, rfl⟩⟩
      · rw [Int32.toInt_zero]; omega
      · rw [Int32.toInt_zero]; omega
    · have hk3 : k < eA e 6 1 := by omega
      rw [if_neg e1]
      have f := fun j => tl_A t (eA e 6 1) g w (nI n) ce b mo j k e1
      rw [f, f, f, f, f, f]
      exact hI.2.1 k hk3
  · have hk2 : k < eA e 6 1 + 1 := hk
    by_cases e1 : k = eA e 6 1
    · subst e1
      unfold tQ
      rw [el_Q, if_pos rfl, tl_Aj _ _ _ _ _ _ _ _ 19 _ (by decide), z0.1 19 (by decide) (by decide), m17]
      exact ⟨rfl, rfl, (fun p hp => by cases hp), (fun p hp => by cases hp), List.nodup_nil, trivial⟩
    · have hk3 : k < eA e 6 1 := by omega
      have f := fun j => tl_A t (eA e 6 1) g w (nI n) ce b mo j k e1
      exact tQ_to (hI.2.2.1 k hk3) (by rw [el_Q, if_neg e1]) (e6 2 (by decide)) (f 17) (f 18) (f 19) (fun _ _ => tl_Aj _ _ _ _ _ _ _ _ 33 _ (by decide)) (fun _ _ => tl_Aj _ _ _ _ _ _ _ _ 39 _ (by decide))
  · rw [e6 0 (by decide)] at hr
    rw [tl_Aj _ _ _ _ _ _ _ _ 9 _ (by decide)]; exact hI.2.2.2.1 r hr
  · rw [e6 2 (by decide)] at hp
    unfold tP
    rw [tl_Aj _ _ _ _ _ _ _ _ 34 _ (by decide), tl_Aj _ _ _ _ _ _ _ _ 35 _ (by decide)]; exact hI.2.2.2.2.1 p hp
  · rw [e6 3 (by decide)] at hi
    rw [tl_Aj _ _ _ _ _ _ _ _ 40 _ (by decide), el_o _ _ _ _ _ 7 _ (by decide), e6 2 (by decide)]; exact hI.2.2.2.2.2.1 i hi
  · unfold tK
    rw [e6 3 (by decide)]
    by_cases e1 : c = eA e 6 1
    · subst e1
      rw [m30, m31, m32]
      exact ⟨hc, hb, by omega, by omega⟩
    · have f := fun j => tl_A t (eA e 6 1) g w (nI n) ce b mo j c e1
      rw [f, f, tl_B _ _ _ _ _ _ _ _ _ _ (Or.inr e1)]
      exact hI.2.2.2.2.2.2.1 c hc2
  · have h1' : eA e 6 1 + 1 ≤ k := h1
    have h9 := hI.2.2.2.2.2.2.2.1.1 k (by omega) h2
    refine ⟨fun j j1 j2 => ?_, ?_⟩
    · rw [tl_A _ _ _ _ _ _ _ _ _ _ (by omega)]; exact h9.1 j j1 j2
    · rw [tl_B _ _ _ _ _ _ _ _ _ _ (Or.inl (by decide))]; exact h9.2
  · rw [e6 0 (by decide)] at h1
    rw [tl_B _ _ _ _ _ _ _ _ _ _ (Or.inl (by decide)), tl_B _ _ _ _ _ _ _ _ _ _ (Or.inl (by decide))]
    exact hI.2.2.2.2.2.2.2.1.2.1 r h1 h2
  · rw [tl_Aj _ _ _ _ _ _ _ _ 28 _ (by decide)] at h0
    have e1 : 12 + j ≠ eA e 6 1 := by omega
    rw [tl_A _ _ _ _ _ _ _ _ _ _ e1, tl_A _ _ _ _ _ _ _ _ _ _ e1, tl_B _ _ _ _ _ _ _ _ _ _ (Or.inr e1)]
    exact hI.2.2.2.2.2.2.2.1.2.2 j hj h0
  · rw [el_zG _ _ _ _ _ _ _ _ _ _ _ (by omega)]; exact hG
end ZN
