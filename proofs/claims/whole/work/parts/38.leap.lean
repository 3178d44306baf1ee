/-! the link is busy; nobody can go: leaps -/
section TL
variable {e : kE} {t u v : mo_T} {en : Int32} {k b p : Nat} {q : List Nat}
theorem busy_n (hI : tI e v) (hF : zF e v) (h7 : ¬ tF v 7 = 0) (hlt : tF v 1 < en) (hen : en.toInt ≤ 1000000000) : (if en < nI (eA e 9 0) then en else nI (eA e 9 0)) - tF v 1 = m_n v en := by
  have h1 := hI.1.2.2.2.2.1.rng (by decide)
  have h8 := hI.1.2.2.2.2.2.1.rng (by decide)
  have hfr := hF.2 h7
  have hfi : (nI (eA e 9 0)).toInt = (tF v 1).toInt + (tF v 7).toInt := by rw [hfr, fb_addI (by omega) (by omega)]
  rw [lt_toInt] at hlt
  have hs : (en - tF v 1).toInt = en.toInt - (tF v 1).toInt := sub_toInt (by omega) (by omega)
  unfold m_n
  rw [if_neg h7]
  by_cases hc : en - tF v 1 ≤ tF v 7
  · rw [if_pos hc]
    rw [le_toInt, hs] at hc
    by_cases hd : en < nI (eA e 9 0)
    · rw [if_pos hd]
    · rw [if_neg hd]
      rw [lt_toInt, hfi] at hd
      have : nI (eA e 9 0) = en := Int32.toInt_inj.mp (by rw [hfi]; omega)
      rw [this]
  · rw [if_neg hc]
    rw [le_toInt, hs] at hc
    have hd : ¬ en < nI (eA e 9 0) := by rw [lt_toInt, hfi]; omega
    rw [if_neg hd, hfr]
    exact Int32.toInt_inj.mp (by rw [sub_toInt (by omega) (by rw [fb_addI (by omega) (by omega)]; omega), fb_addI (by omega) (by omega)]; omega)
theorem busy_step (hI : tI e v) (h7 : ¬ tF v 7 = 0) : m_step2 v en = m_pasN (uF (uF (uF v 6 (tF v 6 + m_n v en)) 7 (tF v 7 - m_n v en)) 8 (if tF v 7 - m_n v en = 0 then -1 else tF v 8)) (m_n v en) 20 := by
  have h8 := hI.1.2.2.2.2.2.1.rng (by decide)
  unfold m_step2
  rw [if_neg]
  rw [le_toInt]
  have h9 : (tF v 7).toInt ≠ 0 := fun e9 => h7 (Int32.toInt_inj.mp (by rw [e9]; rfl))
  have : (0 : Int32).toInt = 0 := rfl
  omega
theorem busy_F (hI : tI e v) (hF : zF e v) (h7 : ¬ tF v 7 = 0) (hlt : tF v 1 < en) (hen : en.toInt ≤ 1000000000) : zF e (m_step2 v en) := by
  obtain ⟨n1, n2, n3⟩ := n_ok hI hlt hen
  have n3 := n3 h7
  have h1 := hI.1.2.2.2.2.1.rng (by decide)
  have h8 := hI.1.2.2.2.2.2.1.rng (by decide)
  have hfr := hF.2 h7
  rw [busy_step hI h7]
  have e1 : tF (m_pasN (uF (uF (uF v 6 (tF v 6 + m_n v en)) 7 (tF v 7 - m_n v en)) 8 (if tF v 7 - m_n v en = 0 then -1 else tF v 8)) (m_n v en) 20) 1 = tF v 1 + m_n v en := by rw [pasN_F, if_pos rfl]; rfl
  have e7 : tF (m_pasN (uF (uF (uF v 6 (tF v 6 + m_n v en)) 7 (tF v 7 - m_n v en)) 8 (if tF v 7 - m_n v en = 0 then -1 else tF v 8)) (m_n v en) 20) 7 = tF v 7 - m_n v en := by rw [pasN_F, if_neg (by decide)]; rfl
  unfold zF
  rw [e1, e7, hfr]
  have hs : (tF v 7 - m_n v en).toInt = (tF v 7).toInt - (m_n v en).toInt := sub_toInt (by omega) (by omega)
  have ha : (tF v 1 + m_n v en).toInt = (tF v 1).toInt + (m_n v en).toInt := fb_addI (by omega) (by omega)
  have hb : (tF v 1 + tF v 7).toInt = (tF v 1).toInt + (tF v 7).toInt := fb_addI (by omega) (by omega)
  constructor
  · intro h9
    have h10 : (tF v 7 - m_n v en).toInt = 0 := by rw [h9]; rfl
    rw [le_toInt, ha, hb]
    omega
  · intro _
    exact Int32.toInt_inj.mp (by rw [hb, fb_addI (by rw [ha, hs]; omega) (by rw [ha, hs]; omega), ha, hs]; omega)
theorem am_none {f : Nat → Bool} {lt : Nat → Nat → Bool} : ∀ n, m_am f lt n = none ↔ ∀ k, k < n → f k = false
  | 0 => ⟨fun _ k h => absurd h (Nat.not_lt_zero k), fun _ => rfl⟩
  | n + 1 => by
    have ih := am_none (f := f) (lt := lt) n
    constructor
    · intro h k hk
      simp only [m_am] at h
      cases hm : m_am f lt n with
      | none =>
        rw [hm] at h
        by_cases e1 : k = n
        · subst e1
          cases hf : f k with
          | false => rfl
          | true => rw [hf] at h; simp at h
        · exact ih.mp hm k (by omega)
      | some c =>
        rw [hm] at h
        simp only at h
        split at h <;> cases h
    · intro h
      simp only [m_am]
      rw [ih.mpr (fun k hk => h k (by omega))]
      simp [h n (by omega)]
theorem best_none {t : mo_T} {fp gr : Nat → Nat} {nl : Nat} : ∀ n, m_best t fp gr nl n = none ↔ ∀ g, g < n → ∀ k, k < nl → m_exf t fp g k = false
  | 0 => ⟨fun _ k h => absurd h (Nat.not_lt_zero k), fun _ => rfl⟩
  | n + 1 => by
    have ih := best_none (t := t) (fp := fp) (gr := gr) (nl := nl) n
    have h1 : m_its1 t fp nl n = none ↔ ∀ k, k < nl → m_exf t fp n k = false := am_none nl
    constructor
    · intro h g hg k hk
      simp only [m_best] at h
      cases hm : m_its1 t fp nl n with
      | none =>
        rw [hm] at h
        by_cases e1 : g = n
        · subst e1; exact h1.mp hm k hk
        · exact ih.mp h g (by omega) k hk
      | some a =>
        rw [hm] at h
        simp only at h
        split at h
        · cases h
        · split at h <;> cases h
    · intro h
      simp only [m_best]
      rw [h1.mpr (h n (by omega)), ih.mpr (fun g hg => h g (by omega))]
theorem id_false (hI : tI e u) (hk : k < eA e 6 1) (hw : ¬ tA u 19 k = 0) : ¬ m_idN u (nlT u) = true := by
  rw [tq_nl hI]
  have : ∀ n, k < n → ¬ m_idN u n = true := by
    intro n
    induction n with
    | zero => intro h; omega
    | succ n ih =>
      intro h h9
      simp only [m_idN, Bool.and_eq_true, decide_eq_true_eq] at h9
      by_cases e1 : k = n
      · subst e1; exact hw h9.2
      · exact ih (by omega) h9.1
  exact this _ hk
theorem id_true (hI : tI e u) (h7 : tF u 7 = 0) (hw : ∀ k, k < eA e 6 1 → tA u 19 k = 0) : m_idN u (nlT u) = true := by
  rw [tq_nl hI]
  have : ∀ n, n ≤ eA e 6 1 → m_idN u n = true := by
    intro n
    induction n with
    | zero => intro _; simp [m_idN, h7]
    | succ n ih =>
      intro h
      simp only [m_idN, Bool.and_eq_true, decide_eq_true_eq]
      exact ⟨ih (by omega), hw n (by omega)⟩
  exact this _ (Nat.le_refl _)
/-- one tick in which nothing can go, though something waits -/
theorem idle_one (hI : tI e u) (h7 : tF u 7 = 0) (hk : k < eA e 6 1) (hw : ¬ tA u 19 k = 0) (hd : m_due u (fpT u) (eA e 6 1) = none) (hb : m_best u (fpT u) (grT u) (eA e 6 1) (eA e 6 0) = none) : m_step u en = m_pasN (z_hN u 1 (eA e 6 1)) 1 20 := by
  unfold m_step
  rw [if_neg (id_false hI hk hw), if_pos h7, begins_e hI]
  unfold m_begins
  rw [hd]
  dsimp only
  unfold m_excess
  rw [hb]
  dsimp only
  rw [← hN_outT hI]
  have h0 : tF (z_hN u 1 (eA e 6 1)) 7 = 0 := by rw [hN_F]; exact h7
  unfold m_step2 m_n
  rw [h0, if_pos (by decide), if_pos rfl]
/-- through n ticks nothing of what waits may go -/
def zNo (e : kE) (t : mo_T) (n : Nat) : Prop := ∀ i, i < n → ∀ k, k < eA e 6 1 → ¬ tA t 19 k = 0 → (0 < tA t 15 k → (tF t 1).toInt + i < (m_st t (fpT t) k).toInt) ∧ ((tB t 32 k).toInt + (tA t 30 k).toInt * i < 1000 * (tA t 34 (fpT t k)).toInt ∨ (tB t 32 (8 + eA e 8 k)).toInt + (tA t 30 (8 + eA e 8 k)).toInt * i < 1000 * (tA t 34 (fpT t k)).toInt)
/-- behind n ticks -/
def z_S (e : kE) (t : mo_T) (n : Nat) : mo_T := m_pasN (z_hN t (nI n) (eA e 6 1)) (nI n) 20
theorem z_S_F (e : kE) (t : mo_T) (n j : Nat) : tF (z_S e t n) j = if j = 1 then tF t 1 + nI n else tF t j := by
  unfold z_S
  rw [pasN_F, hN_F, hN_F]
theorem z_S_L (e : kE) (t : mo_T) (n : Nat) : tL (z_S e t n) = tL t := by
  unfold z_S
  rw [pasN_L, (hN_He t _ _).2.1]
theorem z_S_A (e : kE) (t : mo_T) (n j k : Nat) (h : j ≠ 26) : tA (z_S e t n) j k = tA t j k := by
  unfold z_S
  rw [pasN_A, (hN_He t _ _).2.2.1 j k h]
theorem z_S_B (e : kE) (t : mo_T) (n j k : Nat) (h : j ≠ 32) : tB (z_S e t n) j k = tB t j k := by
  unfold z_S
  rw [pasN_B _ _ _ j k h, (hN_He t _ _).2.2.2 j k]
theorem z_S_T (e : kE) (t : mo_T) (n b : Nat) (h : b < 20) : tB (z_S e t n) 32 b = m_tok t b (nI n) := by
  unfold z_S
  rw [pasN_T, if_pos h]
  have h9 := hN_He t (nI n) (eA e 6 1)
  exact tok_eq (h9.2.2.1 30 b (by decide)) (h9.2.2.1 31 b (by decide)) (h9.2.2.2 32 b)
theorem tI_S (hI : tI e t) {n : Nat} (hn : n ≤ 100000) (hnow : (tF t 1).toInt + n ≤ 1000000000) : tI e (z_S e t n) := by
  have hb : bd (nI n) 0 100000 := ⟨n, Nat.zero_le _, hn, rfl⟩
  refine tI_pasN (tI_hN hI _ _ (Nat.le_refl _)) hb ?_ 20 (by omega)
  rw [hN_F, nI_toInt (by omega)]
  exact hnow
theorem fp_S (e : kE) (t : mo_T) (n k : Nat) : fpT (z_S e t n) k = fpT t k := by unfold fpT; rw [z_S_A _ _ _ _ _ (by decide)]
theorem gr_S (e : kE) (t : mo_T) (n k : Nat) : grT (z_S e t n) k = grT t k := by unfold grT; rw [z_S_A _ _ _ _ _ (by decide)]
theorem sz_64 (hI : tI e t) (hp : p < eA e 6 2) : (1000 * (tA t 34 p).toInt64).toInt = 1000 * (tA t 34 p).toInt := by
  obtain ⟨s, s1, s2, es⟩ := (hI.2.2.2.2.1 p hp).1
  rw [es, nI_l (by omega), show (1000 : Int64) = lN 1000 from rfl, lN_mul, pk_lT (by omega), nI_toInt (by omega)]
  omega
/-- then nothing is due or ready at the n-th -/
theorem no_rd (hI : tI e t) {n : Nat} (hn : n ≤ 100000) (hno : ((tB t 32 k).toInt + (tA t 30 k).toInt * n < 1000 * (tA t 34 (fpT t k)).toInt ∨ (tB t 32 (8 + eA e 8 k)).toInt + (tA t 30 (8 + eA e 8 k)).toInt * n < 1000 * (tA t 34 (fpT t k)).toInt)) (hk : k < eA e 6 1) (hp : fpT t k < eA e 6 2) : m_rd (z_S e t n) (fpT (z_S e t n)) (eA e 8 k) k = false := by
  have hnl := hI.1.2.1.2
  have hng := hI.1.1.2
  have hg := (hI.2.1 k hk).1.2
  have hb : bd (nI n) 0 100000 := ⟨n, Nat.zero_le _, hn, rfl⟩
  have hs := sz_64 hI hp
  have h1 := tok_toInt hI (b := k) (by omega) hb
  have h2 := tok_toInt hI (b := 8 + eA e 8 k) (by omega) hb
  have en : (nI n).toInt = (n : Int) := nI_toInt (by omega)
  rw [en] at h1 h2
  unfold m_rd
  rw [fp_S, z_S_A _ _ _ _ _ (by decide), z_S_T _ _ _ _ (by omega), z_S_T _ _ _ _ (by omega)]
  rcases hno with h | h
  · have : m_tok t k (nI n) < 1000 * (tA t 34 (fpT t k)).toInt64 := by
      rw [Int64.lt_iff_toInt_lt, h1, hs]
      omega
    simp [this]
  · have : ¬ 1000 * (tA t 34 (fpT t k)).toInt64 ≤ m_tok t (8 + eA e 8 k) (nI n) := by
      rw [Int64.le_iff_toInt_le, h2, hs]
      omega
    simp [this]
theorem no_st (hI : tI e t) {n : Nat} (hn : n ≤ 100000) (hnow : (tF t 1).toInt + n ≤ 1000000000) (hno : 0 < tA t 15 k → (tF t 1).toInt + n < (m_st t (fpT t) k).toInt) : m_duf (z_S e t n) (fpT (z_S e t n)) k = false := by
  have h1 := hI.1.2.2.2.2.1.rng (by decide)
  have e1 : m_st (z_S e t n) (fpT (z_S e t n)) k = m_st t (fpT t) k := by
    unfold m_st
    rw [fp_S, z_S_A _ _ _ _ _ (by decide), z_S_A _ _ _ _ _ (by decide)]
  unfold m_duf
  rw [e1, z_S_F, if_pos rfl, z_S_A _ _ _ 15 _ (by decide)]
  by_cases hg : tA t 15 k ≤ 0
  · simp [hg]
  · have h2 := hno (z_pos.mpr hg)
    have en : (nI n).toInt = (n : Int) := nI_toInt (by omega)
    have : tF t 1 + nI n < m_st t (fpT t) k := by
      rw [lt_toInt, fb_addI (by rw [en]; omega) (by rw [en]; omega), en]
      exact h2
    simp [this]
theorem due_S (hI : tI e t) {n m : Nat} (hno : zNo e t m) (hnm : n < m) (hn : n ≤ 100000) (hnow : (tF t 1).toInt + n ≤ 1000000000) : m_due (z_S e t n) (fpT (z_S e t n)) (eA e 6 1) = none := by
  refine (am_none _).mpr (fun k hk => ?_)
  by_cases hw : tA t 19 k = 0
  · have : tA (z_S e t n) 19 k = 0 := by rw [z_S_A _ _ _ _ _ (by decide)]; exact hw
    simp [m_duf, this]
  · exact no_st hI hn hnow (hno n hnm k hk hw).1
theorem rd_S (hI : tI e t) {n m : Nat} (hno : zNo e t m) (hnm : n < m) (hn : n ≤ 100000) (hk : k < eA e 6 1) (hw : ¬ tA t 19 k = 0) : m_rd (z_S e t n) (fpT (z_S e t n)) (eA e 8 k) k = false := by
  obtain ⟨p, q, hQ⟩ := tq_wait hI hk hw
  obtain ⟨-, -, h3, h4, -⟩ := tq_cons hI hk hQ
  exact no_rd hI hn (hno n hnm k hk hw).2 hk (by rw [h3]; exact h4)
theorem best_S (hI : tI e t) {n m : Nat} (hno : zNo e t m) (hnm : n < m) (hn : n ≤ 100000) : m_best (z_S e t n) (fpT (z_S e t n)) (grT (z_S e t n)) (eA e 6 1) (eA e 6 0) = none := by
  refine (best_none _).mpr (fun g hg k hk => ?_)
  by_cases hw : tA t 19 k = 0
  · have : tA (z_S e t n) 19 k = 0 := by rw [z_S_A _ _ _ _ _ (by decide)]; exact hw
    simp [m_exf, m_wt, this]
  · have h13 := (hI.2.1 k hk).1.1
    have hng := hI.1.1.2
    have h8 := (hI.2.1 k hk).1.2
    by_cases e1 : eA e 8 k = g
    · subst e1
      simp [m_exf, rd_S hI hno hnm hn hk hw]
    · have h9 : ¬ tA (z_S e t n) 13 k = nI g := by
        rw [z_S_A _ _ _ _ _ (by decide), h13, nI_eq (by omega) (by omega)]
        exact e1
      simp [m_exf, m_wt, h9]
theorem hld_S (hI : tI e t) {n m : Nat} (hno : zNo e t m) (hnm : n < m) (hn : n ≤ 100000) (hk : k < eA e 6 1) : hld (z_S e t n) k = decide (¬ tA t 19 k = 0) := by
  unfold hld
  rw [z_S_A _ _ _ 19 _ (by decide), gr_S, tq_gr hI hk]
  by_cases hw : tA t 19 k = 0
  · simp [hw]
  · rw [rd_S hI hno hnm hn hk hw]
    simp [hw]
theorem hld_0 (hI : tI e t) {m : Nat} (hno : zNo e t m) (hm : 0 < m) (hk : k < eA e 6 1) : hld t k = decide (¬ tA t 19 k = 0) := by
  have hnl := hI.1.2.1.2
  have hng := hI.1.1.2
  unfold hld
  by_cases hw : tA t 19 k = 0
  · simp [hw]
  · obtain ⟨p, q, hQ⟩ := tq_wait hI hk hw
    obtain ⟨-, -, h3, h4, -⟩ := tq_cons hI hk hQ
    have hs := sz_64 hI (p := fpT t k) (by rw [h3]; exact h4)
    have h9 := (hno 0 hm k hk hw).2
    simp only [Int.natCast_zero, Int.mul_zero, Int.add_zero] at h9
    have hr : m_rd t (fpT t) (grT t k) k = false := by
      rw [tq_gr hI hk]
      unfold m_rd
      rcases h9 with h | h
      · have : tB t 32 k < 1000 * (tA t 34 (fpT t k)).toInt64 := by rw [Int64.lt_iff_toInt_lt, hs]; exact h
        simp [this]
      · have : ¬ 1000 * (tA t 34 (fpT t k)).toInt64 ≤ tB t 32 (8 + eA e 8 k) := by rw [Int64.le_iff_toInt_le, hs]; omega
        simp [this]
    rw [hr]
    simp [hw]
theorem tok_2 (hI : tI e t) (hI2 : tI e u) {n b : Nat} (hb : b < 20) (hn : n + 1 ≤ 100000) (h30 : tA u 30 b = tA t 30 b) (h31 : tA u 31 b = tA t 31 b) (h32 : tB u 32 b = m_tok t b (nI n)) : m_tok u b 1 = m_tok t b (nI (n + 1)) := by
  have b1 : bd (nI n) 0 100000 := ⟨n, Nat.zero_le _, by omega, rfl⟩
  have b2 : bd (nI (n + 1)) 0 100000 := ⟨n + 1, Nat.zero_le _, hn, rfl⟩
  have b3 : bd 1 0 100000 := ⟨1, Nat.zero_le _, by omega, rfl⟩
  have h1 := tok_toInt hI hb b1
  have h2 := tok_toInt hI hb b2
  have h3 := tok_toInt hI2 hb b3
  have hr := (hI.2.2.2.2.2.2.1 b hb).1.rng (by decide)
  refine Int64.toInt_inj.mp ?_
  rw [h3, h2, h30, h31, h32, h1, nI_toInt (by omega), nI_toInt (by omega), show (1 : Int32).toInt = 1 from rfl]
  have e1 : (tA t 30 b).toInt * ((n + 1 : Nat) : Int) = (tA t 30 b).toInt * (n : Int) + (tA t 30 b).toInt := by
    push_cast
    rw [Int.mul_add, Int.mul_one]
  rw [e1, Int.mul_one]
  generalize (tA t 30 b).toInt * (n : Int) = X
  omega
/-- the n+1-th tick -/
theorem S_step (hI : tI e t) (h7 : tF t 7 = 0) {n m : Nat} (hno : zNo e t m) (hnm : n < m) (hn0 : 0 < n) (hn : n + 1 ≤ 100000) (hnow : (tF t 1).toInt + n + 1 ≤ 1000000000) (hk : k < eA e 6 1) (hw : ¬ tA t 19 k = 0) : m_step (z_S e t n) en = z_S e t (n + 1) := by
  have hIS := tI_S hI (n := n) (by omega) (by omega)
  have h7' : tF (z_S e t n) 7 = 0 := by rw [z_S_F, if_neg (by decide)]; exact h7
  have hw' : ¬ tA (z_S e t n) 19 k = 0 := by rw [z_S_A _ _ _ _ _ (by decide)]; exact hw
  rw [idle_one hIS h7' hk hw' (due_S hI hno hnm (by omega) (by omega)) (best_S hI hno hnm (by omega))]
  have hHe := hN_He (z_S e t n) 1 (eA e 6 1)
  refine mo_ext (fun j => ?_) ?_ (fun j r => ?_) (fun j r => ?_)
  · rw [z_S_F, pasN_F, hN_F, hN_F, z_S_F, z_S_F]
    by_cases hj : j = 1
    · simp only [hj, if_true]
      rw [Int32.add_assoc, nI_1]
    · simp only [hj, if_false]
  · rw [z_S_L, pasN_L, hHe.2.1, z_S_L]
  · by_cases hj : j = 26
    · subst hj
      rw [pasN_A, hN_26]
      have e1 : tA (z_S e t n) 26 r = if r < eA e 6 1 ∧ hld t r = true then tA t 26 r + nI n else tA t 26 r := by
        unfold z_S; rw [pasN_A, hN_26]
      have e2 : tA (z_S e t (n + 1)) 26 r = if r < eA e 6 1 ∧ hld t r = true then tA t 26 r + nI (n + 1) else tA t 26 r := by
        unfold z_S; rw [pasN_A, hN_26]
      rw [e1, e2]
      by_cases hr : r < eA e 6 1
      · rw [hld_S hI hno hnm (by omega) hr, hld_0 hI hno (by omega) hr]
        by_cases h9 : tA t 19 r = 0
        · simp [h9]
        · simp only [hr, h9, not_false_eq_true, decide_true, and_self, if_true]
          rw [Int32.add_assoc, nI_1]
      · simp [hr]
    · rw [pasN_A, hHe.2.2.1 j r hj, z_S_A _ _ _ _ _ hj, z_S_A _ _ _ _ _ hj]
  · by_cases hj : j = 32
    · subst hj
      by_cases hr : r < 20
      · rw [z_S_T _ _ _ _ hr, pasN_T, if_pos hr]
        exact tok_2 hI (tI_hN hIS 1 _ (Nat.le_refl _)) hr hn ((hHe.2.2.1 30 r (by decide)).trans (z_S_A _ _ _ _ _ (by decide))) ((hHe.2.2.1 31 r (by decide)).trans (z_S_A _ _ _ _ _ (by decide))) ((hHe.2.2.2 32 r).trans (z_S_T _ _ _ _ hr))
      · rw [pasN_T, if_neg hr, hHe.2.2.2]
        unfold z_S
        rw [pasN_T, if_neg hr, pasN_T, if_neg hr, (hN_He t _ _).2.2.2, (hN_He t _ _).2.2.2]
    · rw [pasN_B _ _ _ j r hj, hHe.2.2.2, z_S_B _ _ _ _ _ hj, z_S_B _ _ _ _ _ hj]
/-- A LEAP: n ticks at once -/
theorem leap {lo : Int} (hen : en.toInt ≤ 1000000000) (hti : en.toInt - lo ≤ 100000) (hlo : lo ≤ (tF t 1).toInt) (hI : tI e t) (h7 : tF t 7 = 0) (hd : m_due t (fpT t) (eA e 6 1) = none) (hb : m_best t (fpT t) (grT t) (eA e 6 1) (eA e 6 0) = none) (hk : k < eA e 6 1) (hw : ¬ tA t 19 k = 0) : ∀ n, zNo e t n → 0 < n → (tF t 1).toInt + n ≤ en.toInt → m_fin en t = m_fin en (z_S e t n)
  | 0, _, h, _ => absurd h (Nat.lt_irrefl 0)
  | 1, hno, _, hle => by
    have hlt : tF t 1 < en := by rw [lt_toInt]; omega
    rw [fin_step hen hti ⟨⟨e, hI⟩, hlo⟩ hlt, idle_one hI h7 hk hw hd hb]
    rfl
  | n + 2, hno, _, hle => by
    have h1 := hI.1.2.2.2.2.1.rng (by decide)
    have ih := leap hen hti hlo hI h7 hd hb hk hw (n + 1) (fun i hi => hno i (by omega)) (by omega) (by omega)
    have hnow : (tF (z_S e t (n + 1)) 1).toInt = (tF t 1).toInt + (n + 1 : Nat) := by
      rw [z_S_F, if_pos rfl, fb_addI (by rw [nI_toInt (by omega)]; omega) (by rw [nI_toInt (by omega)]; omega), nI_toInt (by omega)]
    have hlt : tF (z_S e t (n + 1)) 1 < en := by rw [lt_toInt, hnow]; omega
    rw [ih, fin_step hen hti ⟨⟨e, tI_S hI (by omega) (by omega)⟩, by rw [hnow]; omega⟩ hlt, S_step hI h7 hno (by omega) (by omega) (by omega) (by omega) hk hw]
end TL
