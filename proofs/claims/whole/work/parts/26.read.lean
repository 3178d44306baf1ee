/-! what the walks read out of the relation -/
theorem fb_rng (x : Int32) : -2147483648 ≤ x.toInt ∧ x.toInt < 2147483648 := ⟨Int32.le_toInt x, Int32.toInt_lt x⟩
theorem fb_bmod {z : Int} (h1 : -2147483648 ≤ z) (h2 : z < 2147483648) : z.bmod (2 ^ 32) = z := Int.bmod_eq_of_le (by omega) (by omega)
theorem fb_addI {x y : Int32} (h1 : -2147483648 ≤ x.toInt + y.toInt) (h2 : x.toInt + y.toInt < 2147483648) : (x + y).toInt = x.toInt + y.toInt := by rw [Int32.toInt_add, fb_bmod h1 h2]
theorem fb_subI {x y : Int32} (h1 : -2147483648 ≤ x.toInt - y.toInt) (h2 : x.toInt - y.toInt < 2147483648) : (x - y).toInt = x.toInt - y.toInt := by rw [Int32.toInt_sub, fb_bmod h1 h2]
theorem fb_rngL (x : Int64) : -9223372036854775808 ≤ x.toInt ∧ x.toInt < 9223372036854775808 := ⟨Int64.le_toInt x, Int64.toInt_lt x⟩
theorem fb_bmodL {z : Int} (h1 : -9223372036854775808 ≤ z) (h2 : z < 9223372036854775808) : z.bmod (2 ^ 64) = z := Int.bmod_eq_of_le (by omega) (by omega)
theorem fb_addL {x y : Int64} (h1 : -9223372036854775808 ≤ x.toInt + y.toInt) (h2 : x.toInt + y.toInt < 9223372036854775808) : (x + y).toInt = x.toInt + y.toInt := by rw [Int64.toInt_add, fb_bmodL h1 h2]
theorem fb_subL {x y : Int64} (h1 : -9223372036854775808 ≤ x.toInt - y.toInt) (h2 : x.toInt - y.toInt < 9223372036854775808) : (x - y).toInt = x.toInt - y.toInt := by rw [Int64.toInt_sub, fb_bmodL h1 h2]
theorem fb_mulL {x y : Int64} (h1 : -9223372036854775808 ≤ x.toInt * y.toInt) (h2 : x.toInt * y.toInt < 9223372036854775808) : (x * y).toInt = x.toInt * y.toInt := by rw [Int64.toInt_mul, fb_bmodL h1 h2]
theorem bd.rng {v : Int32} {lo hi : Nat} (h : bd v lo hi) (hh : hi < 2147483648) : (lo : Int) ≤ v.toInt ∧ v.toInt ≤ (hi : Int) := by
  obtain ⟨n, h1, h2, rfl⟩ := h
  rw [nI_toInt (by omega)]
  omega
theorem bd.of {v : Int32} {lo hi : Nat} (h1 : (lo : Int) ≤ v.toInt) (h2 : v.toInt ≤ (hi : Int)) : bd v lo hi := by
  have h0 : ¬ v < 0 := by
    rw [Int32.lt_iff_toInt_lt, Int32.toInt_zero]
    omega
  obtain ⟨n, hn, rfl⟩ := nI_of h0
  rw [nI_toInt hn] at h1 h2
  exact ⟨n, by omega, by omega, rfl⟩
section ZR
variable {G : kw_G} {nu : Nat → Option Nat} {z x : kw_St} {o : Nat} {e : kE} {t : mo_T} {i k g b p : Nat}
theorem zk_o (hz : zw G nu z o e t x) : nu o = some 5 := hz.2.1.1
theorem zk_L (hz : zw G nu z o e t x) (h : i < 4) : nu (eA e 4 i) = some 0 := hz.2.1.2.1 i h
theorem zk_g (hz : zw G nu z o e t x) (h : g < eA e 6 0) : nu (eA e 0 g) = some 2 := hz.2.1.2.2.1 g h
theorem zk_l (hz : zw G nu z o e t x) (h : k < eA e 6 1) : nu (eA e 1 k) = some 3 := hz.2.1.2.2.2.1 k h
theorem zk_p (hz : zw G nu z o e t x) (h : p < eA e 6 2) : nu (eA e 2 p) = some 4 := hz.2.1.2.2.2.2.1 p h
theorem zk_b (hz : zw G nu z o e t x) (h : zB e t b) : nu (eA e 3 b) = some 1 := hz.2.1.2.2.2.2.2.1 b h
theorem zk_e (hz : zw G nu z o e t x) : nu G.2.2.1 = some 11 := hz.2.1.2.2.2.2.2.2.1
theorem zb_l (h : k < eA e 6 1) : zB e t k := Or.inl h
theorem zb_g (h : g < eA e 6 0) : zB e t (8 + g) := Or.inr (Or.inl ⟨by omega, by omega⟩)
theorem zb_p (h : k < eA e 6 1) (hp : ¬ tA t 28 k = 0) : zB e t (12 + k) := Or.inr (Or.inr ⟨by omega, by omega, by rw [show 12 + k - 12 = k by omega]; exact hp⟩)
theorem zi_g (hz : zw G nu z o e t x) {j : Nat} (hi : i < eA e 6 0) (hj : j < eA e 6 0) : eA e 0 i = eA e 0 j ↔ i = j := ⟨hz.2.1.2.2.2.2.2.2.2.2.1 i hi j hj, fun h => by rw [h]⟩
theorem zi_l (hz : zw G nu z o e t x) {j : Nat} (hi : i < eA e 6 1) (hj : j < eA e 6 1) : eA e 1 i = eA e 1 j ↔ i = j := ⟨hz.2.1.2.2.2.2.2.2.2.2.2.1 i hi j hj, fun h => by rw [h]⟩
theorem zi_p (hz : zw G nu z o e t x) {j : Nat} (hi : i < eA e 6 2) (hj : j < eA e 6 2) : eA e 2 i = eA e 2 j ↔ i = j := ⟨hz.2.1.2.2.2.2.2.2.2.2.2.2.1 i hi j hj, fun h => by rw [h]⟩
theorem zi_b (hz : zw G nu z o e t x) {j : Nat} (hi : zB e t i) (hj : zB e t j) : eA e 3 i = eA e 3 j ↔ i = j := ⟨hz.2.1.2.2.2.2.2.2.2.2.2.2.2 i hi j hj, fun h => by rw [h]⟩
theorem zi_L (hz : zw G nu z o e t x) {j : Nat} (hi : i < 4) (hj : j < 4) : eA e 4 i = eA e 4 j ↔ i = j := ⟨hz.2.1.2.2.2.2.2.2.2.1 i hi j hj, fun h => by rw [h]⟩
theorem zd_ng (hz : zw G nu z o e t x) : eA e 6 0 ≤ 4 := hz.1.1.1.2
theorem zd_nl (hz : zw G nu z o e t x) : eA e 6 1 ≤ 8 := hz.1.1.2.1.2
theorem zd_np (hz : zw G nu z o e t x) : eA e 6 2 ≤ 512 := hz.1.1.2.2.1.2
theorem zd_nb (hz : zw G nu z o e t x) : eA e 6 3 ≤ eA e 6 2 := by have := hz.1.1.2.2.2.1.2; omega
theorem zd_gr (hz : zw G nu z o e t x) (h : k < eA e 6 1) : eA e 8 k < eA e 6 0 := (hz.1.2.1 k h).1.2
theorem zs_list (hz : zw G nu z o e t x) (h : i < 4) : kR x (250 + i) o = some (eA e 4 i) := (hz.2.2.1.1.1 i h).1
theorem zs_row (hz : zw G nu z o e t x) (h : i < 4) : kR x 1 (eA e 4 i) = some (eA e 5 i) := (hz.2.2.1.1.1 i h).2.1
theorem zs_n (hz : zw G nu z o e t x) (h : i < 4) : kI x 2 (eA e 4 i) = nI (eA e 6 i) := (hz.2.2.1.1.1 i h).2.2.1
theorem zs_big (hz : zw G nu z o e t x) (h : i < 4) (h0 : 0 < eA e 6 i) : nu (eA e 5 i) = some 10 ∧ eA e 6 i ≤ kN x (eA e 5 i) ∧ 10 ≤ kN x (eA e 5 i) ∧ kN x (eA e 5 i) ≤ 768 := by
  obtain ⟨-, -, -, h2, h1⟩ := hz.2.2.1.1.1 i h
  rw [h2]
  rcases h1 with h1 | h1
  · omega
  · exact h1
theorem zl (hz : zw G nu z o e t x) (h : k < eA e 6 1) : zLf e t x k := hz.2.2.1.2.2.1 k h
theorem zg (hz : zw G nu z o e t x) (h : g < eA e 6 0) : zGr e t x g := hz.2.2.1.2.1 g h
theorem zp (hz : zw G nu z o e t x) (h : p < eA e 6 2) : zPk e t x p := hz.2.2.1.2.2.2.1 p h
theorem zbu (hz : zw G nu z o e t x) (h : zB e t b) : zBu e t x b := hz.2.2.1.2.2.2.2.1 b h
theorem zsh (hz : zw G nu z o e t x) : zSh o e t x := hz.2.2.1.2.2.2.2.2.2
theorem zl_gr (hz : zw G nu z o e t x) (h : k < eA e 6 1) : kR x 150 (eA e 1 k) = some (eA e 0 (eA e 8 k)) := (zl hz h).1
theorem zl_ce (hz : zw G nu z o e t x) (h : k < eA e 6 1) : kR x 153 (eA e 1 k) = some (eA e 3 k) := (zl hz h).2.2.2.1
theorem zl_gc (hz : zw G nu z o e t x) (h : k < eA e 6 1) : kR x 101 (eA e 0 (eA e 8 k)) = some (eA e 3 (8 + eA e 8 k)) := (zg hz (zd_gr hz h)).2.1
theorem zl_po (hz : zw G nu z o e t x) (h : k < eA e 6 1) : ∀ q, kR x 155 (eA e 1 k) = some q → nu q = some 1 := by
  intro q hq
  rw [(zl hz h).2.2.2.2.2.1] at hq
  by_cases h0 : tA t 28 k = 0
  · rw [if_pos h0] at hq; cases hq
  · rw [if_neg h0] at hq
    cases hq
    exact zk_b hz (zb_p h h0)
theorem zl_fi (hz : zw G nu z o e t x) (h : k < eA e 6 1) : ∀ q, kR x 157 (eA e 1 k) = some q → nu q = some 4 := by
  intro q hq
  rw [(zl hz h).2.2.2.2.2.2.2.1] at hq
  cases hQ : eQ e k with
  | nil => rw [hQ] at hq; cases hq
  | cons p r =>
    rw [hQ] at hq
    cases hq
    exact zk_p hz ((hz.1.2.2.1 k h).2.2.2.1 p (by rw [hQ]; exact List.mem_cons_self)).1
theorem zl_la (hz : zw G nu z o e t x) (h : k < eA e 6 1) : ∀ q, kR x 158 (eA e 1 k) = some q → nu q = some 4 := by
  intro q hq
  rw [(zl hz h).2.2.2.2.2.2.2.2.1] at hq
  cases hQ : (eQ e k).getLast? with
  | none => rw [hQ] at hq; cases hq
  | some p =>
    rw [hQ] at hq
    cases hq
    exact zk_p hz ((hz.1.2.2.1 k h).2.2.2.1 p (List.mem_of_getLast? hQ)).1
/-- nothing waits in class k -/
theorem zq_nil (hz : zw G nu z o e t x) (h : k < eA e 6 1) (hQ : eQ e k = []) : kR x 157 (eA e 1 k) = none ∧ tA t 19 k = 0 := by
  have h1 := (zl hz h).2.2.2.2.2.2.2.1
  have h2 := (hz.1.2.2.1 k h).1
  rw [hQ] at h1 h2
  exact ⟨h1, h2⟩
theorem zq_cons (hz : zw G nu z o e t x) (h : k < eA e 6 1) {q : List Nat} (hQ : eQ e k = p :: q) : kR x 157 (eA e 1 k) = some (eA e 2 p) ∧ ¬ tA t 19 k = 0 ∧ ¬ tA t 19 k ≤ 0 ∧ tA t 17 k = nI p ∧ fpT t k = p ∧ p < eA e 6 2 := by
  have h1 := (zl hz h).2.2.2.2.2.2.2.1
  obtain ⟨h2, h3, -, h4, h5, -⟩ := hz.1.2.2.1 k h
  have hp := (h4 p (by rw [hQ]; exact List.mem_cons_self)).1
  have hlen : (eQ e k).length ≤ 1000000 := by
    have h6 : (eQ e k).length ≤ zL e := zsum_ge (f := fun k => (eQ e k).length) h
    have h7 := hz.1.1.2.2.2.1.2
    have h8 := hz.1.1.2.2.1.2
    omega
  rw [hQ] at h1 h2 h3 hlen
  simp only [List.length_cons] at h2 hlen
  have hnp := zd_np hz
  refine ⟨h1, ?_, ?_, h3, ?_, hp⟩
  · rw [h2]; exact nI_ne0 (by omega) (by omega)
  · rw [h2]; exact nI_nle (by omega) (by omega)
  · unfold fpT; rw [h3]; exact nI_clamp (by omega)
theorem zq_iff (hz : zw G nu z o e t x) (h : k < eA e 6 1) : tA t 19 k = 0 ↔ eQ e k = [] := by
  cases hQ : eQ e k with
  | nil => simp [(zq_nil hz h hQ).2]
  | cons p q => simp [(zq_cons hz h hQ).2.1]
theorem z_gr (hz : zw G nu z o e t x) (h : k < eA e 6 1) : grT t k = eA e 8 k := by
  unfold grT
  have := zd_gr hz h
  have := zd_ng hz
  rw [(hz.1.2.1 k h).1.1, nI_clamp (by omega)]
theorem z_now (hz : zw G nu z o e t x) : tF t 1 < 2000000000 := by
  have := hz.1.1.2.2.2.2.1.rng (by decide)
  rw [Int32.lt_iff_toInt_lt, show (2000000000 : Int32).toInt = 2000000000 by decide]
  omega
theorem z_pos {v : Int32} : 0 < v ↔ ¬ v ≤ 0 := Int32.not_le.symm
theorem rd_st (hz : zw G nu z o e t x) (h : k < eA e 6 1) (hw : ¬ tA t 19 k = 0) : q_start x (eA e 1 k) = if 0 < tA t 15 k then m_st t (fpT t) k else 2000000000 := by
  cases hQ : eQ e k with
  | nil => exact absurd (zq_nil hz h hQ).2 hw
  | cons p q =>
    obtain ⟨h1, -, -, -, h2, h3⟩ := zq_cons hz h hQ
    unfold q_start m_st
    rw [h1, h2]
    dsimp only
    rw [(zl hz h).2.2.1, (zl hz h).2.2.2.2.2.2.2.2.2.2.2.2.2.2.2.1, (zp hz h3).2.2.2.1]
    by_cases hg : 0 < tA t 15 k
    · simp only [hg, if_true]
      by_cases hc : tA t 25 k < tA t 35 p
      · rw [if_pos hc, if_pos (Int32.le_of_lt hc)]
      · rw [if_neg hc]
        by_cases he : tA t 25 k ≤ tA t 35 p
        · rw [if_pos he]
          exact Int32.le_antisymm he (Int32.not_lt.mp hc)
        · rw [if_neg he]
    · simp only [hg, if_false]
theorem rd_st0 (hz : zw G nu z o e t x) (h : k < eA e 6 1) (hw : tA t 19 k = 0) : q_start x (eA e 1 k) = 2000000000 := by
  unfold q_start
  rw [(zq_nil hz h ((zq_iff hz h).mp hw)).1]
theorem rd_duf (hz : zw G nu z o e t x) (h : k < eA e 6 1) : m_duf t (fpT t) k = decide (¬ tF t 1 < q_start x (eA e 1 k)) := by
  by_cases hw : tA t 19 k = 0
  · rw [rd_st0 hz h hw]
    simp [m_duf, hw, z_now hz]
  · rw [rd_st hz h hw]
    cases hQ : eQ e k with
    | nil => exact absurd (zq_nil hz h hQ).2 hw
    | cons p q =>
      have h1 := (zq_cons hz h hQ).2.2.1
      by_cases hg : 0 < tA t 15 k
      · simp only [m_duf, h1, z_pos.mp hg, hg, if_true]
        simp
      · have hg2 : tA t 15 k ≤ 0 := Int32.not_lt.mp hg
        simp only [m_duf, hg, if_false, hg2, z_now hz]
        simp
theorem rd_dl (hz : zw G nu z o e t x) (h : k < eA e 6 1) (hd : m_duf t (fpT t) k = true) : q_dl x (eA e 1 k) = m_dl t (fpT t) k ∧ ∃ p q, eQ e k = p :: q := by
  simp only [m_duf, Bool.and_eq_true, decide_eq_true_eq] at hd
  obtain ⟨hw, hg, -⟩ := hd
  have hw0 : ¬ tA t 19 k = 0 := fun e9 => hw (by rw [e9]; decide)
  cases hQ : eQ e k with
  | nil => exact absurd (zq_nil hz h hQ).2 hw0
  | cons p q =>
    refine ⟨?_, p, q, rfl⟩
    obtain ⟨h1, -, -, -, h2, h3⟩ := zq_cons hz h hQ
    have hs := rd_st hz h hw0
    unfold q_dl m_dl
    rw [h1, h2]
    dsimp only
    rw [hs, (zl hz h).2.2.1, (zp hz h3).2.2.1]
    simp only [z_pos.mpr hg, if_true]
theorem rd_dul (hz : zw G nu z o e t x) {a b : Nat} (ha : a < eA e 6 1) (hb : b < eA e 6 1) (hda : m_duf t (fpT t) a = true) (hdb : m_duf t (fpT t) b = true) : m_dul t (fpT t) a b = decide (¬ q_dl x (eA e 1 b) ≤ q_dl x (eA e 1 a)) := by
  rw [(rd_dl hz ha hda).1, (rd_dl hz hb hdb).1]
  rfl
theorem rd_rdy (hz : zw G nu z o e t x) (h : k < eA e 6 1) : q_rdy x (eA e 1 k) (eA e 3 k) (eA e 3 (8 + eA e 8 k)) = (decide (¬ tA t 19 k = 0) && m_rd t (fpT t) (eA e 8 k) k) := by
  cases hQ : eQ e k with
  | nil =>
    obtain ⟨h1, h2⟩ := zq_nil hz h hQ
    simp [q_rdy, h1, h2]
  | cons p q =>
    obtain ⟨h1, h0, -, -, h2, h3⟩ := zq_cons hz h hQ
    simp only [q_rdy, h1, m_rd, h2, (zp hz h3).2.2.1, (zbu hz (zb_l h)).2.2, (zbu hz (zb_g (zd_gr hz h))).2.2, h0]
    simp
theorem rd_held (hz : zw G nu z o e t x) (h : k < eA e 6 1) : q_held x (eA e 1 k) (eA e 3 k) (eA e 3 (8 + eA e 8 k)) = (decide (¬ tA t 19 k = 0) && !(m_rd t (fpT t) (eA e 8 k) k)) := by
  have hr := rd_rdy hz h
  cases hQ : eQ e k with
  | nil =>
    obtain ⟨h1, h2⟩ := zq_nil hz h hQ
    simp [q_held, h1, h2]
  | cons p q =>
    obtain ⟨h1, h0, -⟩ := zq_cons hz h hQ
    simp only [q_held, h1, hr, h0]
    simp
theorem z_tagN {w n : Nat} (h1 : 1 ≤ w) (h2 : w ≤ 12) (hn : n ≤ 1500) : (27720 : Int64) * lN n / lN w = 27720 / lN w * lN n := by
  have e1 : (27720 : Int64) = lN 27720 := rfl
  rw [e1, lN_mul, pk_lDiv (by omega) (by omega) (by omega), pk_lDiv (by omega) (by omega) (by omega), lN_mul]
  congr 1
  rcases (show w = 1 ∨ w = 2 ∨ w = 3 ∨ w = 4 ∨ w = 5 ∨ w = 6 ∨ w = 7 ∨ w = 8 ∨ w = 9 ∨ w = 10 ∨ w = 11 ∨ w = 12 by omega) with rfl | rfl | rfl | rfl | rfl | rfl | rfl | rfl | rfl | rfl | rfl | rfl <;> omega
theorem z_tag {w n : Int32} (hw : bd w 1 12) (hn : bd n 64 1500) : (27720 : Int64) * n.toInt64 / w.toInt64 = 27720 / w.toInt64 * n.toInt64 := by
  obtain ⟨w, w1, w2, rfl⟩ := hw
  obtain ⟨n, n1, n2, rfl⟩ := hn
  rw [nI_l (by omega), nI_l (by omega)]
  exact z_tagN w1 w2 n2
theorem bd.pos {v : Int32} {lo hi : Nat} (h : bd v lo hi) (h1 : 0 < lo) (hh : hi < 2147483648) : 0 < v := by
  have := h.rng hh
  rw [Int32.lt_iff_toInt_lt, Int32.toInt_zero]
  omega
theorem rd_ltag (hz : zw G nu z o e t x) (h : k < eA e 6 1) (hw : ¬ tA t 19 k = 0) : q_ltag x (eA e 1 k) = m_tg t (fpT t) k := by
  cases hQ : eQ e k with
  | nil => exact absurd (zq_nil hz h hQ).2 hw
  | cons p q =>
    obtain ⟨h1, -, -, -, h2, h3⟩ := zq_cons hz h hQ
    have hb := (hz.1.2.1 k h).2.1
    unfold q_ltag m_tg
    rw [h1, h2]
    dsimp only
    rw [(zl hz h).2.1, (zp hz h3).2.2.1, (zl hz h).2.2.2.2.2.2.2.2.2.2.2.2.2.2.2.2.2]
    simp only [hb.pos (by decide) (by decide), if_true]
    rw [z_tag hb (hz.1.2.2.2.2.1 p h3).1]
theorem rd_lgtag (hz : zw G nu z o e t x) (h : k < eA e 6 1) (hw : ¬ tA t 19 k = 0) : q_lgtag x (eA e 1 k) (eA e 0 (eA e 8 k)) = m_gtg t (fpT t) (grT t) k := by
  cases hQ : eQ e k with
  | nil => exact absurd (zq_nil hz h hQ).2 hw
  | cons p q =>
    obtain ⟨h1, -, -, -, h2, h3⟩ := zq_cons hz h hQ
    have hg := zd_gr hz h
    have hb := hz.1.2.2.2.1 _ hg
    unfold q_lgtag m_gtg q_gtag
    rw [h1, h2, z_gr hz h]
    dsimp only
    rw [(zp hz h3).2.2.1]
    simp only [(zg hz hg).1, (zg hz hg).2.2.2.2.1, hb.pos (by decide) (by decide), if_true]
    rw [z_tag hb (hz.1.2.2.2.2.1 p h3).1]
end ZR
section ZC
variable {nu : Nat → Option Nat} {z x : kw_St} {o : Nat} {e : kE} {t : mo_T}
theorem c_z_size (l : Launch) (G : kw_G) (hz : zw G nu z o e t x) (i : Nat) (hi : i < 4) : kw_M l G yJx4a65c_size_8abf5 wsJx4a65c_size_8abf5 { frames := 0, cells := 0, slots := 0, locals := 0 } 0 0 [.ref (eA e 4 i)] nu x (kw_P nu (some (.int (nI (eA e 6 i)))) x) := by
  rw [← zs_n hz hi]
  exact c_Jx4a65c_size_8abf5 l G nu x _ (zk_L hz hi)
theorem z_ix {n k : Nat} (h : k < n) (h2 : n ≤ 768) : kw_ix (nI k) k n := kw_ix.nI h (by omega)
theorem c_z_get (l : Launch) (G : kw_G) (hz : zw G nu z o e t x) (i k : Nat) (hi : i < 3) (hk : k < eA e 6 i) : kw_M l G yJx4a65c_get_915e3 wsJx4a65c_get_915e3 { frames := 2, cells := 0, slots := 0, locals := 43 } 0 0 [.ref (eA e 4 i), .int (nI k)] nu x (kw_P nu (some (.ref (eA e i k))) x) := by
  obtain ⟨h1, h2, h3, h4⟩ := zs_big hz (i := i) (by omega) (by omega)
  exact c_Jx4a65c_get_915e3 l G nu x _ (nI k) (eA e 5 i) k _ (zk_L hz (by omega)) h1 (zs_row hz (by omega)) (kw_ix.nI (by omega) (by omega)) (hz.2.2.1.1.2.2.2.1 i hi k hk) (nI_pos (by omega)) (by rw [zs_n hz (by omega)]; exact nI_lt hk (by omega))
theorem c_z_get3 (l : Launch) (G : kw_G) (hz : zw G nu z o e t x) (k : Nat) (hk : k < eA e 6 3) : kw_M l G yJx4a65c_get_915e3 wsJx4a65c_get_915e3 { frames := 2, cells := 0, slots := 0, locals := 43 } 0 0 [.ref (eA e 4 3), .int (nI k)] nu x (kw_P nu (some (.ref (eA e 2 (eA e 7 k)))) x) := by
  obtain ⟨h1, h2, h3, h4⟩ := zs_big hz (i := 3) (by omega) (by omega)
  exact c_Jx4a65c_get_915e3 l G nu x _ (nI k) (eA e 5 3) k _ (zk_L hz (by omega)) h1 (zs_row hz (by omega)) (kw_ix.nI (by omega) (by omega)) (hz.2.2.1.1.2.2.2.2 k hk) (nI_pos (by omega)) (by rw [zs_n hz (by omega)]; exact nI_lt hk (by omega))
/-- the index of nothing -/
theorem z_ixo {i : Int32} {n : Nat} (hn : n < 2 ^ 31) (h : ∀ k, k < n → i ≠ nI k) (h0 : ¬ i < 0) : ¬ i < nI n := by
  intro h1
  obtain ⟨j, hj, e9⟩ := nI_of h0
  rw [e9] at h1
  exact h j ((nI_ltI hj hn).mp h1) e9
end ZC
/-! a call behind which the relation holds -/
section ZXR
variable {p : Program} {l : Launch} {e : Env} {R : Room} {s : State} {m : MethodId} {args : Array Value} {below : List Frame} {meth : Method} {c : Code} {H : Heap} {locs : List Loc} {cells slots : Nat} {Q : State → Prop}
variable {cc : ByteArray} {pc nL : Nat} {ls : Array Slot} {rest : List Value} {G : kw_G} {A : Nat → Prop} {nu : Nat → Option Nat} {x z : kw_St} {o q : Nat} {ee : kE} {Ts : List Cond} {own : String}
theorem zx_cV {mc ms : Nat} {t0 : mo_T} (S : CallFix p m c cc nL s args Ts own) (hK : kw_K G s) (hZ : kw_Z G A s s.heap) (hA : ∀ r, s.heap.size ≤ r → A r) (hW : kw_W G A nu x H) (hS : va_S A s.heap H locs) {v0 : Option Value} {st1 : List Value} {b : Nat} {As st0 : List Value} {y : MethodName} {ws : List Cond} {rm : Room} {bytes : ByteArray} {maxL n index : Nat} {ret : Option FieldType} {C : String} {T : u_T} {N : Nat} (hM : kw_M l G y ws rm mc ms (.ref b :: As) nu x (fun v nu' y => v = v0 ∧ nu' = nu ∧ zw G nu z o ee t0 y)) (cw : CallW R s args own C index y bytes maxL ret ws rm mc ms n) (hb : nu b = some q) (hq : q < 7) (hc : vwCl[q]? = some (C, T, N)) (hn : As.length = n) (hsize : ls.size = nL) (hst : st0 = As.reverse ++ .ref b :: rest) (hr : (rest.map fun v => v.category).sum ≤ 8) (hdg : decode cc pc = .ok (.invokevirtual index, 3)) (hf : cells + mc ≤ R.cells ∧ slots + ms ≤ R.slots) (hst1 : v0.toList ++ rest = st1)
    (kk : ∀ (x1 : kw_St) (H1 : Heap) (locs1 : List Loc), zw G nu z o ee t0 x1 → kw_W G A nu x1 H1 → va_S A s.heap H1 locs1 → W p l e R s m args below meth c H1 locs1 (cells + mc) (slots + ms) Q (F0 m (pc + 3) ls st1)) : W p l e R s m args below meth c H locs cells slots Q (F0 m pc ls st0) :=
  kw_callV S hK hZ hA hW hS hM cw hb hq hc hn hsize hst hr hdg hf (fun v nu' y H1 locs1 hp hW hS => by obtain ⟨e1, e2, e3⟩ := hp; subst e1; rw [e2] at hW; rw [hst1]; exact kk y H1 locs1 e3 hW hS)
end ZXR
section ZP
variable {G : kw_G} {nu : Nat → Option Nat} {z x : kw_St} {o : Nat} {e : kE} {t : mo_T} {k g b : Nat}
theorem z_pol0 (hz : zw G nu z o e t x) (h : k < eA e 6 1) (hp : kR x 155 (eA e 1 k) = none) : tA t 28 k = 0 ∧ tB t 32 (12 + k) = 0 := by
  rw [(zl hz h).2.2.2.2.2.1] at hp
  by_cases h0 : tA t 28 k = 0
  · have := zd_nl hz
    exact ⟨h0, (hz.1.2.2.2.2.2.2.2.1.2.2 k (by omega) h0).2.2⟩
  · rw [if_neg h0] at hp; cases hp
theorem z_pol1 (hz : zw G nu z o e t x) (h : k < eA e 6 1) (hp : kR x 155 (eA e 1 k) = some b) : ¬ tA t 28 k = 0 ∧ b = eA e 3 (12 + k) ∧ kJ x 52 b = tB t 32 (12 + k) := by
  rw [(zl hz h).2.2.2.2.2.1] at hp
  by_cases h0 : tA t 28 k = 0
  · rw [if_pos h0] at hp; cases hp
  · rw [if_neg h0] at hp
    cases hp
    exact ⟨h0, rfl, (zbu hz (zb_p h h0)).2.2⟩
theorem z_tfree (hI : tI e t) (hF : zF e t) (h : ¬ tF t 7 = 0) : ¬ nI (eA e 9 0) ≤ tF t 1 := by
  rw [hF.2 h]
  have h1 := hI.1.2.2.2.2.1.rng (by decide)
  have h2 := hI.1.2.2.2.2.2.1.rng (by decide)
  have h3 : (tF t 7).toInt ≠ 0 := fun e9 => h (Int32.toInt_inj.mp (by rw [e9]; rfl))
  rw [Int32.le_iff_toInt_le, fb_addI (by omega) (by omega)]
  omega
theorem z_idle (hI : tI e t) (hF : zF e t) (h : nI (eA e 9 0) ≤ tF t 1) : tF t 7 = 0 := Classical.byContradiction fun h9 => z_tfree hI hF h9 h
theorem z_busy (hF : zF e t) (h : ¬ nI (eA e 9 0) ≤ tF t 1) : ¬ tF t 7 = 0 := fun h9 => h (hF.1 h9)
theorem rd_exf (hz : zw G nu z o e t x) (h : k < eA e 6 1) (hg : g < eA e 6 0) : m_exf t (fpT t) g k = (decide (some (eA e 0 (eA e 8 k)) = some (eA e 0 g)) && q_rdy x (eA e 1 k) (eA e 3 k) (eA e 3 (8 + eA e 8 k))) := by
  have h1 := zd_gr hz h
  have h2 := zd_ng hz
  have h3 := (hz.1.2.1 k h).1.1
  rw [rd_rdy hz h]
  unfold m_exf m_wt
  by_cases e1 : eA e 8 k = g
  · subst e1
    simp [h3]
  · have e2 : ¬ tA t 13 k = nI g := by
      rw [h3, nI_eq (by omega) (by omega)]
      exact e1
    have e3 : ¬ (eA e 0 (eA e 8 k) = eA e 0 g) := fun h9 => e1 ((zi_g hz h1 hg).mp h9)
    simp [e2, e3]
theorem exf_w {t : mo_T} {fp : Nat → Nat} {g k : Nat} (h : m_exf t fp g k = true) : ¬ tA t 19 k = 0 ∧ tA t 13 k = nI g := by
  simp only [m_exf, m_wt, Bool.and_eq_true, decide_eq_true_eq] at h
  exact ⟨h.1.2, h.1.1⟩
theorem rd_exl (hz : zw G nu z o e t x) {a b : Nat} (ha : a < eA e 6 1) (hb : b < eA e 6 1) (hwa : ¬ tA t 19 a = 0) (hwb : ¬ tA t 19 b = 0) : m_exl t (fpT t) a b = decide (¬ q_ltag x (eA e 1 b) ≤ q_ltag x (eA e 1 a)) := by
  rw [rd_ltag hz ha hwa, rd_ltag hz hb hwb]
  rfl
end ZP
