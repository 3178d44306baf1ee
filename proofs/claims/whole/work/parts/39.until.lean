/-! how long nobody may go -/
section TU
variable {G : kw_G} {nu : Nat → Option Nat} {z x : kw_St} {o : Nat} {e : kE} {t : mo_T} {k b p : Nat}
theorem tuc_ok (hz : zw G nu z o e t x) (hb : zB e t b) (hp : p < eA e 6 2) : 0 ≤ (q_tuc x (eA e 3 b) (tA t 34 p)).toInt ∧ (q_tuc x (eA e 3 b) (tA t 34 p)).toInt ≤ 2147483647 ∧ ((tB t 32 b).toInt < 1000 * (tA t 34 p).toInt → 1 ≤ (q_tuc x (eA e 3 b) (tA t 34 p)).toInt) ∧ ∀ i : Nat, (i : Int) < (q_tuc x (eA e 3 b) (tA t 34 p)).toInt → (tB t 32 b).toInt + (tA t 30 b).toInt * i < 1000 * (tA t 34 p).toInt := by
  obtain ⟨c1, -, c3⟩ := zbu hz hb
  obtain ⟨⟨r, -, r2, er⟩, -, k3, k4⟩ := hz.1.2.2.2.2.2.2.1 b (zb_20 hz.1 hb)
  obtain ⟨s, s1, s2, es⟩ := (hz.1.2.2.2.2.1 p hp).1
  have hnb := zd_nb hz
  have hnp := zd_np hz
  have e1 : (1000 : Int64) * (nI s).toInt64 = lN (1000 * s) := by rw [nI_l (by omega), show (1000 : Int64) = lN 1000 from rfl, lN_mul]
  have e2 : (lN (1000 * s)).toInt = ((1000 * s : Nat) : Int) := pk_lT (by omega)
  have e3 : (lN (1000 * s) - tB t 32 b).toInt = ((1000 * s : Nat) : Int) - (tB t 32 b).toInt := by rw [fb_subL (by rw [e2]; omega) (by rw [e2]; omega), e2]
  have hsI : (nI s).toInt = (s : Int) := nI_toInt (by omega)
  have hrI : (nI r).toInt = (r : Int) := nI_toInt (by omega)
  unfold q_tuc
  rw [c1, c3, es, er, e1, hsI, hrI]
  by_cases hD : 0 < lN (1000 * s) - tB t 32 b
  · rw [if_pos hD]
    have hD2 := hD
    rw [Int64.lt_iff_toInt_lt, e3, Int64.toInt_zero] at hD2
    obtain ⟨m, hm⟩ : ∃ m : Nat, (m : Int) = ((1000 * s : Nat) : Int) - (tB t 32 b).toInt := ⟨(((1000 * s : Nat) : Int) - (tB t 32 b).toInt).toNat, by omega⟩
    have eD : lN (1000 * s) - tB t 32 b = lN m := Int64.toInt_inj.mp (by rw [e3, pk_lT (by omega)]; omega)
    by_cases hr : 0 < nI r
    · rw [if_pos hr]
      have hr0 : 0 < r := by
        rcases Nat.eq_zero_or_pos r with h | h
        · rw [h] at hr; exact absurd hr (by decide)
        · exact h
      have e4 : (lN (1000 * s) - tB t 32 b + (nI r).toInt64 - 1) / (nI r).toInt64 = lN ((m + r - 1) / r) := by
        rw [eD, nI_l (by omega), lN_add, show (1 : Int64) = lN 1 from rfl, lN_sub (by omega), pk_lDiv (by omega) hr0 (by omega)]
      have h5 : (m + r - 1) / r ≤ m + r - 1 := Nat.div_le_self _ _
      have e5 : (lN ((m + r - 1) / r)).toInt = (((m + r - 1) / r : Nat) : Int) := pk_lT (by omega)
      rw [e4, e5]
      have h6 : 1 ≤ (m + r - 1) / r := by
        rw [Nat.le_div_iff_mul_le hr0]
        omega
      refine ⟨by omega, by omega, fun _ => by omega, fun i hi => ?_⟩
      have h7 : i + 1 ≤ (m + r - 1) / r := by omega
      rw [Nat.le_div_iff_mul_le hr0, Nat.add_mul] at h7
      have h8 : (r : Int) * (i : Int) = ((i * r : Nat) : Int) := by push_cast; rw [Int.mul_comm]
      rw [h8]
      omega
    · rw [if_neg hr]
      have hr0 : r = 0 := by
        rcases Nat.eq_zero_or_pos r with h | h
        · exact h
        · exact absurd (nI_lt (a := 0) h (by omega)) hr
      have e5 : (2000000000 : Int64).toInt = 2000000000 := by decide
      rw [e5]
      refine ⟨by omega, by omega, fun _ => by omega, fun i _ => ?_⟩
      rw [hr0]
      simp only [Int.natCast_zero, Int.zero_mul]
      omega
  · rw [if_neg hD, Int64.toInt_zero]
    rw [Int64.lt_iff_toInt_lt, e3, Int64.toInt_zero] at hD
    refine ⟨by omega, by omega, fun h => by omega, fun i hi => by omega⟩
theorem tmg_ok (hz : zw G nu z o e t x) (hk : k < eA e 6 1) (hnd : m_duf t (fpT t) k = false) (hnr : ¬ tA t 19 k = 0 → m_rd t (fpT t) (eA e 8 k) k = false) : 1 ≤ (q_tmg x (eA e 1 k) (eA e 3 k) (eA e 3 (8 + eA e 8 k)) (tF t 1)).toInt ∧ (q_tmg x (eA e 1 k) (eA e 3 k) (eA e 3 (8 + eA e 8 k)) (tF t 1)).toInt ≤ 2147483647 ∧ ∀ i : Nat, (i : Int) < (q_tmg x (eA e 1 k) (eA e 3 k) (eA e 3 (8 + eA e 8 k)) (tF t 1)).toInt → ¬ tA t 19 k = 0 → (0 < tA t 15 k → (tF t 1).toInt + i < (m_st t (fpT t) k).toInt) ∧ ((tB t 32 k).toInt + (tA t 30 k).toInt * i < 1000 * (tA t 34 (fpT t k)).toInt ∨ (tB t 32 (8 + eA e 8 k)).toInt + (tA t 30 (8 + eA e 8 k)).toInt * i < 1000 * (tA t 34 (fpT t k)).toInt) := by
  have e5 : (2000000000 : Int64).toInt = 2000000000 := by decide
  cases hQ : eQ e k with
  | nil =>
    obtain ⟨h1, h2⟩ := zq_nil hz hk hQ
    unfold q_tmg
    rw [h1]
    dsimp only
    rw [e5]
    exact ⟨by omega, by omega, fun _ _ hw => absurd h2 hw⟩
  | cons p q =>
    obtain ⟨h1, hw, -, -, h2, h3⟩ := zq_cons hz hk hQ
    have hrd := hnr hw
    have hst := rd_st hz hk hw
    have hdu := rd_duf hz hk
    rw [hnd] at hdu
    have hlt : tF t 1 < q_start x (eA e 1 k) := Classical.byContradiction fun h9 => by
      have := decide_eq_true h9
      rw [this] at hdu
      cases hdu
    have hnow := hz.1.1.2.2.2.2.1.rng (by decide)
    have hsr := fb_rng (q_start x (eA e 1 k))
    rw [lt_toInt] at hlt
    have eS : ((q_start x (eA e 1 k) - tF t 1).toInt64).toInt = (q_start x (eA e 1 k)).toInt - (tF t 1).toInt := by
      rw [Int32.toInt_toInt64, fb_subI (by omega) (by omega)]
    obtain ⟨a1, a2, a3, a4⟩ := tuc_ok hz (zb_l (t := t) hk) h3
    obtain ⟨b1, b2, b3, b4⟩ := tuc_ok hz (zb_g (t := t) (zd_gr hz hk)) h3
    have hs64 := sz_64 hz.1 h3
    have hone : (tB t 32 k).toInt < 1000 * (tA t 34 p).toInt ∨ (tB t 32 (8 + eA e 8 k)).toInt < 1000 * (tA t 34 p).toInt := by
      unfold m_rd at hrd
      rw [h2] at hrd
      by_cases g1 : tB t 32 k < 1000 * (tA t 34 p).toInt64
      · rw [Int64.lt_iff_toInt_lt, hs64] at g1; exact Or.inl g1
      · by_cases g2 : 1000 * (tA t 34 p).toInt64 ≤ tB t 32 (8 + eA e 8 k)
        · simp [g1, g2] at hrd
        · rw [Int64.le_iff_toInt_le, hs64] at g2; exact Or.inr (by omega)
    unfold q_tmg
    rw [h1]
    dsimp only
    rw [(zp hz h3).2.2.1, h2]
    generalize hA : q_tuc x (eA e 3 k) (tA t 34 p) = A at *
    generalize hB : q_tuc x (eA e 3 (8 + eA e 8 k)) (tA t 34 p) = B at *
    have hM : (if B < A then A else B).toInt = max A.toInt B.toInt := by
      by_cases g : B < A
      · rw [if_pos g]; rw [Int64.lt_iff_toInt_lt] at g; omega
      · rw [if_neg g]; rw [Int64.lt_iff_toInt_lt] at g; omega
    generalize hMM : (if B < A then A else B) = M at *
    have hR : (if M < (q_start x (eA e 1 k) - tF t 1).toInt64 then M else (q_start x (eA e 1 k) - tF t 1).toInt64).toInt = min M.toInt ((q_start x (eA e 1 k)).toInt - (tF t 1).toInt) := by
      by_cases g : M < (q_start x (eA e 1 k) - tF t 1).toInt64
      · rw [if_pos g]; rw [Int64.lt_iff_toInt_lt, eS] at g; omega
      · rw [if_neg g, eS]; rw [Int64.lt_iff_toInt_lt, eS] at g; omega
    rw [hR, hM]
    refine ⟨?_, by omega, fun i hi _ => ⟨fun hg => ?_, ?_⟩⟩
    · rcases hone with g | g
      · have := a3 g; omega
      · have := b3 g; omega
    · rw [hst, if_pos hg] at hi
      omega
    · rcases Int.le_total A.toInt B.toInt with g | g
      · exact Or.inr (b4 i (by omega))
      · exact Or.inl (a4 i (by omega))
/-- nobody is due, nobody ready -/
def zNow (e : kE) (t : mo_T) : Prop := ∀ k, k < eA e 6 1 → m_duf t (fpT t) k = false ∧ (¬ tA t 19 k = 0 → m_rd t (fpT t) (eA e 8 k) k = false)
theorem zNow_of (hI : tI e t) (hd : m_due t (fpT t) (eA e 6 1) = none) (hb : m_best t (fpT t) (grT t) (eA e 6 1) (eA e 6 0) = none) : zNow e t := by
  intro k hk
  refine ⟨(am_none _).mp hd k hk, fun hw => ?_⟩
  have h1 := (best_none _).mp hb (eA e 8 k) (hI.2.1 k hk).1.2 k hk
  have h13 := (hI.2.1 k hk).1.1
  simpa [m_exf, m_wt, h13, hw] using h1
theorem lst_ok (hz : zw G nu z o e t x) (hno : zNow e t) : ∀ n, n ≤ eA e 6 1 → 1 ≤ (z_lst x e t n).toInt ∧ (z_lst x e t n).toInt ≤ 2147483647 ∧ ∀ i : Nat, (i : Int) < (z_lst x e t n).toInt → ∀ k, k < n → ¬ tA t 19 k = 0 → (0 < tA t 15 k → (tF t 1).toInt + i < (m_st t (fpT t) k).toInt) ∧ ((tB t 32 k).toInt + (tA t 30 k).toInt * i < 1000 * (tA t 34 (fpT t k)).toInt ∨ (tB t 32 (8 + eA e 8 k)).toInt + (tA t 30 (8 + eA e 8 k)).toInt * i < 1000 * (tA t 34 (fpT t k)).toInt)
  | 0, _ => by
    have e5 : (z_lst x e t 0).toInt = 2000000000 := by show (2000000000 : Int64).toInt = _; decide
    rw [e5]
    exact ⟨by omega, by omega, fun _ _ k hk => absurd hk (Nat.not_lt_zero k)⟩
  | n + 1, h => by
    obtain ⟨a1, a2, a3⟩ := lst_ok hz hno n (by omega)
    obtain ⟨b1, b2, b3⟩ := tmg_ok hz (k := n) (by omega) (hno n (by omega)).1 (hno n (by omega)).2
    rw [z_lst]
    generalize hq : q_tmg x (eA e 1 n) (eA e 3 n) (eA e 3 (8 + eA e 8 n)) (tF t 1) = Q at *
    have hR : (if Q < z_lst x e t n then Q else z_lst x e t n).toInt = min Q.toInt (z_lst x e t n).toInt := by
      by_cases g : Q < z_lst x e t n
      · rw [if_pos g]; rw [Int64.lt_iff_toInt_lt] at g; omega
      · rw [if_neg g]; rw [Int64.lt_iff_toInt_lt] at g; omega
    rw [hR]
    refine ⟨by omega, by omega, fun i hi k hk hw => ?_⟩
    by_cases e1 : k = n
    · subst e1; exact b3 i (by omega) hw
    · exact a3 i (by omega) k (by omega) hw
/-- so many ticks the class leaps -/
theorem idle_n (hz : zw G nu z o e t x) (hno : zNow e t) {en : Int32} (hlt : tF t 1 < en) (hen : en.toInt ≤ 1000000000) (hti : en.toInt - (tF t 1).toInt ≤ 100000) : ∃ n : Nat, 0 < n ∧ n ≤ 100000 ∧ (if en - tF t 1 < (z_lst x e t (eA e 6 1)).toInt32 then en - tF t 1 else (z_lst x e t (eA e 6 1)).toInt32) = nI n ∧ (tF t 1).toInt + n ≤ en.toInt ∧ zNo e t n ∧ ((∀ k, k < eA e 6 1 → tA t 19 k = 0) → nI n = en - tF t 1) := by
  obtain ⟨a1, a2, a3⟩ := lst_ok hz hno _ (Nat.le_refl _)
  have hnow := hz.1.1.2.2.2.2.1.rng (by decide)
  rw [lt_toInt] at hlt
  have hs : (en - tF t 1).toInt = en.toInt - (tF t 1).toInt := sub_toInt (by omega) (by omega)
  have h32 : (z_lst x e t (eA e 6 1)).toInt32.toInt = (z_lst x e t (eA e 6 1)).toInt := by
    rw [Int64.toInt_toInt32, fb_bmod (by omega) (by omega)]
  have hnever : (∀ k, k < eA e 6 1 → tA t 19 k = 0) → ∀ n, n ≤ eA e 6 1 → z_lst x e t n = 2000000000 := by
    intro hall n
    induction n with
    | zero => intro _; rfl
    | succ n ih =>
      intro h
      have h1 := zq_nil hz (k := n) (by omega) ((zq_iff hz (by omega)).mp (hall n (by omega)))
      rw [z_lst, ih (by omega)]
      unfold q_tmg
      rw [h1.1]
      dsimp only
      rw [if_neg (by decide)]
  have hR : (if en - tF t 1 < (z_lst x e t (eA e 6 1)).toInt32 then en - tF t 1 else (z_lst x e t (eA e 6 1)).toInt32).toInt = min (en.toInt - (tF t 1).toInt) (z_lst x e t (eA e 6 1)).toInt := by
    by_cases g : en - tF t 1 < (z_lst x e t (eA e 6 1)).toInt32
    · rw [if_pos g, hs]; rw [lt_toInt, hs, h32] at g; omega
    · rw [if_neg g, h32]; rw [lt_toInt, hs, h32] at g; omega
  generalize hV : (if en - tF t 1 < (z_lst x e t (eA e 6 1)).toInt32 then en - tF t 1 else (z_lst x e t (eA e 6 1)).toInt32) = V at *
  obtain ⟨n, n1, n2, en9⟩ := bd.of (v := V) (lo := 1) (hi := 100000) (by rw [hR]; omega) (by rw [hR]; omega)
  have hVI : V.toInt = (n : Int) := by rw [en9, nI_toInt (by omega)]
  refine ⟨n, n1, n2, en9, by omega, fun i hi k hk hw => a3 i (by omega) k hk hw, fun hall => ?_⟩
  have h9 := hnever hall _ (Nat.le_refl _)
  have h10 : (2000000000 : Int64).toInt = 2000000000 := by decide
  rw [h9, h10] at hR
  exact Int32.toInt_inj.mp (by rw [← en9, hR, hs]; omega)
end TU
