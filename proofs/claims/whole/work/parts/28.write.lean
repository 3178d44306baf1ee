/-! stores that keep the relation -/
theorem ag_sI {b : Nat} {z x : kw_St} {id a : Nat} {v : Int32} (h : kw_ag b z x) (hb : b ≠ a) : kw_ag b z (sI x id a v) := ⟨fun i => by rw [kI_sI, if_neg (fun q => hb q.2)]; exact h.1 i, h.2.1, h.2.2.1, h.2.2.2.1, h.2.2.2.2.1, h.2.2.2.2.2.1, h.2.2.2.2.2.2⟩
theorem ag_sJ {b : Nat} {z x : kw_St} {id a : Nat} {v : Int64} (h : kw_ag b z x) (hb : b ≠ a) : kw_ag b z (sJ x id a v) := ⟨h.1, fun i => by rw [kJ_sJ, if_neg (fun q => hb q.2)]; exact h.2.1 i, h.2.2.1, h.2.2.2.1, h.2.2.2.2.1, h.2.2.2.2.2.1, h.2.2.2.2.2.2⟩
theorem ag_sR {b : Nat} {z x : kw_St} {id a : Nat} {v : Option Nat} (h : kw_ag b z x) (hb : b ≠ a) : kw_ag b z (sR x id a v) := ⟨h.1, h.2.1, fun i => by rw [kR_sR, if_neg (fun q => hb q.2)]; exact h.2.2.1 i, h.2.2.2.1, h.2.2.2.2.1, h.2.2.2.2.2.1, h.2.2.2.2.2.2⟩
theorem ag_sC {b : Nat} {z x : kw_St} {a k : Nat} {v : Option Nat} (h : kw_ag b z x) (hb : b ≠ a) : kw_ag b z (sC x a k v) := ⟨h.1, h.2.1, h.2.2.1, h.2.2.2.1, h.2.2.2.2.1, by rw [kC_sC, if_neg hb]; exact h.2.2.2.2.2.1, h.2.2.2.2.2.2⟩
theorem ag_sCrow {b : Nat} {z x : kw_St} {a : Nat} {v : Nat → Option Nat} (h : kw_ag b z x) (hb : b ≠ a) : kw_ag b z (sCrow x a v) := ⟨h.1, h.2.1, h.2.2.1, h.2.2.2.1, h.2.2.2.2.1, by rw [kC_sCrow, if_neg hb]; exact h.2.2.2.2.2.1, h.2.2.2.2.2.2⟩
theorem ag_sNew {b : Nat} {z x : kw_St} {a n : Nat} (h : kw_ag b z x) (hb : b ≠ a) : kw_ag b z (sNew x a n) := ⟨fun i => by rw [kI_sNew, if_neg hb]; exact h.1 i, fun i => by rw [kJ_sNew, if_neg hb]; exact h.2.1 i, fun i => by rw [kR_sNew, if_neg hb]; exact h.2.2.1 i, by rw [kA_sNew, if_neg hb]; exact h.2.2.2.1, by rw [kB_sNew, if_neg hb]; exact h.2.2.2.2.1, by rw [kC_sNew, if_neg hb]; exact h.2.2.2.2.2.1, by rw [kN_sNew, if_neg hb]; exact h.2.2.2.2.2.2⟩
/-- two kinds, two cells -/
theorem nu_ne {nu : Nat → Option Nat} {a b r q : Nat} (hb : nu b = some r) (ha : nu a = some q) (h : r ≠ q) : b ≠ a := fun e9 => h (by rw [e9, ha] at hb; exact (Option.some.inj hb).symm)
theorem chT_to {t t' : mo_T} : ∀ {q : List Nat}, (∀ p, p ∈ q → tA t' 39 p = tA t 39 p) → chT t q → chT t' q
  | [], _, _ => trivial
  | [p], h, h9 => (h p List.mem_cons_self).trans h9
  | p :: r :: q, h, h9 => ⟨(h p List.mem_cons_self).trans h9.1, chT_to (fun a ha => h a (List.mem_cons_of_mem _ ha)) h9.2⟩
theorem chX_to {e e' : kE} {x y : kw_St} : ∀ {q : List Nat}, (∀ p, p ∈ q → kR y 208 (eA e' 2 p) = kR x 208 (eA e 2 p) ∧ eA e' 2 p = eA e 2 p) → chX e x q → chX e' y q
  | [], _, _ => trivial
  | [p], h, h9 => (h p List.mem_cons_self).1.trans h9
  | p :: r :: q, h, h9 => ⟨((h p List.mem_cons_self).1.trans h9.1).trans (by rw [(h r (List.mem_cons_of_mem _ List.mem_cons_self)).2]), chX_to (fun a ha => h a (List.mem_cons_of_mem _ ha)) h9.2⟩
section ZWR
variable {G : kw_G} {nu : Nat → Option Nat} {z x : kw_St} {o : Nat} {e : kE} {t : mo_T} {k b : Nat}
theorem tI_held (hI : tI e t) (hk : k < eA e 6 1) (v : Int32) : tI e (uA t 26 k v) := by
  refine ⟨hI.1, hI.2.1, ?_, hI.2.2.2.1, hI.2.2.2.2.1, hI.2.2.2.2.2.1, hI.2.2.2.2.2.2.1, ⟨fun r h1 h2 => ⟨fun j j1 j2 => ?_, (hI.2.2.2.2.2.2.2.1.1 r h1 h2).2⟩, hI.2.2.2.2.2.2.2.1.2.1, hI.2.2.2.2.2.2.2.1.2.2⟩, hI.2.2.2.2.2.2.2.2⟩
  · intro r hr
    have h := hI.2.2.1 r hr
    exact ⟨h.1, h.2.1, h.2.2.1, h.2.2.2.1, h.2.2.2.2.1, by
      have h9 := h.2.2.2.2.2
      revert h9
      generalize eQ e r = q
      induction q with
      | nil => exact id
      | cons p q ih =>
        cases q with
        | nil => exact id
        | cons r q => exact fun h8 => ⟨h8.1, ih h8.2⟩⟩
  · have h3 := (hI.2.2.2.2.2.2.2.1.1 r h1 h2).1 j j1 j2
    rw [tA_uA]
    have h4 : r ≠ k := by omega
    simp [h4, h3]
theorem zw_held (hz : zw G nu z o e t x) (hk : k < eA e 6 1) (v : Int32) : zw G nu z o e (uA t 26 k v) (sI x 166 (eA e 1 k) v) := by
  refine ⟨tI_held hz.1 hk v, hz.2.1, ⟨hz.2.2.1.1, hz.2.2.1.2.1, fun j hj => ?_, hz.2.2.1.2.2.2.1, hz.2.2.1.2.2.2.2.1, ?_, hz.2.2.1.2.2.2.2.2.2⟩, fun b r h1 h2 h3 => ag_sI (hz.2.2.2 b r h1 h2 h3) (nu_ne h1 (zk_l hz hk) (by omega))⟩
  · obtain ⟨a1, a2, a3, a4, a5, a6, a7, a8, a9, a10, a11, a12, a13, a14, a15, a16, a17, a18⟩ := zl hz hj
    refine ⟨a1, a2, a3, a4, a5, a6, a7, a8, a9, a10, a11, a12, a13, a14, a15, a16, ?_, a18⟩
    rw [kI_sI, tA_uA]
    simp [zi_l hz hj hk, a17]
  · intro j hj
    have h9 := hz.2.2.1.2.2.2.2.2.1 j hj
    revert h9
    generalize eQ e j = q
    induction q with
    | nil => exact id
    | cons p q ih =>
      cases q with
      | nil => exact id
      | cons r q => exact fun h8 => ⟨h8.1, ih h8.2⟩
theorem zb_20 (hI : tI e t) (hb : zB e t b) : b < 20 := by
  have h1 := hI.1.1.2
  have h2 := hI.1.2.1.2
  rcases hb with h | h | h <;> omega
theorem tI_B (hI : tI e t) {v : Int64} (h1 : -(1500000 * (eA e 6 3 : Int)) ≤ v.toInt) (h2 : v.toInt ≤ 20000000) (h3 : ∀ k, k < 8 → b = 12 + k → tA t 28 k = 0 → v = 0) : tI e (uB t 32 b v) := by
  refine ⟨hI.1, hI.2.1, fun k hk => ?_, hI.2.2.2.1, hI.2.2.2.2.1, hI.2.2.2.2.2.1, fun c hc => ?_, ⟨hI.2.2.2.2.2.2.2.1.1, hI.2.2.2.2.2.2.2.1.2.1, fun k hk h0 => ?_⟩, hI.2.2.2.2.2.2.2.2⟩
  · have h := hI.2.2.1 k hk
    exact ⟨h.1, h.2.1, h.2.2.1, h.2.2.2.1, h.2.2.2.2.1, chT_to (t := t) (fun _ _ => rfl) h.2.2.2.2.2⟩
  · have h := hI.2.2.2.2.2.2.1 c hc
    refine ⟨h.1, h.2.1, ?_, ?_⟩ <;> rw [tB_uB, if_pos rfl] <;> split
    · exact h1
    · exact h.2.2.1
    · exact h2
    · exact h.2.2.2
  · have h := hI.2.2.2.2.2.2.2.1.2.2 k hk h0
    refine ⟨h.1, h.2.1, ?_⟩
    rw [tB_uB, if_pos rfl]
    split
    · rename_i h4
      exact h3 k hk h4.symm h0
    · exact h.2.2
/-- what a bucket holds behind so many ticks -/
theorem tok_toInt (hI : tI e t) (hb : b < 20) {ti : Int32} (hti : bd ti 0 100000) : (m_tok t b ti).toInt = min ((tB t 32 b).toInt + (tA t 30 b).toInt * ti.toInt) (1000 * (tA t 31 b).toInt) := by
  obtain ⟨h1, h2, h3, h4⟩ := hI.2.2.2.2.2.2.1 b hb
  have hnb := hI.1.2.2.2.1.2
  have hnp := hI.1.2.2.1.2
  obtain ⟨n, -, hn, rfl⟩ := hti
  obtain ⟨r, -, hr, er⟩ := h1
  obtain ⟨u, -, hu, eu⟩ := h2
  have hm : r * n ≤ 1000 * 100000 := Nat.mul_le_mul hr hn
  have e1 : (nI r).toInt64 * (nI n).toInt64 = lN (r * n) := by rw [nI_l (by omega), nI_l (by omega), lN_mul]
  have e2 : (1000 : Int64) * (nI u).toInt64 = lN (1000 * u) := by rw [nI_l (by omega), show (1000 : Int64) = lN 1000 from rfl, lN_mul]
  have e3 : (lN (r * n)).toInt = ((r * n : Nat) : Int) := pk_lT (by omega)
  have e4 : (lN (1000 * u)).toInt = ((1000 * u : Nat) : Int) := pk_lT (by omega)
  have e5 : (tB t 32 b + lN (r * n)).toInt = (tB t 32 b).toInt + ((r * n : Nat) : Int) := by rw [fb_addL (by rw [e3]; omega) (by rw [e3]; omega), e3]
  unfold m_tok
  rw [er, eu, e1, e2, nI_toInt (by omega), nI_toInt (by omega), nI_toInt (by omega)]
  have e6 : ((r : Int) * (n : Int)) = ((r * n : Nat) : Int) := by push_cast; rfl
  rw [e6]
  by_cases hc : tB t 32 b + lN (r * n) ≤ lN (1000 * u)
  · rw [if_pos hc, e5]
    rw [Int64.le_iff_toInt_le, e5, e4] at hc
    omega
  · rw [if_neg hc, e4]
    rw [Int64.le_iff_toInt_le, e5, e4] at hc
    omega
theorem tI_tok (hI : tI e t) (hb : b < 20) {ti : Int32} (hti : bd ti 0 100000) : tI e (uB t 32 b (m_tok t b ti)) := by
  have h0 := tok_toInt hI hb hti
  have h1 := hI.2.2.2.2.2.2.1 b hb
  have h2 := h1.1.rng (by decide)
  have h3 := h1.2.1.rng (by decide)
  have h4 := hti.rng (by decide)
  have h6 := h1.2.2.1
  have h5 : 0 ≤ (tA t 30 b).toInt * ti.toInt := Int.mul_nonneg h2.1 h4.1
  refine tI_B hI (by omega) (by omega) (fun k hk e9 hp => ?_)
  obtain ⟨z1, z2, z3⟩ := hI.2.2.2.2.2.2.2.1.2.2 k hk hp
  subst e9
  rw [z1, z2, z3] at h0
  simp at h0
  exact Int64.toInt_inj.mp (by rw [h0]; rfl)
theorem uB_self (t : mo_T) (j k : Nat) : uB t j k (tB t j k) = t := by
  have : (fun i => if i = j then vp_updL (t.2.2.2 i) k (tB t j k) else t.2.2.2 i) = t.2.2.2 := by
    funext i r
    by_cases h : i = j
    · subst h
      simp only [if_true, vp_updL]
      by_cases h2 : r = k
      · subst h2; simp [tB]
      · simp [h2]
    · simp [h]
  show (t.1, t.2.1, t.2.2.1, _) = t
  rw [this]
theorem tok_none (hI : tI e t) {ti : Int32} (hti : bd ti 0 100000) (hk : k < 8) (h0 : tA t 28 k = 0) : m_tok t (12 + k) ti = tB t 32 (12 + k) := by
  obtain ⟨z1, z2, z3⟩ := hI.2.2.2.2.2.2.2.1.2.2 k hk h0
  have h0 := tok_toInt hI (b := 12 + k) (by omega) hti
  rw [z1, z2, z3] at h0
  simp at h0
  rw [z3]
  exact Int64.toInt_inj.mp (by rw [h0]; rfl)
theorem rd_fill (hz : zw G nu z o e t x) (hb : zB e t b) (ti : Int32) : q_fill x (eA e 3 b) ti = m_tok t b ti := by
  obtain ⟨h1, h2, h3⟩ := zbu hz hb
  unfold q_fill m_tok
  rw [h1, h2, h3]
  by_cases hc : tB t 32 b + (tA t 30 b).toInt64 * ti.toInt64 < 1000 * (tA t 31 b).toInt64
  · rw [if_pos hc, if_pos (Int64.le_of_lt hc)]
  · rw [if_neg hc]
    by_cases hd : tB t 32 b + (tA t 30 b).toInt64 * ti.toInt64 ≤ 1000 * (tA t 31 b).toInt64
    · rw [if_pos hd]; exact Int64.le_antisymm (Int64.not_lt.mp hc) hd
    · rw [if_neg hd]
theorem zw_B (hz : zw G nu z o e t x) (hb : zB e t b) {v : Int64} (hI : tI e (uB t 32 b v)) : zw G nu z o e (uB t 32 b v) (sJ x 52 (eA e 3 b) v) := by
  refine ⟨hI, hz.2.1, ⟨hz.2.2.1.1, hz.2.2.1.2.1, hz.2.2.1.2.2.1, hz.2.2.1.2.2.2.1, fun c hc => ?_, fun j hj => chX_to (e := e) (x := x) (fun _ _ => ⟨rfl, rfl⟩) (hz.2.2.1.2.2.2.2.2.1 j hj), hz.2.2.1.2.2.2.2.2.2⟩, fun b9 r h1 h2 h3 => ag_sJ (hz.2.2.2 b9 r h1 h2 h3) (nu_ne h1 (zk_b hz hb) (by omega))⟩
  have h := zbu hz hc
  refine ⟨h.1, h.2.1, ?_⟩
  rw [kJ_sJ, tB_uB]
  simp [zi_b hz hc hb, h.2.2]
theorem zw_fill (hz : zw G nu z o e t x) (hb : zB e t b) {ti : Int32} (hti : bd ti 0 100000) : zw G nu z o e (uB t 32 b (m_tok t b ti)) (sJ x 52 (eA e 3 b) (q_fill x (eA e 3 b) ti)) := by
  rw [rd_fill hz hb]
  exact zw_B hz hb (tI_tok hz.1 (zb_20 hz.1 hb) hti)
theorem zw_cong (hz : zw G nu z o e t x) {t' : mo_T} (hI : tI e t') (hF : ∀ j, tF t' j = tF t j) (hL : tL t' = tL t) (hA : ∀ j k, tA t' j k = tA t j k) (hB : ∀ j k, j ≠ 32 → tB t' j k = tB t j k) (hB2 : ∀ b, zB e t b → tB t' 32 b = tB t 32 b) : zw G nu z o e t' x := by
  obtain ⟨F', L', A', B'⟩ := t'
  obtain ⟨F, L, A, B⟩ := t
  have e1 : F' = F := funext hF
  have e2 : L' = L := hL
  have e3 : A' = A := funext fun j => funext (hA j)
  subst e1 e2 e3
  refine ⟨hI, hz.2.1, ⟨hz.2.2.1.1, fun g hg => ?_, fun k hk => ?_, hz.2.2.1.2.2.2.1, fun b hb => ?_, hz.2.2.1.2.2.2.2.2.1, hz.2.2.1.2.2.2.2.2.2⟩, hz.2.2.2⟩
  · have h := zg hz hg
    exact ⟨h.1, h.2.1, h.2.2.1, h.2.2.2.1, h.2.2.2.2.1.trans (hB 10 g (by decide)).symm, h.2.2.2.2.2.trans (hB 11 g (by decide)).symm⟩
  · obtain ⟨a1, a2, a3, a4, a5, a6, a7, a8, a9, a10, a11, a12, a13, a14, a15, a16, a17, a18⟩ := zl hz hk
    exact ⟨a1, a2, a3, a4, a5, a6, a7, a8, a9, a10, a11, a12, a13, a14, a15, a16, a17, a18.trans (hB 27 k (by decide)).symm⟩
  · have h := zbu hz hb
    exact ⟨h.1, h.2.1, h.2.2.trans (hB2 b hb).symm⟩
theorem tI_now (hI : tI e t) {v : Int32} (hv : bd v 0 1000000000) : tI e (uF t 1 v) := by
  refine ⟨⟨hI.1.1, hI.1.2.1, hI.1.2.2.1, hI.1.2.2.2.1, hv, hI.1.2.2.2.2.2.1, hI.1.2.2.2.2.2.2.1, hI.1.2.2.2.2.2.2.2⟩, hI.2.1, fun k hk => ?_, hI.2.2.2.1, hI.2.2.2.2.1, hI.2.2.2.2.2.1, hI.2.2.2.2.2.2.1, hI.2.2.2.2.2.2.2.1, hI.2.2.2.2.2.2.2.2⟩
  have h := hI.2.2.1 k hk
  exact ⟨h.1, h.2.1, h.2.2.1, h.2.2.2.1, h.2.2.2.2.1, chT_to (t := t) (fun _ _ => rfl) h.2.2.2.2.2⟩
theorem tI_pasN (hI : tI e t) {ti : Int32} (hti : bd ti 0 100000) (hnow : (tF t 1).toInt + ti.toInt ≤ 1000000000) : ∀ n, n ≤ 20 → tI e (m_pasN t ti n)
  | 0, _ => by
    have h1 := hI.1.2.2.2.2.1.rng (by decide)
    have h2 := hti.rng (by decide)
    refine tI_now hI (bd.of ?_ ?_) <;> rw [fb_addI (by omega) (by omega)] <;> omega
  | n + 1, h => tI_tok (tI_pasN hI hti hnow n (by omega)) (by omega) hti
theorem pasN_A (t : mo_T) (ti : Int32) : ∀ n j k, tA (m_pasN t ti n) j k = tA t j k
  | 0, _, _ => rfl
  | n + 1, j, k => (tA_uB _ _ _ _ j k).trans (pasN_A t ti n j k)
theorem pasN_L (t : mo_T) (ti : Int32) : ∀ n, tL (m_pasN t ti n) = tL t
  | 0 => rfl
  | n + 1 => (tL_uB _ _ _ _).trans (pasN_L t ti n)
theorem pasN_F (t : mo_T) (ti : Int32) : ∀ n j, tF (m_pasN t ti n) j = if j = 1 then tF t 1 + ti else tF t j
  | 0, _ => rfl
  | n + 1, j => (tF_uB _ _ _ _ j).trans (pasN_F t ti n j)
theorem pasN_B (t : mo_T) (ti : Int32) : ∀ n j k, j ≠ 32 → tB (m_pasN t ti n) j k = tB t j k
  | 0, _, _, _ => rfl
  | n + 1, j, k, h => by
    have h1 := pasN_B t ti n j k h
    rw [m_pasN, tB_uB, if_neg h, h1]
theorem tok_eq {t u : mo_T} {b : Nat} {ti : Int32} (h0 : tA u 30 b = tA t 30 b) (h1 : tA u 31 b = tA t 31 b) (h2 : tB u 32 b = tB t 32 b) : m_tok u b ti = m_tok t b ti := by unfold m_tok; rw [h0, h1, h2]
theorem pasN_T (t : mo_T) (ti : Int32) : ∀ n b, tB (m_pasN t ti n) 32 b = if b < n then m_tok t b ti else tB t 32 b
  | 0, _ => rfl
  | n + 1, b => by
    have h1 := pasN_T t ti n
    rw [m_pasN, tB_uB, if_pos rfl]
    by_cases e1 : b = n
    · subst e1
      rw [if_pos rfl, if_pos (Nat.lt_succ_self b)]
      refine tok_eq (pasN_A t ti b 30 b) (pasN_A t ti b 31 b) ?_
      rw [h1 b, if_neg (Nat.lt_irrefl b)]
    · rw [if_neg e1, h1 b]
      by_cases h2 : b < n
      · rw [if_pos h2, if_pos (by omega)]
      · rw [if_neg h2, if_neg (by omega)]
/-- the groups' buckets are filled one by one; the classes' -/
def z_p1 (t : mo_T) (ti : Int32) : Nat → mo_T
  | 0 => t
  | n + 1 => uB (z_p1 t ti n) 32 (8 + n) (m_tok (z_p1 t ti n) (8 + n) ti)
def z_p3 (t : mo_T) (ti : Int32) (n : Nat) : mo_T := uB t 32 n (m_tok t n ti)
def z_p2 (t : mo_T) (ti : Int32) : Nat → mo_T
  | 0 => t
  | n + 1 => uB (z_p3 (z_p2 t ti n) ti n) 32 (12 + n) (m_tok (z_p3 (z_p2 t ti n) ti n) (12 + n) ti)
theorem p1_A (t : mo_T) (ti : Int32) : ∀ n j k, tA (z_p1 t ti n) j k = tA t j k
  | 0, _, _ => rfl
  | n + 1, j, k => (tA_uB _ _ _ _ j k).trans (p1_A t ti n j k)
theorem p2_A (t : mo_T) (ti : Int32) : ∀ n j k, tA (z_p2 t ti n) j k = tA t j k
  | 0, _, _ => rfl
  | n + 1, j, k => ((tA_uB _ _ _ _ j k).trans (tA_uB _ _ _ _ j k)).trans (p2_A t ti n j k)
theorem p1_F (t : mo_T) (ti : Int32) : ∀ n j, tF (z_p1 t ti n) j = tF t j
  | 0, _ => rfl
  | n + 1, j => (tF_uB _ _ _ _ j).trans (p1_F t ti n j)
theorem p2_F (t : mo_T) (ti : Int32) : ∀ n j, tF (z_p2 t ti n) j = tF t j
  | 0, _ => rfl
  | n + 1, j => ((tF_uB _ _ _ _ j).trans (tF_uB _ _ _ _ j)).trans (p2_F t ti n j)
theorem p1_L (t : mo_T) (ti : Int32) : ∀ n, tL (z_p1 t ti n) = tL t
  | 0 => rfl
  | n + 1 => (tL_uB _ _ _ _).trans (p1_L t ti n)
theorem p2_L (t : mo_T) (ti : Int32) : ∀ n, tL (z_p2 t ti n) = tL t
  | 0 => rfl
  | n + 1 => ((tL_uB _ _ _ _).trans (tL_uB _ _ _ _)).trans (p2_L t ti n)
theorem p1_B (t : mo_T) (ti : Int32) : ∀ n j k, tB (z_p1 t ti n) j k = if j = 32 ∧ 8 ≤ k ∧ k < 8 + n then m_tok t k ti else tB t j k
  | 0, j, k => by rw [if_neg (by omega)]; rfl
  | n + 1, j, k => by
    have h1 := p1_B t ti n
    rw [z_p1, tB_uB]
    by_cases hj : j = 32
    · subst hj
      rw [if_pos rfl]
      by_cases hk : k = 8 + n
      · subst hk
        rw [if_pos rfl, if_pos (by omega)]
        exact tok_eq (p1_A t ti n 30 _) (p1_A t ti n 31 _) (by rw [h1, if_neg (by omega)])
      · rw [if_neg hk, h1]
        by_cases h2 : 8 ≤ k ∧ k < 8 + n
        · rw [if_pos ⟨rfl, h2⟩, if_pos (by omega)]
        · rw [if_neg (by omega), if_neg (by omega)]
    · rw [if_neg hj, h1, if_neg (by omega), if_neg (by omega)]
theorem p2_B (t : mo_T) (ti : Int32) : ∀ n j k, n ≤ 8 → tB (z_p2 t ti n) j k = if j = 32 ∧ (k < n ∨ (12 ≤ k ∧ k < 12 + n)) then m_tok t k ti else tB t j k
  | 0, j, k, _ => by rw [if_neg (by omega)]; rfl
  | n + 1, j, k, h8 => by
    have h1 := fun j k => p2_B t ti n j k (by omega)
    have h2 : ∀ j k, tB (z_p3 (z_p2 t ti n) ti n) j k = if j = 32 ∧ (k < n + 1 ∨ (12 ≤ k ∧ k < 12 + n)) then m_tok t k ti else tB t j k := by
      intro j k
      rw [z_p3, tB_uB]
      by_cases hj : j = 32
      · subst hj
        rw [if_pos rfl]
        by_cases hk : k = n
        · subst hk
          rw [if_pos rfl, if_pos (by omega)]
          exact tok_eq (p2_A t ti k 30 _) (p2_A t ti k 31 _) (by rw [h1, if_neg (by omega)])
        · rw [if_neg hk, h1]
          by_cases h2 : k < n ∨ (12 ≤ k ∧ k < 12 + n)
          · rw [if_pos ⟨rfl, h2⟩, if_pos (by omega)]
          · rw [if_neg (by omega), if_neg (by omega)]
      · rw [if_neg hj, h1, if_neg (by omega), if_neg (by omega)]
    rw [z_p2, tB_uB]
    by_cases hj : j = 32
    · subst hj
      rw [if_pos rfl]
      by_cases hk : k = 12 + n
      · subst hk
        rw [if_pos rfl, if_pos (by omega)]
        exact tok_eq ((tA_uB _ _ _ _ _ _).trans (p2_A t ti n 30 _)) ((tA_uB _ _ _ _ _ _).trans (p2_A t ti n 31 _)) (by rw [h2, if_neg (by omega)])
      · rw [if_neg hk, h2]
        by_cases h3 : k < n + 1 ∨ (12 ≤ k ∧ k < 12 + n)
        · rw [if_pos ⟨rfl, h3⟩, if_pos (by omega)]
        · rw [if_neg (by omega), if_neg (by omega)]
    · rw [if_neg hj, h2, if_neg (by omega), if_neg (by omega)]
theorem zw_tick (hz : zw G nu z o e t x) {v : Int32} (hv : bd v 0 1000000000) : zw G nu z o e (uF t 1 v) (sI x 254 o v) := by
  refine ⟨tI_now hz.1 hv, hz.2.1, ⟨hz.2.2.1.1, hz.2.2.1.2.1, hz.2.2.1.2.2.1, hz.2.2.1.2.2.2.1, hz.2.2.1.2.2.2.2.1, fun j hj => chX_to (e := e) (x := x) (fun _ _ => ⟨rfl, rfl⟩) (hz.2.2.1.2.2.2.2.2.1 j hj), ?_⟩, fun b9 r h1 h2 h3 => ag_sI (hz.2.2.2 b9 r h1 h2 h3) (nu_ne h1 (zk_o hz) (by omega))⟩
  have h := zsh hz
  exact ⟨by rw [kI_self]; rfl, h.2.1, h.2.2.1, h.2.2.2.1, h.2.2.2.2⟩
theorem zw_pas (hI0 : tI e t) {ti : Int32} (hti : bd ti 0 100000) (hnow : (tF t 1).toInt + ti.toInt ≤ 1000000000) (hz : zw G nu z o e (z_p2 (z_p1 t ti (eA e 6 0)) ti (eA e 6 1)) x) {v : Int32} (hv : v = tF t 1 + ti) : zw G nu z o e (m_pasN t ti 20) (sI x 254 o v) := by
  have hng := hI0.1.1.2
  have hnl := hI0.1.2.1.2
  have hb : bd v 0 1000000000 := by
    have h1 := hI0.1.2.2.2.2.1.rng (by decide)
    have h2 := hti.rng (by decide)
    rw [hv]
    refine bd.of ?_ ?_ <;> rw [fb_addI (by omega) (by omega)] <;> omega
  refine zw_cong (zw_tick hz hb) (tI_pasN hI0 hti hnow 20 (by omega)) (fun j => ?_) ?_ (fun j k => ?_) (fun j k hj => ?_) (fun b h => ?_)
  · rw [pasN_F, tF_uF, p2_F, p1_F, hv]
  · rw [pasN_L, tL_uF, p2_L, p1_L]
  · rw [pasN_A, tA_uF, p2_A, p1_A]
  · rw [pasN_B t ti 20 j k hj, tB_uF, p2_B _ _ _ _ _ hnl, if_neg (fun h => hj h.1), p1_B, if_neg (fun h => hj h.1)]
  · have hb20 := zb_20 hz.1 h
    rw [pasN_T, if_pos hb20, tB_uF, p2_B _ _ _ _ _ hnl]
    have h9 : zB e t b := by
      rcases h with h | h | ⟨h5, h6, h7⟩
      · exact Or.inl h
      · exact Or.inr (Or.inl h)
      · refine Or.inr (Or.inr ⟨h5, h6, ?_⟩)
        rw [tA_uF, p2_A, p1_A] at h7
        exact h7
    by_cases h1 : b < eA e 6 1 ∨ (12 ≤ b ∧ b < 12 + eA e 6 1)
    · rw [if_pos ⟨rfl, h1⟩]
      exact (tok_eq (p1_A t ti _ 30 _) (p1_A t ti _ 31 _) (by rw [p1_B, if_neg (by omega)])).symm
    · rw [if_neg (fun q => h1 q.2), p1_B, if_pos]
      rcases h9 with h | h | ⟨h5, h6, h7⟩ <;> omega
/-- those that are held are counted -/
def z_hN (t : mo_T) (ti : Int32) : Nat → mo_T
  | 0 => t
  | n + 1 => if (decide (¬ tA (z_hN t ti n) 19 n = 0) && !(m_rd (z_hN t ti n) (fpT (z_hN t ti n)) (grT (z_hN t ti n) n) n)) = true then uA (z_hN t ti n) 26 n (tA (z_hN t ti n) 26 n + ti) else z_hN t ti n
theorem zw_hN {ti : Int32} {n : Nat} (hz : zw G nu z o e (z_hN t ti n) x) (hn : n < eA e 6 1) : ((decide (¬ tA (z_hN t ti n) 19 n = 0) && !(m_rd (z_hN t ti n) (fpT (z_hN t ti n)) (grT (z_hN t ti n) n) n)) = true) = (q_held x (eA e 1 n) (eA e 3 n) (eA e 3 (8 + eA e 8 n)) = true) := by
  rw [rd_held hz hn, z_gr hz hn]
theorem zw_busy (hz : zw G nu z o e t x) {v lf on : Int32} (hI : tI e (uF (uF (uF t 6 v) 7 lf) 8 on)) : zw G nu z o e (uF (uF (uF t 6 v) 7 lf) 8 on) (sI x 256 o v) := by
  refine ⟨hI, hz.2.1, ⟨hz.2.2.1.1, hz.2.2.1.2.1, hz.2.2.1.2.2.1, hz.2.2.1.2.2.2.1, hz.2.2.1.2.2.2.2.1, fun j hj => chX_to (e := e) (x := x) (fun _ _ => ⟨rfl, rfl⟩) (hz.2.2.1.2.2.2.2.2.1 j hj), ?_⟩, fun b9 r h1 h2 h3 => ag_sI (hz.2.2.2 b9 r h1 h2 h3) (nu_ne h1 (zk_o hz) (by omega))⟩
  have h := zsh hz
  exact ⟨h.1, h.2.1, by rw [kI_self]; rfl, h.2.2.2.1, h.2.2.2.2⟩
end ZWR
