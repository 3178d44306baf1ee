/-! THE RELATION between the class's cells and the reference's state t. e names addresses (eA e c k: 0 the k-th group, 1 class, 2 packet, 3 bucket with the reference's number, 4 list, 5 a list's row), numbers (6: how many groups, classes, packets, begun), 7 the i-th begun packet, 8 a class's group, 9 when the link is free again, 10 how many places a list's row has; eQ e k is the queue of class k. -/
abbrev kE : Type := (Nat → Nat → Nat) × (Nat → List Nat)
def eA (e : kE) (c k : Nat) : Nat := e.1 c k
def eQ (e : kE) (k : Nat) : List Nat := e.2 k
def fA (e : kE) (c k v : Nat) : kE := (fun i r => if i = c ∧ r = k then v else e.1 i r, e.2)
def fQ (e : kE) (k : Nat) (q : List Nat) : kE := (e.1, fun r => if r = k then q else e.2 r)
theorem eA_fA (e : kE) (c k v i r : Nat) : eA (fA e c k v) i r = if i = c ∧ r = k then v else eA e i r := rfl
theorem eA_fQ (e : kE) (k : Nat) (q : List Nat) (i r : Nat) : eA (fQ e k q) i r = eA e i r := rfl
theorem eQ_fA (e : kE) (c k v r : Nat) : eQ (fA e c k v) r = eQ e r := rfl
theorem eQ_fQ (e : kE) (k : Nat) (q : List Nat) (r : Nat) : eQ (fQ e k q) r = if r = k then q else eQ e r := rfl
def zsum (f : Nat → Nat) : Nat → Nat
  | 0 => 0
  | n + 1 => zsum f n + f n
theorem zsum_congr {f g : Nat → Nat} : ∀ {n : Nat}, (∀ k, k < n → f k = g k) → zsum f n = zsum g n
  | 0, _ => rfl
  | n + 1, h => by rw [zsum, zsum, zsum_congr (n := n) (fun k hk => h k (by omega)), h n (by omega)]
theorem zsum_le {f g : Nat → Nat} : ∀ {n : Nat}, (∀ k, k < n → f k ≤ g k) → zsum f n ≤ zsum g n
  | 0, _ => Nat.le_refl _
  | n + 1, h => by
    have h1 := zsum_le (n := n) (fun k hk => h k (Nat.lt_succ_of_lt hk))
    have h2 := h n (Nat.lt_succ_self n)
    simp only [zsum]
    omega
theorem zsum_ge {f : Nat → Nat} : ∀ {n k : Nat}, k < n → f k ≤ zsum f n
  | 0, _, h => absurd h (Nat.not_lt_zero _)
  | n + 1, k, h => by
    simp only [zsum]
    by_cases e : k = n
    · subst e; omega
    · have := zsum_ge (f := f) (n := n) (k := k) (by omega)
      omega
theorem zsum_0 {f : Nat → Nat} : ∀ {n : Nat}, zsum f n = 0 ↔ ∀ k, k < n → f k = 0
  | 0 => by simp [zsum]
  | n + 1 => by
    simp only [zsum]
    rw [Nat.add_eq_zero_iff, zsum_0 (n := n)]
    constructor
    · intro h k hk
      by_cases e : k = n
      · subst e; exact h.2
      · exact h.1 k (by omega)
    · intro h
      exact ⟨fun k hk => h k (by omega), h n (by omega)⟩
/-- one summand changes -/
theorem zsum_up {f g : Nat → Nat} : ∀ {n b : Nat}, b < n → (∀ k, k < n → k ≠ b → g k = f k) → zsum g n + f b = zsum f n + g b
  | 0, _, h, _ => absurd h (Nat.not_lt_zero _)
  | n + 1, b, h, hg => by
    simp only [zsum]
    by_cases e : b = n
    · subst e
      have := zsum_congr (f := g) (g := f) (n := b) (fun k hk => hg k (by omega) (by omega))
      omega
    · have h1 := zsum_up (n := n) (b := b) (by omega) (fun k hk hne => hg k (by omega) hne)
      have h2 := hg n (by omega) (by omega)
      omega
/-- an int is a number from lo to hi -/
def bd (v : Int32) (lo hi : Nat) : Prop := ∃ n, lo ≤ n ∧ n ≤ hi ∧ v = nI n
def gN (t : mo_T) (k : Nat) : Nat := (tA t 15 k).toNatClampNeg
def hdI : List Nat → Int32
  | [] => -1
  | p :: _ => nI p
def chT (t : mo_T) : List Nat → Prop
  | [] => True
  | [p] => tA t 39 p = -1
  | p :: r :: q => tA t 39 p = nI r ∧ chT t (r :: q)
def chX (e : kE) (x : kw_St) : List Nat → Prop
  | [] => True
  | [p] => kR x 208 (eA e 2 p) = none
  | p :: r :: q => kR x 208 (eA e 2 p) = some (eA e 2 r) ∧ chX e x (r :: q)
/-- how many wait: all, those of a group; what is guaranteed: in all, in a group -/
def zL (e : kE) : Nat := zsum (fun k => (eQ e k).length) (eA e 6 1)
def zW (e : kE) (g : Nat) : Nat := zsum (fun k => if eA e 8 k = g then (eQ e k).length else 0) (eA e 6 1)
def zG (e : kE) (t : mo_T) : Nat := zsum (gN t) (eA e 6 1)
def zGg (e : kE) (t : mo_T) (g : Nat) : Nat := zsum (fun k => if eA e 8 k = g then gN t k else 0) (eA e 6 1)
def tD (e : kE) (t : mo_T) : Prop := (tF t 2 = nI (eA e 6 0) ∧ eA e 6 0 ≤ 4) ∧ (tF t 3 = nI (eA e 6 1) ∧ eA e 6 1 ≤ 8) ∧ (tF t 4 = nI (eA e 6 2) ∧ eA e 6 2 ≤ 512) ∧ (tF t 5 = nI (eA e 6 3) ∧ eA e 6 3 + zL e = eA e 6 2) ∧ bd (tF t 1) 0 1000000000 ∧ bd (tF t 7) 0 1500 ∧ (tF t 7 = 0 → tF t 8 = -1) ∧ (¬ tF t 7 = 0 → 1 ≤ eA e 6 3 ∧ tF t 8 = nI (eA e 7 (eA e 6 3 - 1)))
def tC (e : kE) (t : mo_T) (k : Nat) : Prop := (tA t 13 k = nI (eA e 8 k) ∧ eA e 8 k < eA e 6 0) ∧ bd (tA t 14 k) 1 12 ∧ bd (tA t 15 k) 0 1000 ∧ bd (tA t 16 k) 0 60000 ∧ (-(1500 * (eA e 6 3 : Int)) ≤ (tA t 20 k).toInt ∧ (tA t 20 k).toInt ≤ 1500 * (eA e 6 2 : Int)) ∧ bd (tA t 25 k) 0 1001500000
def tQ (e : kE) (t : mo_T) (k : Nat) : Prop := tA t 19 k = nI (eQ e k).length ∧ tA t 17 k = hdI (eQ e k) ∧ (∀ p, (eQ e k).getLast? = some p → tA t 18 k = nI p) ∧ (∀ p, p ∈ eQ e k → p < eA e 6 2 ∧ tA t 33 p = nI k) ∧ (eQ e k).Nodup ∧ chT t (eQ e k)
def tP (t : mo_T) (p : Nat) : Prop := bd (tA t 34 p) 64 1500 ∧ bd (tA t 35 p) 0 1000000000
def tK (e : kE) (t : mo_T) (b : Nat) : Prop := bd (tA t 30 b) 0 1000 ∧ bd (tA t 31 b) 0 20000 ∧ -(1500000 * (eA e 6 3 : Int)) ≤ (tB t 32 b).toInt ∧ (tB t 32 b).toInt ≤ 20000000
/-- what is not yet used holds nothing -/
def tZ (e : kE) (t : mo_T) : Prop := (∀ k, eA e 6 1 ≤ k → k < 8 → (∀ j, 19 ≤ j → j ≤ 29 → tA t j k = 0) ∧ tB t 27 k = 0) ∧ (∀ g, eA e 6 0 ≤ g → g < 4 → tB t 10 g = 0 ∧ tB t 11 g = 0) ∧ (∀ k, k < 8 → tA t 28 k = 0 → tA t 30 (12 + k) = 0 ∧ tA t 31 (12 + k) = 0 ∧ tB t 32 (12 + k) = 0)
/-- THE INVARIANT of the reference's state -/
def tI (e : kE) (t : mo_T) : Prop := tD e t ∧ (∀ k, k < eA e 6 1 → tC e t k) ∧ (∀ k, k < eA e 6 1 → tQ e t k) ∧ (∀ g, g < eA e 6 0 → bd (tA t 9 g) 1 12) ∧ (∀ p, p < eA e 6 2 → tP t p) ∧ (∀ i, i < eA e 6 3 → tA t 40 i = nI (eA e 7 i) ∧ eA e 7 i < eA e 6 2) ∧ (∀ b, b < 20 → tK e t b) ∧ tZ e t ∧ zG e t ≤ 1000
/-- when the link is free again (9 0) -/
def zF (e : kE) (t : mo_T) : Prop := (tF t 7 = 0 → nI (eA e 9 0) ≤ tF t 1) ∧ (¬ tF t 7 = 0 → nI (eA e 9 0) = tF t 1 + tF t 7)
/-- a bucket that is there -/
def zB (e : kE) (t : mo_T) (b : Nat) : Prop := b < eA e 6 1 ∨ (8 ≤ b ∧ b < 8 + eA e 6 0) ∨ (12 ≤ b ∧ b < 12 + eA e 6 1 ∧ ¬ tA t 28 (b - 12) = 0)
/-- kinds of the class's cells, and that they are apart -/
def zK (G : kw_G) (nu : Nat → Option Nat) (o : Nat) (e : kE) (t : mo_T) : Prop := nu o = some 5 ∧ (∀ i, i < 4 → nu (eA e 4 i) = some 0) ∧ (∀ g, g < eA e 6 0 → nu (eA e 0 g) = some 2) ∧ (∀ k, k < eA e 6 1 → nu (eA e 1 k) = some 3) ∧ (∀ p, p < eA e 6 2 → nu (eA e 2 p) = some 4) ∧ (∀ b, zB e t b → nu (eA e 3 b) = some 1) ∧ nu G.2.2.1 = some 11
  ∧ (∀ i, i < 4 → ∀ j, j < 4 → eA e 4 i = eA e 4 j → i = j) ∧ (∀ i, i < eA e 6 0 → ∀ j, j < eA e 6 0 → eA e 0 i = eA e 0 j → i = j) ∧ (∀ i, i < eA e 6 1 → ∀ j, j < eA e 6 1 → eA e 1 i = eA e 1 j → i = j) ∧ (∀ i, i < eA e 6 2 → ∀ j, j < eA e 6 2 → eA e 2 i = eA e 2 j → i = j) ∧ (∀ i, zB e t i → ∀ j, zB e t j → eA e 3 i = eA e 3 j → i = j)
/-- the lists -/
def zLs (G : kw_G) (nu : Nat → Option Nat) (o : Nat) (e : kE) (x : kw_St) : Prop := (∀ i, i < 4 → kR x (250 + i) o = some (eA e 4 i) ∧ kR x 1 (eA e 4 i) = some (eA e 5 i) ∧ kI x 2 (eA e 4 i) = nI (eA e 6 i) ∧ kN x (eA e 5 i) = eA e 10 i ∧ ((eA e 5 i = G.2.2.1 ∧ eA e 6 i = 0) ∨ (nu (eA e 5 i) = some 10 ∧ eA e 6 i ≤ eA e 10 i ∧ 10 ≤ eA e 10 i ∧ eA e 10 i ≤ 768))) ∧ kN x G.2.2.1 = 0
  ∧ (∀ i, i < 4 → ∀ j, j < 4 → nu (eA e 5 i) = some 10 → eA e 5 i = eA e 5 j → i = j) ∧ (∀ i, i < 3 → ∀ k, k < eA e 6 i → kC x (eA e 5 i) k = some (eA e i k)) ∧ (∀ k, k < eA e 6 3 → kC x (eA e 5 3) k = some (eA e 2 (eA e 7 k)))
/-- a group, a class, a packet, a bucket, the shaper -/
def zGr (e : kE) (t : mo_T) (x : kw_St) (g : Nat) : Prop := kI x 100 (eA e 0 g) = tA t 9 g ∧ kR x 101 (eA e 0 g) = some (eA e 3 (8 + g)) ∧ kI x 102 (eA e 0 g) = nI (zGg e t g) ∧ kI x 103 (eA e 0 g) = nI (zW e g) ∧ kJ x 104 (eA e 0 g) = tB t 10 g ∧ kJ x 105 (eA e 0 g) = tB t 11 g
def zLf (e : kE) (t : mo_T) (x : kw_St) (k : Nat) : Prop := kR x 150 (eA e 1 k) = some (eA e 0 (eA e 8 k)) ∧ kI x 151 (eA e 1 k) = tA t 14 k ∧ kI x 152 (eA e 1 k) = tA t 15 k ∧ kR x 153 (eA e 1 k) = some (eA e 3 k) ∧ kI x 154 (eA e 1 k) = tA t 16 k ∧ kR x 155 (eA e 1 k) = (if tA t 28 k = 0 then none else some (eA e 3 (12 + k))) ∧ kI x 156 (eA e 1 k) = tA t 29 k ∧ kR x 157 (eA e 1 k) = (eQ e k).head?.map (eA e 2) ∧ kR x 158 (eA e 1 k) = (eQ e k).getLast?.map (eA e 2) ∧ kI x 159 (eA e 1 k) = tA t 19 k ∧ kI x 160 (eA e 1 k) = tA t 20 k ∧ kI x 161 (eA e 1 k) = tA t 21 k ∧ kI x 162 (eA e 1 k) = tA t 22 k ∧ kI x 163 (eA e 1 k) = tA t 23 k ∧ kI x 164 (eA e 1 k) = tA t 24 k ∧ kI x 165 (eA e 1 k) = tA t 25 k ∧ kI x 166 (eA e 1 k) = tA t 26 k ∧ kJ x 167 (eA e 1 k) = tB t 27 k
def zPk (e : kE) (t : mo_T) (x : kw_St) (p : Nat) : Prop := kI x 200 (eA e 2 p) = nI p ∧ kI x 201 (eA e 2 p) = tA t 33 p ∧ kI x 202 (eA e 2 p) = tA t 34 p ∧ kI x 203 (eA e 2 p) = tA t 35 p ∧ kI x 204 (eA e 2 p) = tA t 41 p ∧ kI x 205 (eA e 2 p) = tA t 36 p ∧ kI x 206 (eA e 2 p) = tA t 37 p ∧ kI x 207 (eA e 2 p) = tA t 38 p
def zBu (e : kE) (t : mo_T) (x : kw_St) (b : Nat) : Prop := kI x 50 (eA e 3 b) = tA t 30 b ∧ kJ x 51 (eA e 3 b) = 1000 * (tA t 31 b).toInt64 ∧ kJ x 52 (eA e 3 b) = tB t 32 b
def zSh (o : Nat) (e : kE) (t : mo_T) (x : kw_St) : Prop := kI x 254 o = tF t 1 ∧ kI x 255 o = nI (eA e 9 0) ∧ kI x 256 o = tF t 6 ∧ kI x 257 o = nI (zG e t) ∧ kJ x 258 o = tL t
/-- the cells that are no lists -/
def zC (o : Nat) (e : kE) (t : mo_T) (x : kw_St) : Prop := (∀ g, g < eA e 6 0 → zGr e t x g) ∧ (∀ k, k < eA e 6 1 → zLf e t x k) ∧ (∀ p, p < eA e 6 2 → zPk e t x p) ∧ (∀ b, zB e t b → zBu e t x b) ∧ (∀ k, k < eA e 6 1 → chX e x (eQ e k)) ∧ zSh o e t x
def zX (G : kw_G) (nu : Nat → Option Nat) (o : Nat) (e : kE) (t : mo_T) (x : kw_St) : Prop := zLs G nu o e x ∧ zC o e t x
/-- the class's cells hold t; what belongs to others is as it was in z -/
def zw (G : kw_G) (nu : Nat → Option Nat) (z : kw_St) (o : Nat) (e : kE) (t : mo_T) (x : kw_St) : Prop := tI e t ∧ zK G nu o e t ∧ zX G nu o e t x ∧ ∀ b r, nu b = some r → 6 ≤ r → r ≤ 9 → kw_ag b z x
