/-! rows of ints, longs and booleans are made; the reference's start -/
section NA
variable {p : Program} {l : Launch} {e : Env} {R : Room} {s : State} {m : MethodId} {args : Array Value} {below : List Frame} {meth : Method} {c : Code} {H : Heap} {locs : List Loc} {cells slots : Nat} {Q : State → Prop}
variable {cc : ByteArray} {pc nL : Nat} {ls : Array Slot} {rest : List Value} {G : kw_G} {A : Nat → Prop} {nu : Nat → Option Nat} {x : kw_St} {Ts : List Cond} {own : String}
theorem kw_narr (S : CallFix p m c cc nL s args Ts own) (hK : kw_K G s) (hW : kw_W G A nu x H) (hS : va_S A s.heap H locs) (hA : ∀ r, s.heap.size ≤ r → A r) {atype : ArrayType} (q : Nat) (harr : Cond.arrayClass (newarray.typeOf atype) ∈ Ts) {n : Int32} {k : Nat} (hn : n = nI k) (hk : k ≤ 1000000) (hq : (q = 7 ∧ atype = .int) ∨ (q = 8 ∧ atype = .long) ∨ (q = 9 ∧ atype = .boolean)) (hcells : cells + 1 ≤ R.cells) (hslots : slots + k ≤ R.slots) (hdg : decode cc pc = .ok (.newarray atype, 2))
    (kk : ∀ (b : Nat) (H1 : Heap), nu b = none → kw_W G A (va_up nu b (some q)) (sNew x b k) H1 → va_S A s.heap H1 locs → W p l e R s m args below meth c H1 locs (cells + 1) (slots + k) Q (F0 m (pc + 2) ls (.ref b :: rest))) : W p l e R s m args below meth c H locs cells slots Q (F0 m pc ls (.int n :: rest)) := by
  subst hn
  have hc : (nI k).toNatClampNeg = k := nI_clamp (by omega)
  refine va_newaK S.1 S.2.1 (S.2.2.2.2 _ harr) rfl hdg rfl (nI_pos (by omega)) hc (by rcases hq with ⟨-, h⟩ | ⟨-, h⟩ | ⟨-, h⟩ <;> subst h <;> simp [newarray.typeOf, componentBytes] <;> omega) hcells hslots rfl fun H1 cA e1 z1 o1 hAr hNm => ?_
  have hfr : nu H.size = none := by
    cases h : nu H.size with
    | none => rfl
    | some r => exact absurd (hW _ r h).1.lt (Nat.lt_irrefl _)
  refine kk H.size H1 hfr (fun b r hb => ?_) ⟨Nat.le_trans hS.1 (by omega), fun r h1 h2 => (o1 r (Nat.lt_of_lt_of_le h1 hS.1)).trans (hS.2.1 r h1 h2), hS.2.2⟩
  by_cases e : b = H.size
  · subst e
    rw [va_up_self] at hb
    cases hb
    refine ⟨kw_c.of (by omega) ?_, Or.inr (hA _ hS.1)⟩
    rcases hq with ⟨rfl, rfl⟩ | ⟨rfl, rfl⟩ | ⟨rfl, rfl⟩
    · have hcA : cA = G.2.1.1 := Option.some.inj (hNm.symm.trans (hK.1.2 0 _ rfl).2)
      subst hcA
      show H1[H.size]? = some (vp_cell G.2.1.1 (kN (sNew x H.size k) H.size, .inl (kA (sNew x H.size k) H.size)))
      rw [vp_cell_i, kN_sNew, kA_sNew, if_pos rfl, if_pos rfl]
      exact e1
    · have hcA : cA = G.2.1.2.1 := Option.some.inj (hNm.symm.trans (hK.1.2 1 _ rfl).2)
      subst hcA
      show H1[H.size]? = some (vp_cell G.2.1.2.1 (kN (sNew x H.size k) H.size, .inr (.inl (kB (sNew x H.size k) H.size))))
      rw [vp_cell_l, kN_sNew, kB_sNew, if_pos rfl, if_pos rfl]
      exact e1
    · have hcA : cA = G.2.1.2.2.1 := Option.some.inj (hNm.symm.trans (hK.1.2 2 _ rfl).2)
      subst hcA
      show H1[H.size]? = some (vp_cell G.2.1.2.2.1 (kN (sNew x H.size k) H.size, .inl (kA (sNew x H.size k) H.size)))
      rw [vp_cell_i, kN_sNew, kA_sNew, if_pos rfl, if_pos rfl]
      exact e1
  · rw [va_up_ne _ _ e] at hb
    exact ⟨((hW b r hb).1.kept (o1 b (hW b r hb).1.lt)).to (fun r => kw_ne_sNew r e), (hW b r hb).2⟩
end NA
/-- the reference's rows up to the n-th field have been made; D names them -/
def zM (nu0 : Nat → Option Nat) (x0 : kw_St) (mo n : Nat) (D : Nat → Nat) (nu : Nat → Option Nat) (x : kw_St) : Prop := nu mo = some 6 ∧ nuX nu0 nu ∧ (∀ j, 9 ≤ j → j < n → j ≠ 12 → kR x (300 + j) mo = some (D j) ∧ nu (D j) = some (mk j) ∧ kN x (D j) = ml j ∧ kA x (D j) = (fun _ => 0) ∧ kB x (D j) = (fun _ => 0) ∧ D j ≠ mo) ∧ (∀ i, 9 ≤ i → i < n → i ≠ 12 → ∀ j, 9 ≤ j → j < n → j ≠ 12 → D i = D j → i = j) ∧ (∀ j, kI x (300 + j) mo = if j = 8 then -1 else 0) ∧ kJ x 312 mo = 0 ∧ ∀ c, c ≠ mo → (∀ j, 9 ≤ j → j < n → j ≠ 12 → c ≠ D j) → kw_ag c x0 x
theorem zM_step {nu0 nu : Nat → Option Nat} {x0 x : kw_St} {mo n b m : Nat} {D : Nat → Nat} (h : zM nu0 x0 mo n D nu x) (hb : nu b = none) (hn : (n ≠ 12 ∧ m = n + 1 ∧ 9 ≤ n) ∨ (n = 12 ∧ m = 14)) : zM nu0 x0 mo m (fun j => if j = m - 1 then b else D j) (va_up nu b (some (mk (m - 1)))) (sR (sNew x b (ml (m - 1))) (300 + (m - 1)) mo (some b)) := by
  obtain ⟨a1, a2, a3, a4, a5, a6, a7⟩ := h
  have hX : nuX nu (va_up nu b (some (mk (m - 1)))) := nuX.up hb
  have hmb : mo ≠ b := kw_nb hb a1
  have hbm : ¬ b = mo := fun q => hmb q.symm
  have hlt : ∀ j, 9 ≤ j → j < m → j ≠ 12 → j ≠ m - 1 → j < n := by intro j h1 h2 h3 h4; omega
  refine ⟨hX _ _ a1, a2.tr hX, fun j h1 h2 h3 => ?_, fun i i1 i2 i3 j j1 j2 j3 heq => ?_, fun j => ?_, ?_, fun c c1 c2 => ?_⟩
  · by_cases e1 : j = m - 1
    · subst e1
      simp only [if_true]
      refine ⟨by rw [kR_self], va_up_self _ _ _, ?_, ?_, ?_, hbm⟩
      · rw [kN_sR, kN_sNew, if_pos rfl]
      · rw [kA_sR, kA_sNew, if_pos rfl]
      · rw [kB_sR, kB_sNew, if_pos rfl]
    · obtain ⟨b1, b2, b3, b4, b5, b6⟩ := a3 j h1 (hlt j h1 h2 h3 e1) h3
      simp only [if_neg e1]
      have hdb : D j ≠ b := kw_nb hb b2
      refine ⟨?_, hX _ _ b2, ?_, ?_, ?_, b6⟩
      · have hne : ¬ (300 + j = 300 + (m - 1)) := by omega
        rw [kR_sR, if_neg (fun q => hne q.1), kR_sNew, if_neg hmb]; exact b1
      · rw [kN_sR, kN_sNew, if_neg hdb]; exact b3
      · rw [kA_sR, kA_sNew, if_neg hdb]; exact b4
      · rw [kB_sR, kB_sNew, if_neg hdb]; exact b5
  · by_cases e1 : i = m - 1
    · by_cases e2 : j = m - 1
      · omega
      · simp only [if_pos e1, if_neg e2] at heq
        exact absurd heq.symm (kw_nb hb (a3 j j1 (hlt j j1 j2 j3 e2) j3).2.1)
    · by_cases e2 : j = m - 1
      · simp only [if_neg e1, if_pos e2] at heq
        exact absurd heq (kw_nb hb (a3 i i1 (hlt i i1 i2 i3 e1) i3).2.1)
      · simp only [if_neg e1, if_neg e2] at heq
        exact a4 i i1 (hlt i i1 i2 i3 e1) i3 j j1 (hlt j j1 j2 j3 e2) j3 heq
  · rw [kI_sR, kI_sNew, if_neg hmb]; exact a5 j
  · rw [kJ_sR, kJ_sNew, if_neg hmb]; exact a6
  · have cb : c ≠ b := by
      have := c2 (m - 1) (by omega) (by omega) (by omega)
      simpa using this
    refine (a7 c c1 (fun j h1 h2 h3 => ?_)).tr (ag_sR (ag_sNew kw_ag.rf cb) c1)
    have h9 : j ≠ m - 1 := by omega
    have := c2 j h1 (by omega) h3
    simpa [h9] using this
/-- the reference's world at its start -/
theorem zM_mw {nu0 nu : Nat → Option Nat} {x0 x : kw_St} {mo : Nat} {D : Nat → Nat} (h : zM nu0 x0 mo 42 D nu x) : ∃ ma t, mw nu x0 mo ma t x ∧ z_zero t := by
  obtain ⟨a1, a2, a3, a4, a5, a6, a7⟩ := h
  refine ⟨D, mV x mo D, ⟨⟨a1, fun j h1 h2 h3 => ?_, fun i j hi hj h => a4 i hi.1 hi.2.1 hi.2.2 j hj.1 hj.2.1 hj.2.2 h, fun j hj => (a3 j hj.1 hj.2.1 hj.2.2).2.2.2.2.2⟩, rfl, fun c c1 c2 => a7 c c1 (fun j h1 h2 h3 => c2 j ⟨h1, h2, h3⟩)⟩, fun j => a5 j, a6, fun j k h1 h2 h3 => ?_⟩
  · obtain ⟨b1, b2, b3, -⟩ := a3 j h1 h2 h3
    exact ⟨b1, b2, b3⟩
  · obtain ⟨-, -, -, b4, b5, -⟩ := a3 j h1 h2 h3
    have hR : mR j := ⟨h1, h2, h3⟩
    constructor
    · show (if mR j then kA x (D j) else fun _ => 0) k = 0
      rw [if_pos hR, b4]
    · show (if mR j then kB x (D j) else fun _ => 0) k = 0
      rw [if_pos hR, b5]
theorem zM_0 {nu : Nat → Option Nat} {x : kw_St} {mo : Nat} (hm : nu mo = some 6) (hI : ∀ i, kI x i mo = 0) (hJ : kJ x 312 mo = 0) : zM nu x mo 9 (fun _ => 0) nu (sI x 308 mo (-1)) := by
  refine ⟨hm, nuX.rf, fun j h1 h2 => absurd h1 (by omega), fun i h1 h2 => absurd h1 (by omega), fun j => ?_, hJ, fun c c1 _ => ag_sI kw_ag.rf c1⟩
  rw [kI_sI]
  by_cases e1 : j = 8
  · subst e1; simp
  · have : ¬ 300 + j = 308 := by omega
    simp [e1, this, hI]
