/-! a list is added to -/
theorem kw_M.post' {l : Launch} {G : kw_G} {y : MethodName} {ws : List Cond} {rm : Room} {mc ms : Nat} {av : List Value} {nu : Nat → Option Nat} {x : kw_St} {post post2 : Option Value → (Nat → Option Nat) → kw_St → Prop} (h : kw_M l G y ws rm mc ms av nu x post) (hp : ∀ v nu' y, post v nu' y → post2 v nu' y) : kw_M l G y ws rm mc ms av nu x post2 := by
  intro sz p e h1 h2 h3 s m args below h4 h5 h6 h7
  obtain ⟨n, o, a, b, c, ⟨⟨v, nu', y, e1, e2, e3⟩, hF⟩, L⟩ := h sz p e h1 h2 h3 s m args below h4 h5 h6 h7
  exact ⟨n, o, a, b, c, ⟨⟨v, nu', y, e1, hp _ _ _ e2, e3⟩, hF⟩, L⟩
/-- cells and slots that the next addition makes -/
def zc (c n : Nat) : Nat := if c = n then 1 else 0
def zs (c n : Nat) : Nat := if c = n then kw_nc n else 0
def zcap (c n : Nat) : Nat := if c = n then kw_nc n else c
def zRow (G : kw_G) (nu : Nat → Option Nat) (D n c : Nat) : Prop := (D = G.2.2.1 ∧ n = 0) ∨ (nu D = some 10 ∧ n ≤ c ∧ 10 ≤ c ∧ c ≤ 768)
/-- el has been added behind n elements of the list L, whose row was D and is D1 -/
def zAdd (nu : Nat → Option Nat) (x : kw_St) (L D n el : Nat) (nu' : Nat → Option Nat) (y : kw_St) (D1 : Nat) : Prop := (∀ b, b ≠ L → b ≠ D1 → kw_ag b x y) ∧ ((nu' = nu ∧ D1 = D) ∨ (nu D1 = none ∧ nu' = va_up nu D1 (some 10))) ∧ nu' D1 = some 10 ∧ kR y 1 L = some D1 ∧ kI y 2 L = nI (n + 1) ∧ (∀ k, k < n → kC y D1 k = kC x D k) ∧ kC y D1 n = some el ∧ n + 1 ≤ kN y D1 ∧ 10 ≤ kN y D1 ∧ kN y D1 ≤ 768 ∧ kN y D1 = zcap (kN x D) n
def nuX (nu nu' : Nat → Option Nat) : Prop := ∀ b r, nu b = some r → nu' b = some r
theorem nuX.rf {nu : Nat → Option Nat} : nuX nu nu := fun _ _ h => h
theorem nuX.tr {nu nu' nu2 : Nat → Option Nat} (h : nuX nu nu') (h2 : nuX nu' nu2) : nuX nu nu2 := fun b r h9 => h2 b r (h b r h9)
theorem nuX.up {nu : Nat → Option Nat} {q k : Nat} (h : nu q = none) : nuX nu (va_up nu q (some k)) := fun _ _ h9 => kw_old h h9
theorem zAdd.nu {nu nu' : Nat → Option Nat} {x y : kw_St} {L D n el D1 : Nat} (h : zAdd nu x L D n el nu' y D1) : nuX nu nu' := by
  rcases h.2.1 with ⟨e1, -⟩ | ⟨e0, e1⟩
  · rw [e1]; exact nuX.rf
  · rw [e1]; exact nuX.up e0
theorem c_z_add (l : Launch) (G : kw_G) (nu : Nat → Option Nat) (x : kw_St) (L D n el r : Nat) (hL : nu L = some 0) (hel : nu el = some r) (hr : r = 2 ∨ r = 3 ∨ r = 4) (h11 : nu G.2.2.1 = some 11) (h0 : kN x G.2.2.1 = 0) (hD : kR x 1 L = some D) (hn : kI x 2 L = nI n) (c : Nat) (hcap : kN x D = c) (hrow : zRow G nu D n c) (hn5 : n < 512) (hel2 : ∀ i y, i < n → kC x D i = some y → ∃ r, nu y = some r ∧ (r = 2 ∨ r = 3 ∨ r = 4)) : kw_M l G yJx4a65c_add_9ea2d wsJx4a65c_add_9ea2d { frames := 6, cells := zc c n, slots := zs c n, locals := 150 } (zc c n) (zs c n) [.ref L, .ref el] nu x (fun v nu' y => v = some (.int 1) ∧ ∃ D1, zAdd nu x L D n el nu' y D1) := by
  subst hcap
  rcases hrow with ⟨e1, e2⟩ | ⟨g1, g2, g3, g4⟩
  · subst e1 e2
    have ec : zc (kN x G.2.2.1) 0 = 1 := by simp [zc, h0]
    have es : zs (kN x G.2.2.1) 0 = 10 := by simp [zs, h0, kw_nc]
    rw [ec, es]
    refine kw_M.post' (c_Jx4a65c_add_9ea2d_e l G nu x L el r hL hel hr hD h11 h0 hn) ?_
    rintro v nu' y ⟨q, q1, q2, q3, q4⟩
    have qL : L ≠ q := kw_nb q1 hL
    refine ⟨q2, q, ?_, Or.inr ⟨q1, q3⟩, by rw [q3]; exact va_up_self _ _ _, ?_, ?_, fun k hk => absurd hk (Nat.not_lt_zero k), ?_, ?_, ?_, ?_, ?_⟩
    · intro b b1 b2
      rw [q4]
      exact ag_sI (ag_sC (ag_sR (ag_sNew (ag_sI ⟨fun _ => rfl, fun _ => rfl, fun _ => rfl, rfl, rfl, rfl, rfl⟩ b1) b2) b1) b2) b1
    · rw [q4]; simp [kR_sI, kR_sC, kR_sR]
    · rw [q4]; simp [kI_sI]; rfl
    · rw [q4]; simp [kC_sI, kC_sC, va_up]
    · rw [q4]; simp [kN_sI, kN_sC, kN_sR, kN_sNew]
    · rw [q4]; simp [kN_sI, kN_sC, kN_sR, kN_sNew]
    · rw [q4]; simp [kN_sI, kN_sC, kN_sR, kN_sNew]
    · rw [q4]; simp [kN_sI, kN_sC, kN_sR, kN_sNew, h0, kw_nc, zcap]
  · have hLD : L ≠ D := nu_ne hL g1 (by decide)
    by_cases hf : kN x D = n
    · have ec : zc (kN x D) n = 1 := by simp [zc, hf]
      have es : zs (kN x D) n = kN x D + kN x D / 2 := by
        rw [zs, if_pos hf, kw_nc, if_neg (by omega), hf]
      rw [ec, es]
      refine kw_M.post' (c_Jx4a65c_add_9ea2d_g l G nu x L el r D hL hel g1 hr hD (by omega) (by omega) (fun i y hi hy => hel2 i y (by omega) hy) (by rw [hn, hf])) ?_
      rintro v nu' y ⟨q, q1, q2, q3, q4⟩
      have qL : L ≠ q := kw_nb q1 hL
      have qD : D ≠ q := kw_nb q1 g1
      have eN : kN y q = kN x D + kN x D / 2 := by rw [q4]; simp [kN_sI, kN_sC, kN_sR, kN_sNew, kN_sCrow]
      refine ⟨q2, q, ?_, Or.inr ⟨q1, q3⟩, by rw [q3]; exact va_up_self _ _ _, ?_, ?_, fun k hk => ?_, ?_, ?_, ?_, ?_, ?_⟩
      · intro b b1 b2
        rw [q4]
        exact ag_sI (ag_sC (ag_sR (ag_sCrow (ag_sNew (ag_sI ⟨fun _ => rfl, fun _ => rfl, fun _ => rfl, rfl, rfl, rfl, rfl⟩ b1) b2) b2) b1) b2) b1
      · rw [q4]; simp [kR_sI, kR_sC, kR_sR]
      · rw [q4, kI_self, hn, nI_1]
      · rw [q4]
        simp only [kC_sI, kC_sC, kC_sR, kC_sCrow, if_true]
        rw [va_up_ne _ _ (by omega), pk_cpy_in (by omega) (by omega)]
        simp
      · rw [q4]
        simp only [kC_sI, kC_sC, kC_sR, kC_sCrow, if_true]
        rw [hf]
        exact va_up_self _ _ _
      · rw [eN]; omega
      · rw [eN]; omega
      · rw [eN]; omega
      · rw [eN, zcap, if_pos hf, kw_nc, if_neg (by omega), hf]
    · have ec : zc (kN x D) n = 0 := by simp [zc, hf]
      have es : zs (kN x D) n = 0 := by simp [zs, hf]
      rw [ec, es]
      have hlt : n < kN x D := by omega
      refine kw_M.post' (c_Jx4a65c_add_9ea2d_n l G nu x L el r D n hL hel g1 hr hD (by rw [hn]; exact kw_ix.nI hlt (by omega)) (by rw [hn, nI_eq (by omega) (by omega)]; omega)) ?_
      rintro v nu' y ⟨q2, q3, q4⟩
      refine ⟨q2, D, ?_, Or.inl ⟨q3, rfl⟩, by rw [q3]; exact g1, ?_, ?_, fun k hk => ?_, ?_, ?_, ?_, ?_, ?_⟩
      · intro b b1 b2
        rw [q4]
        exact ag_sI (ag_sC (ag_sI ⟨fun _ => rfl, fun _ => rfl, fun _ => rfl, rfl, rfl, rfl, rfl⟩ b1) b2) b1
      · rw [q4]; exact hD
      · rw [q4, kI_self, hn, nI_1]
      · rw [q4]
        simp only [kC_sI, kC_sC, if_true]
        exact va_up_ne _ _ (by omega)
      · rw [q4]
        simp only [kC_sI, kC_sC, if_true]
        exact va_up_self _ _ _
      · rw [q4]; show n + 1 ≤ kN x D; omega
      · rw [q4]; exact g3
      · rw [q4]; exact g4
      · rw [q4, zcap, if_neg hf]; rfl
