/-! rules for the list's own code: arrays of Objects, the list's empty array, arraycopy -/
theorem kw_any {G : kw_G} {s : State} {A : Nat → Prop} {nu : Nat → Option Nat} {x : kw_St} {H : Heap} {y q : Nat} (hK : kw_K G s) (hW : kw_W G A nu x H) (hy : nu y = some q) (hq : q = 2 ∨ q = 3 ∨ q = 4) : va_Any "java/lang/Object" s H y := by
  have key : ∀ (C : String) (T : u_T) (N : Nat), q < 7 → vwCl[q]? = some (C, T, N) → va_Nw (.castable C "java/lang/Object") s → va_Any "java/lang/Object" s H y := by
    intro C T N h7 hc hn
    have h1 := (hW y q hy).1.1 (by omega)
    rw [kw_ce_ob h7] at h1
    refine va_rAny hK.1 (kw_one h1) (q0 := 0) rfl hc (fun comp c0 f1 f2 => ?_)
    obtain ⟨c1, t1, g1, g2, g3⟩ := Cond.castable_spec (va_Nw.use (A := #[]) rfl hn)
    cases f2.symm.trans g1
    cases f1.symm.trans g2
    exact g3
  rcases hq with rfl | rfl | rfl
  · exact key RX1 TX1 6 (by decide) rfl hK.2.2.2.2.1
  · exact key RX2 TX2 18 (by decide) rfl hK.2.2.2.2.2.1
  · exact key RX3 TX3 9 (by decide) rfl hK.2.2.2.2.2.2
section KWJ
variable {p : Program} {l : Launch} {e : Env} {R : Room} {s : State} {m : MethodId} {args : Array Value} {below : List Frame} {meth : Method} {c : Code} {H : Heap} {locs : List Loc} {cells slots : Nat} {Q : State → Prop}
variable {cc : ByteArray} {pc nL : Nat} {ls : Array Slot} {rest : List Value} {G : kw_G} {A : Nat → Prop} {nu : Nat → Option Nat} {x : kw_St} {a q : Nat} {H0 : Heap} {Ts : List Cond} {own : String}
theorem kw_alen (S : CallFix p m c cc nL s args Ts own) (hK : kw_K G s) (hW : kw_W G A nu x H) (ha : nu a = some q) (hq : q = 10 ∨ q = 11) (hdg : decode cc pc = .ok (.arraylength, 1))
    (kk : W p l e R s m args below meth c H locs cells slots Q (F0 m (pc + 1) ls (.int (nI (kN x a)) :: rest))) : W p l e R s m args below meth c H locs cells slots Q (F0 m pc ls (.ref a :: rest)) := by
  rcases hq with rfl | rfl
  · exact va_alen S.1 S.2.1 hK.1 (kw_one ((hW a 10 ha).1.1 (by decide))) 0 3 rfl rfl rfl hdg kk
  · obtain ⟨cell, h1, h2, h3, h4, h5⟩ := (hW a 11 ha).1.2 rfl
    obtain ⟨kA, comp, k1, k2, -, -⟩ := (hK.1.2 3 _ rfl).2
    exact W.alen (n := nI (kN x a)) S.1 S.2.1 h1 (show s.isArrayOf cell (.object "java/lang/Object") from ⟨h5, kA, by rw [h2]; exact k1, comp, k2⟩) h3 rfl rfl hdg kk
theorem kw_anew (S : CallFix p m c cc nL s args Ts own) (hK : kw_K G s) (hW : kw_W G A nu x H) (hS : va_S A s.heap H locs) (hA : ∀ r, s.heap.size ≤ r → A r) {index : Nat} (hl : Cond.classLink own index "java/lang/Object" ∈ Ts) {n : Int32} {k : Nat} (hn : n = nI k) (hk : k ≤ 1000000) (hcells : cells + 1 ≤ R.cells) (hslots : slots + k ≤ R.slots) (hdg : decode cc pc = .ok (.anewarray index, 3))
    (kk : ∀ (b : Nat) (H1 : Heap), nu b = none → kw_W G A (va_up nu b (some 10)) (sNew x b k) H1 → va_S A s.heap H1 locs → W p l e R s m args below meth c H1 locs (cells + 1) (slots + k) Q (F0 m (pc + 3) ls (.ref b :: rest))) : W p l e R s m args below meth c H locs cells slots Q (F0 m pc ls (.int n :: rest)) := by
  subst hn
  have hc : (nI k).toNatClampNeg = k := nI_clamp (by omega)
  refine W.anew S.1 S.2.1 S.2.2.2.1 (S.2.2.2.2 _ hl) (va_AO.use hK.2.1) rfl hdg rfl (nI_pos (by omega)) (by rw [hc]; omega) hcells (by rw [hc]; exact hslots) fun cA kA comp f1 f2 f3 f4 => ?_
  rw [hc]
  have hcA : cA = G.2.1.2.2.2 := by
    obtain ⟨_, _, _, _, _, g4⟩ := (hK.1.2 3 _ rfl).2
    exact Option.some.inj (f1.symm.trans g4)
  subst hcA
  generalize hH1 : H.push ({ cls := G.2.1.2.2.2, slots := Array.replicate k .null, vm := .none } : Cell) = H1
  have z1 : H1.size = H.size + 1 := by rw [← hH1, Array.size_push]
  have e1 : H1[H.size]? = some (arrV G.2.1.2.2.2 k (fun _ => .null)) := by rw [← hH1, Array.getElem?_push_size, ← arrV_new]
  have o1 : ∀ r : Nat, r < H.size → H1[r]? = H[r]? := fun r hr => by rw [← hH1, Array.getElem?_push, if_neg (Nat.ne_of_lt hr)]
  have hfr : nu H.size = none := by
    cases h : nu H.size with
    | none => rfl
    | some r => exact absurd (hW _ r h).1.lt (Nat.lt_irrefl _)
  refine kk H.size H1 hfr (fun b r hb => ?_) ⟨Nat.le_trans hS.1 (by omega), fun r h1 h2 => (o1 r (Nat.lt_of_lt_of_le h1 hS.1)).trans (hS.2.1 r h1 h2), hS.2.2⟩
  by_cases e : b = H.size
  · subst e
    rw [va_up_self] at hb
    cases hb
    refine ⟨kw_c.of (by decide) ?_, Or.inr (hA _ hS.1)⟩
    show H1[H.size]? = some (vp_cell G.2.1.2.2.2 (kN (sNew x H.size k) H.size, .inr (.inr (.inr (.inr (kC (sNew x H.size k) H.size))))))
    rw [vp_cell_q, kN_sNew, kC_sNew, if_pos rfl, if_pos rfl]
    exact e1
  · rw [va_up_ne _ _ e] at hb
    exact ⟨((hW b r hb).1.kept (o1 b (hW b r hb).1.lt)).to (fun r => kw_ne_sNew r e), (hW b r hb).2⟩
theorem kw_aast (S : CallFix p m c cc nL s args Ts own) (hK : kw_K G s) (hW : kw_W G A nu x H) (hS : va_S A H0 H locs) (ha : nu a = some 10) {v r : Nat} (hv : nu v = some r) (hr : r = 2 ∨ r = 3 ∨ r = 4) {i : Int32} {k : Nat} (hi : kw_ix i k (kN x a)) (hdg : decode cc pc = .ok (.aastore, 1))
    (kk : ∀ (H1 : Heap) (locs1 : List Loc), kw_W G A nu (sC x a k (some v)) H1 → va_S A H0 H1 locs1 → W p l e R s m args below meth c H1 locs1 cells slots Q (F0 m (pc + 1) ls rest)) : W p l e R s m args below meth c H locs cells slots Q (F0 m pc ls (.ref v :: .int i :: .ref a :: rest)) := by
  obtain ⟨h1, h2⟩ := hi
  subst h2
  have hA : A a := (hW a 10 ha).2.resolve_left (by decide)
  have hlt : i.toNatClampNeg < kN x a := Nat.not_le.mp fun q => h1 (Or.inr q)
  have h0 : ¬ i < 0 := fun q => h1 (Or.inl q)
  have hcell : H[a]? = some (vp_cell G.2.1.2.2.2 (kN x a, .inr (.inr (.inr (.inr (kC x a)))))) := (hW a 10 ha).1.1 (by decide)
  obtain ⟨cellV, g1, g3, ⟨kCl, hkC⟩, hasg⟩ := kw_any hK hW hv hr
  obtain ⟨kA, comp, k1, k2, k3, -⟩ := (hK.1.2 3 _ rfl).2
  obtain ⟨kE, hkE, -⟩ := Vm.findClass_spec k3
  refine W.aast S.1 S.2.1 hcell (fun q h => by cases h) (fun h => by cases h) k1 k2 rfl hkE ⟨h0, by show _ < (arrV _ _ _).slots.size; rw [arrV_size]; exact hlt⟩ g1 (fun q h => by rw [h] at g3; cases g3) hkC (hasg _ k3) rfl rfl hdg fun H1 e z oq => ?_
  refine kk H1 _ (hW.up ha (by decide) ?_ oq (fun b r h => kw_ne_sC r h)) (hS.put z oq hA)
  show H1[a]? = some (vp_cell G.2.1.2.2.2 (kN x a, .inr (.inr (.inr (.inr (kC (sC x a i.toNatClampNeg (some v)) a))))))
  rw [e, kC_sC, if_pos rfl, vp_cell_q, vp_cell_q, arrV_store]
  congr 2
  funext r
  by_cases hr : r = i.toNatClampNeg
  · subst hr; simp [updV, va_up, va_rf]
  · simp [updV, va_up, hr]
/-- arraycopy from the first place on, before anything that was there is written -/
theorem kw_copy (S : CallFix p m c cc nL s args Ts own) (hK : kw_K G s) (hW : kw_W G A nu x H) (hS : va_S A s.heap H []) {a0 : Nat} (ha0 : nu a0 = some 10) (ha : nu a = some 10) (hne : ¬ a0 = a) {index k : Nat} (h1 : Cond.methodLink own index arraycopyName ∈ Ts) (h2 : Cond.native arraycopyName ∈ Ts) (h3 : Cond.static arraycopyName ∈ Ts) (h4 : Cond.initialized "java/lang/System" ∈ Ts) (hz : ls.size = nL) {n : Int32} (hn : n = nI k) (hk : k < 2 ^ 31) (hk0 : k ≤ kN x a0) (hk1 : k ≤ kN x a) (hel : ∀ i y, i < k → kC x a0 i = some y → ∃ r, nu y = some r ∧ (r = 2 ∨ r = 3 ∨ r = 4)) (hf : 1 ≤ R.frames) (hlo : (rest.map fun v => v.category).sum + (nativeFrameWords "java/lang/System" "arraycopy" 5 + 11) ≤ R.locals) (hdg : decode cc pc = .ok (.invokestatic index, 3))
    (kk : ∀ (H1 : Heap) (locs1 : List Loc), kw_W G A nu (sCrow x a (va_cpy (kC x a0) (kC x a) 0 0 k)) H1 → va_S A s.heap H1 locs1 → W p l e R s m args below meth c H1 locs1 cells slots Q (F0 m (pc + 3) ls rest)) : W p l e R s m args below meth c H [] cells slots Q (F0 m pc ls (.int n :: .int 0 :: .ref a :: .int 0 :: .ref a0 :: rest)) := by
  subst hn
  have hc : (nI k).toNatClampNeg = k := nI_clamp hk
  have z0 : (0 : Int32).toNatClampNeg = 0 := by decide
  have hA : A a := (hW a 10 ha).2.resolve_left (by decide)
  let w : va_W := [(a0, kw_ce G x 10 a0), (a, kw_ce G x 10 a)]
  have hP : va_P G.1 vwCl [(a0, .inl (G.2.1.2.2.2, kN x a0, .inr (.inr (.inr (.inr (kC x a0)))))), (a, .inl (G.2.1.2.2.2, kN x a, .inr (.inr (.inr (.inr (kC x a))))))] H := by
    intro j r hj
    match j, hj with
    | 0, hj => cases hj; exact (hW a0 10 ha0).1.1 (by decide)
    | 1, hj => cases hj; exact (hW a 10 ha).1.1 (by decide)
    | j + 2, hj => simp at hj
  have hD : va_D (fun r => r = a0 ∨ r = a) [(a0, (.inl (G.2.1.2.2.2, kN x a0, .inr (.inr (.inr (.inr (kC x a0))))) : va_E)), (a, .inl (G.2.1.2.2.2, kN x a, .inr (.inr (.inr (.inr (kC x a))))))] := by
    refine ⟨fun i j r t hi hj hrt => ?_, fun j r hj => ?_⟩
    · match i, j, hi, hj with
      | 0, 0, _, _ => rfl
      | 0, 1, hi, hj => cases hi; cases hj; exact absurd hrt hne
      | 1, 0, hi, hj => cases hi; cases hj; exact absurd hrt.symm hne
      | 1, 1, _, _ => rfl
      | i + 2, _, hi, _ => simp at hi
      | _, j + 2, _, hj => simp at hj
    · match j, hj with
      | 0, hj => cases hj; exact Or.inl rfl
      | 1, hj => cases hj; exact Or.inr rfl
      | j + 2, hj => simp at hj
  refine va_copyM (H0 := H) S.1 S.2.1 (S.2.2.1.trans hz.symm) S.2.2.2.1 (S.2.2.2.2 _ h1) (S.2.2.2.2 _ h2) (S.2.2.2.2 _ h3) (S.2.2.2.2 _ h4) hK.1 hP hD va_S.rf 0 1 3 3 rfl rfl rfl rfl (by decide) (by decide) (nI_pos hk) (by rw [hc, z0]; omega) (by rw [hc, z0]; omega) (fun i hi y hy => ?_) hf hlo hdg (fun H1 locs1 hP1 _ hS1 => ?_)
  · rw [hc] at hi
    rw [z0, Nat.zero_add] at hy
    obtain ⟨r, h5, h6⟩ := hel i y hi hy
    exact kw_any hK hW h5 h6
  · rw [hc, z0] at hP1
    have p0 := hP1 0 _ rfl
    have p1 := hP1 1 _ rfl
    have oq : ∀ r : Nat, r < H.size → ¬ (r = a0 ∨ r = a) → H1[r]? = H[r]? := fun r hr hn => hS1.2.1 r hr hn
    have q0 : H1[a0]? = H[a0]? := by
      have e0 : H1[a0]? = some (vp_cell G.2.1.2.2.2 (kN x a0, .inr (.inr (.inr (.inr (kC x a0)))))) := p0
      have e1 : H[a0]? = some (vp_cell G.2.1.2.2.2 (kN x a0, .inr (.inr (.inr (.inr (kC x a0)))))) := (hW a0 10 ha0).1.1 (by decide)
      rw [e0, e1]
    have oq2 : ∀ r : Nat, r < H.size → r ≠ a → H1[r]? = H[r]? := fun r hr hn => by
      by_cases e : r = a0
      · rw [e]; exact q0
      · exact oq r hr (fun h => h.elim e hn)
    refine kk H1 locs1 (fun b r hb => ?_) ⟨Nat.le_trans hS.1 hS1.1, fun r g1 g2 => ?_, fun r hr => ?_⟩
    · by_cases e : b = a
      · subst e
        rw [ha] at hb
        cases hb
        refine ⟨kw_c.of (by decide) ?_, Or.inr hA⟩
        show H1[b]? = some (vp_cell G.2.1.2.2.2 (kN x b, .inr (.inr (.inr (.inr (kC (sCrow x b (va_cpy (kC x a0) (kC x b) 0 0 k)) b))))))
        rw [kC_sCrow, if_pos rfl]
        exact p1
      · exact ⟨((hW b r hb).1.kept (oq2 b (hW b r hb).1.lt e)).to (fun r => kw_ne_sCrow r e), (hW b r hb).2⟩
    · rw [oq2 r (Nat.lt_of_lt_of_le g1 hS.1) (fun e => g2 (e ▸ hA))]
      exact hS.2.1 r g1 g2
    · rcases hS1.2.2 r hr with e | e
      · rw [e]; exact (hW a0 10 ha0).2.resolve_left (by decide)
      · rw [e]; exact hA
theorem kw_getC (S : CallFix p m c cc nL s args Ts own) (hK : kw_K G s) (hW : kw_W G A nu x H) (hz : ls.size = nL) (ha : nu a = some 10) {index : Nat} (h1 : Cond.methodLink own index ⟨"java/lang/Object", "getClass", "()Ljava/lang/Class;"⟩ ∈ Ts) (h2 : Cond.selects "[Ljava/lang/Object;" ⟨"java/lang/Object", "getClass", "()Ljava/lang/Class;"⟩ ⟨"java/lang/Object", "getClass", "()Ljava/lang/Class;"⟩ ∈ Ts) (h3 : Cond.instanceMethod ⟨"java/lang/Object", "getClass", "()Ljava/lang/Class;"⟩ ∈ Ts) (h4 : Cond.native ⟨"java/lang/Object", "getClass", "()Ljava/lang/Class;"⟩ ∈ Ts) (hf : 1 ≤ R.frames) (hlo : (rest.map fun v => v.category).sum + 14 ≤ R.locals) (hdg : decode cc pc = .ok (.invokevirtual index, 3))
    (kk : W p l e R s m args below meth c H locs cells slots Q (F0 m (pc + 3) ls (.ref G.2.2.2 :: rest))) : W p l e R s m args below meth c H locs cells slots Q (F0 m pc ls (.ref a :: rest)) := by
  have hcell : H[a]? = some (vp_cell G.2.1.2.2.2 (kN x a, .inr (.inr (.inr (.inr (kC x a)))))) := (hW a 10 ha).1.1 (by decide)
  exact va_getC S.1 S.2.1 (S.2.2.1.trans hz.symm) S.2.2.2.1 (S.2.2.2.2 _ h1) (va_Dc.use hK.2.2.2.1) (S.2.2.2.2 _ h2) (S.2.2.2.2 _ h3) (S.2.2.2.2 _ h4) hK.2.2.1 ⟨_, hcell, rfl, va_nmO (hK.1.2 3 _ rfl).2 (by decide +kernel)⟩ hf hlo hdg kk
/-- a field under the name by which javac spells an inherited one -/
theorem kx_gIr (S : CallFix p m c cc nL s args Ts own) (hK : kw_K G s) (hW : kw_W G A nu x H) (ha : nu a = some q) (j id : Nat) {C : String} {T : u_T} {N index : Nat} (hc : vwCl[q]? = some (C, T, N)) (hin : ∀ w ∈ u_ws C T N, w ∈ Ts) (hq : q < 7) (hj : (kw_fl q)[j]? = some 0) (hid : 50 * q + j = id) (hjN : j < N) {ref : String} (hsm : Cond.sameField ref (T j).1 (T j).2.1 (T j).2.2.1 ∈ Ts) (hl : Cond.fieldLink own index ref (T j).2.1 (T j).2.2.1 ∈ Ts) (hdg : decode cc pc = .ok (.getfield index, 3)) {v : Int32} (hv : kI x id a = v)
    (kk : W p l e R s m args below meth c H locs cells slots Q (F0 m (pc + 3) ls (.int v :: rest))) : W p l e R s m args below meth c H locs cells slots Q (F0 m pc ls (.ref a :: rest)) := by
  subst hv
  exact kw_get S hK.1 hW ha j id 0 hc hin hq hj hid hjN hl (u_same (S.2.2.2.2 _ hsm)) hdg kk
theorem kx_pIr (S : CallFix p m c cc nL s args Ts own) (hK : kw_K G s) (hW : kw_W G A nu x H) (hS0 : va_S A H0 H locs) (ha : nu a = some q) (j id : Nat) {v : Int32} {C : String} {T : u_T} {N index : Nat} (hc : vwCl[q]? = some (C, T, N)) (hin : ∀ w ∈ u_ws C T N, w ∈ Ts) {ty0 : Nat → FieldType} (hty : ∀ k, k < N → parseFieldDescriptor (T k).2.2.1 = some (ty0 k)) (hnm : ∀ a, a < N → ∀ b, b < N → a ≠ b → (T a).2.1 ≠ (T b).2.1) (hq : q < 7) (hj : (kw_fl q)[j]? = some 0) (hid : 50 * q + j = id) (hjN : j < N) {ref : String} (hsm : Cond.sameField ref (T j).1 (T j).2.1 (T j).2.2.1 ∈ Ts) (hl : Cond.fieldLink own index ref (T j).2.1 (T j).2.2.1 ∈ Ts) (hfin : (T j).2.2.2 = false) (hd : parseFieldDescriptor (T j).2.2.1 = some .int) (hdg : decode cc pc = .ok (.putfield index, 3))
    (kk : ∀ (H1 : Heap) (locs1 : List Loc), kw_W G A nu (sI x id a v) H1 → va_S A H0 H1 locs1 → W p l e R s m args below meth c H1 locs1 cells slots Q (F0 m (pc + 3) ls rest)) : W p l e R s m args below meth c H locs cells slots Q (F0 m pc ls (.int v :: .ref a :: rest)) :=
  kw_put (x := x) (y := sI x id a v) S hK.1 hW hS0 ha j id 0 hc hin ty0 hty hnm hq hj hid hjN hl (u_same (S.2.2.2.2 _ hsm)) (Or.inl hfin) hd rfl rfl hdg (fun i h => by simp [kI_sI, h]) (fun _ _ => rfl) (fun _ _ => rfl) (by simp [kw_fv, kI_sI]) (fun b r h => kw_ne_sI r h) kk
/-- a call that makes one cell more: where it lies, the answer, what the tables hold -/
theorem kx_dV {post : Nat → Option Value × kw_St} {kq mc ms : Nat} (S : CallFix p m c cc nL s args Ts own) (hK : kw_K G s) (hZ : kw_Z G A s s.heap) (hA : ∀ r, s.heap.size ≤ r → A r) (hW : kw_W G A nu x H) (hS : va_S A s.heap H locs) {st1 : Nat → List Value} {b : Nat} {As st0 : List Value} {y : MethodName} {ws : List Cond} {rm : Room} {bytes : ByteArray} {maxL n index : Nat} {ret : Option FieldType} {C : String} {T : u_T} {N : Nat} (hM : kw_M l G y ws rm mc ms (.ref b :: As) nu x (fun v nu' y => ∃ d, nu d = none ∧ v = (post d).1 ∧ nu' = va_up nu d (some kq) ∧ y = (post d).2)) (cw : CallW R s args own C index y bytes maxL ret ws rm mc ms n) (hb : nu b = some q) (hq : q < 7) (hc : vwCl[q]? = some (C, T, N)) (hn : As.length = n) (hsize : ls.size = nL) (hst : st0 = As.reverse ++ .ref b :: rest) (hr : (rest.map fun v => v.category).sum ≤ 8) (hdg : decode cc pc = .ok (.invokevirtual index, 3)) (hf : cells + mc ≤ R.cells ∧ slots + ms ≤ R.slots) (hst1 : ∀ d, (post d).1.toList ++ rest = st1 d)
    (kk : ∀ (d : Nat) (H1 : Heap) (locs1 : List Loc), nu d = none → kw_W G A (va_up nu d (some kq)) (post d).2 H1 → va_S A s.heap H1 locs1 → W p l e R s m args below meth c H1 locs1 (cells + mc) (slots + ms) Q (F0 m (pc + 3) ls (st1 d))) : W p l e R s m args below meth c H locs cells slots Q (F0 m pc ls st0) :=
  kw_callV S hK hZ hA hW hS hM cw hb hq hc hn hsize hst hr hdg hf (fun v nu' y H1 locs1 hp hW hS => by obtain ⟨d, e0, e1, e2, e3⟩ := hp; subst e1; rw [e2, e3] at hW; rw [hst1]; exact kk d H1 locs1 e0 hW hS)
theorem kx_dS {post : Nat → Option Value × kw_St} {kq mc ms : Nat} (S : CallFix p m c cc nL s args Ts own) (hK : kw_K G s) (hZ : kw_Z G A s s.heap) (hA : ∀ r, s.heap.size ≤ r → A r) (hW : kw_W G A nu x H) (hS : va_S A s.heap H locs) {st1 : Nat → List Value} {As st0 : List Value} {y : MethodName} {ws : List Cond} {rm : Room} {bytes : ByteArray} {maxL n index : Nat} {ret : Option FieldType} (hM : kw_M l G y ws rm mc ms As nu x (fun v nu' y => ∃ d, nu d = none ∧ v = (post d).1 ∧ nu' = va_up nu d (some kq) ∧ y = (post d).2)) (cw : CallB R s args own index y bytes maxL ret ws rm mc ms n ∧ (Cond.static y).before args s = true) (hn : As.length = n) (hsize : ls.size = nL) (hst : st0 = As.reverse ++ rest) (hr : (rest.map fun v => v.category).sum ≤ 8) (hdg : decode cc pc = .ok (.invokestatic index, 3)) (hf : cells + mc ≤ R.cells ∧ slots + ms ≤ R.slots) (hst1 : ∀ d, (post d).1.toList ++ rest = st1 d)
    (kk : ∀ (d : Nat) (H1 : Heap) (locs1 : List Loc), nu d = none → kw_W G A (va_up nu d (some kq)) (post d).2 H1 → va_S A s.heap H1 locs1 → W p l e R s m args below meth c H1 locs1 (cells + mc) (slots + ms) Q (F0 m (pc + 3) ls (st1 d))) : W p l e R s m args below meth c H locs cells slots Q (F0 m pc ls st0) :=
  kw_callS S hK hZ hA hW hS hM cw hn hsize hst hr hdg hf (fun v nu' y H1 locs1 hp hW hS => by obtain ⟨d, e0, e1, e2, e3⟩ := hp; subst e1; rw [e2, e3] at hW; rw [hst1]; exact kk d H1 locs1 e0 hW hS)
end KWJ
