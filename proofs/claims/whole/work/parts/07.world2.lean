/-! arrays, fresh cells, a method's entry and end, calls -/
/-- an int is the number k of a place below n -/
def kw_ix (i : Int32) (k n : Nat) : Prop := vp_in i n ∧ i.toNatClampNeg = k
theorem kw_ix.nI {k n : Nat} (h : k < n) (hn : n < 2 ^ 31) : kw_ix (nI k) k n := ⟨vp_in_nI h hn, nI_clamp (by omega)⟩
theorem kw_ix.lt {i : Int32} {k n : Nat} (h : kw_ix i k n) : k < n := h.2 ▸ (Nat.not_le.mp fun q => h.1 (Or.inr q))
/-- what a launch knows of classes, and what the class's own code never changes -/
def kw_K (G : kw_G) (U : State) : Prop := va_K G.1 vwCl (kw_ty G) U ∧ va_AO "java/lang/Object" U ∧ va_Mi "[Ljava/lang/Object;" G.2.2.2 U ∧ va_Dc U ∧ va_Nw (.castable RX1 "java/lang/Object") U ∧ va_Nw (.castable RX2 "java/lang/Object") U ∧ va_Nw (.castable RX3 "java/lang/Object") U
theorem kw_K.warm {G : kw_G} {u U : State} (hW : u.WarmedH U.vm) (h : kw_K G u) : kw_K G U := ⟨va_K.moved hW.alike h.1, va_AO.moved hW.alike h.2.1, va_Mi.moved hW.alike h.2.2.1, va_Dc.moved hW.alike h.2.2.2.1, va_Nw.warmC hW h.2.2.2.2.1, va_Nw.warmC hW h.2.2.2.2.2.1, va_Nw.warmC hW h.2.2.2.2.2.2⟩
theorem kw_K.call {G : kw_G} {U : State} {g : JFrame} {mk : MethodId} {a : Array Value} (h : kw_K G U) : kw_K G (U.calling g mk a) := by
  have e : U.vm.Alike (U.calling g mk a).vm := Vm.Alike.refl U.vm
  exact ⟨va_K.moved e h.1, va_AO.moved e h.2.1, va_Mi.moved e h.2.2.1, va_Dc.moved e h.2.2.2.1, va_Nw.same rfl rfl h.2.2.2.2.1, va_Nw.same rfl rfl h.2.2.2.2.2.1, va_Nw.same rfl rfl h.2.2.2.2.2.2⟩
abbrev kw_Z (G : kw_G) (A : Nat → Prop) (U : State) (H : Heap) : Prop := va_Z "java/util/ArrayList" "DEFAULTCAPACITY_EMPTY_ELEMENTDATA" "[Ljava/lang/Object;" (.ref G.2.2.1) A U H
/-- which cells a method may write: those of the world, and fresh ones -/
def kw_Rg (nu : Nat → Option Nat) (sz : Nat) : Nat → Prop := fun r => (∃ q, nu r = some q ∧ q ≠ 11) ∨ sz ≤ r
def kw_Pc (G : kw_G) (nu : Nat → Option Nat) (x : kw_St) (sz : Nat) (av : List Value) : Array Value → State → Prop := va_Pc av (fun U => U.heap.size = sz ∧ kw_W G (fun _ => True) nu x U.heap ∧ kw_K G U ∧ kw_Z G (kw_Rg nu sz) U U.heap)
def kw_Qc (G : kw_G) (A : Nat → Prop) (post : Option Value → (Nat → Option Nat) → kw_St → Prop) : Array Value → State → Outcome → State → Prop := fun _ st oc t => (∃ v nu' y, oc = .returned v ∧ post v nu' y ∧ kw_W G A nu' y t.heap) ∧ va_F A st t
/-- THE CONTRACT of a method: with these arguments in this world it returns, and 'post' holds of its answer and of the world behind it -/
def kw_M (l : Launch) (G : kw_G) (y : MethodName) (ws : List Cond) (rm : Room) (mc ms : Nat) (av : List Value) (nu : Nat → Option Nat) (x : kw_St) (post : Option Value → (Nat → Option Nat) → kw_St → Prop) : Prop := ∀ sz : Nat, Met l y ws rm (kw_Pc G nu x sz av) (kw_Qc G (kw_Rg nu sz) post) mc ms (kw_Rg nu sz)
theorem kw_M.ofW {l : Launch} {G : kw_G} {y : MethodName} {ws ws' : List Cond} {rm : Room} {mc ms : Nat} {av : List Value} {nu : Nat → Option Nat} {x : kw_St} {post : Option Value → (Nat → Option Nat) → kw_St → Prop} {cc : ByteArray} {maxL : Nat} {ret : Option FieldType} (hy : plainName y.cls = true) (hw : ws = Cond.code y cc maxL ret :: ws') (hav : (lg_sl av).length ≤ maxL)
    (body : ∀ (p : Program) (e : Env) (s : State) (m : MethodId) (args : Array Value) (below : List Frame) (meth : Method) (c : Code) (A : Nat → Prop) (ls : Array Slot), CallFix p m c cc maxL s args ws y.cls → meth.sig.returnType = ret → meth.locks = false → meth.name = y.name → kw_K G s → kw_Z G A s s.heap → (∀ r, s.heap.size ≤ r → A r) → kw_W G A nu x s.heap → va_S A s.heap s.heap [] → lv_has ls maxL (lv_args 0 av) →
      W p l e rm s m args below meth c s.heap [] 0 0 (MQ below (kw_Qc G A post) args s mc ms A) (F0 m 0 ls [])) : kw_M l G y ws rm mc ms av nu x post := by
  intro sz
  refine Met.ofW (cc := cc) (maxL := maxL) (ret := ret) hy hw ?_
  intro p e s m args below meth c s₁ B hml hv
  obtain ⟨rfl, hsz, hW, hK, hZ⟩ := hv
  subst hsz
  have hl := lv_entry av (n := maxL) hav
  rw [lg_entry_eq]
  have hW' : kw_W G (kw_Rg nu s.heap.size) nu x s.heap := fun a q h => ⟨(hW a q h).1, by
    by_cases e : q = 11
    · exact Or.inl e
    · exact Or.inr (Or.inl ⟨q, h, e⟩)⟩
  exact body p e s m _ below meth c (kw_Rg nu s.heap.size) _ ⟨B.exec, B.bytes, hml, findClass_of_methodNamed B.named, atoms_spec (ws := ws) B.pre⟩ B.returns B.notSynchronized (name_of_methodNamed B.named B.method).1 hK hZ (fun r h => Or.inr h) hW' va_S.rf hl
section KWC
variable {p : Program} {l : Launch} {e : Env} {R : Room} {s : State} {m : MethodId} {args : Array Value} {below : List Frame} {meth : Method} {c : Code} {H : Heap} {locs : List Loc} {cells slots : Nat} {Q : State → Prop}
variable {cc : ByteArray} {pc nL : Nat} {ls : Array Slot} {rest : List Value} {G : kw_G} {A : Nat → Prop} {nu : Nat → Option Nat} {x : kw_St} {a q : Nat} {H0 : Heap} {Ts : List Cond} {own : String}
variable {post : Option Value → (Nat → Option Nat) → kw_St → Prop} {mc ms : Nat}
theorem kw_ends (hW : kw_W G A nu x H) (hS : va_S A s.heap H locs) {v : Option Value} (hp : post v nu x) (t : State) (ht : t.heap = H) : kw_Qc G A post args s (.returned v) t := ⟨⟨v, nu, x, rfl, hp, by rw [ht]; exact hW⟩, hS.F ht⟩
theorem kw_vret (S : CallFix p m c cc nL s args Ts own) (hr : meth.sig.returnType = none) (hlocks : meth.locks = false) (hW : kw_W G A nu x H) (hS : va_S A s.heap H locs) (hc : cells ≤ mc) (hs : slots ≤ ms) (hdg : decode cc pc = .ok (.return_, 1)) (hp : post none nu x) : W p l e R s m args below meth c H locs cells slots (MQ below (kw_Qc G A post) args s mc ms A) (F0 m pc ls []) :=
  W.widen hc hs (W.vret S.1 S.2.1 hr (fun t ht _ => kw_ends hW hS hp t ht) hS.2.2 hdg hlocks)
theorem kw_iret (S : CallFix p m c cc nL s args Ts own) (hr : meth.sig.returnType = some .int) (hlocks : meth.locks = false) (hW : kw_W G A nu x H) (hS : va_S A s.heap H locs) (hc : cells ≤ mc) (hs : slots ≤ ms) (hdg : decode cc pc = .ok (.ireturn, 1)) {v : Int32} (hp : post (some (.int v)) nu x) : W p l e R s m args below meth c H locs cells slots (MQ below (kw_Qc G A post) args s mc ms A) (F0 m pc ls [.int v]) :=
  W.widen hc hs (W.iret S.1 S.2.1 hr (fun t ht _ => kw_ends hW hS hp t ht) hS.2.2 hdg hlocks)
theorem kw_zret (S : CallFix p m c cc nL s args Ts own) (hr : meth.sig.returnType = some .boolean) (hlocks : meth.locks = false) (hW : kw_W G A nu x H) (hS : va_S A s.heap H locs) (hc : cells ≤ mc) (hs : slots ≤ ms) (hdg : decode cc pc = .ok (.ireturn, 1)) {v : Int32} (hn : narrow .boolean (.int v) = .int v) (hp : post (some (.int v)) nu x) : W p l e R s m args below meth c H locs cells slots (MQ below (kw_Qc G A post) args s mc ms A) (F0 m pc ls [.int v]) :=
  W.widen hc hs (W.zret S.1 S.2.1 hr hn (fun t ht _ => kw_ends hW hS hp t ht) hS.2.2 hdg hlocks)
theorem kw_lret (S : CallFix p m c cc nL s args Ts own) (hr : meth.sig.returnType = some .long) (hlocks : meth.locks = false) (hW : kw_W G A nu x H) (hS : va_S A s.heap H locs) (hc : cells ≤ mc) (hs : slots ≤ ms) (hdg : decode cc pc = .ok (.lreturn, 1)) {v : Int64} (hp : post (some (.long v)) nu x) : W p l e R s m args below meth c H locs cells slots (MQ below (kw_Qc G A post) args s mc ms A) (F0 m pc ls [.long v]) :=
  W.widen hc hs (W.lret S.1 S.2.1 hr (fun t ht _ => kw_ends hW hS hp t ht) hS.2.2 hdg hlocks)
theorem kw_aret (S : CallFix p m c cc nL s args Ts own) {rt : FieldType} (hr : meth.sig.returnType = some rt) (hrt : (∃ n, rt = .object n) ∨ ∃ t, rt = .array t) (hlocks : meth.locks = false) (hW : kw_W G A nu x H) (hS : va_S A s.heap H locs) (hc : cells ≤ mc) (hs : slots ≤ ms) (hdg : decode cc pc = .ok (.areturn, 1)) {v : Option Nat} (hp : post (some (va_rf v)) nu x) : W p l e R s m args below meth c H locs cells slots (MQ below (kw_Qc G A post) args s mc ms A) (F0 m pc ls [va_rf v]) :=
  W.widen hc hs (W.aret S.1 S.2.1 hr hrt (va_rf_or v) (fun t ht _ => kw_ends hW hS hp t ht) hS.2.2 hdg hlocks)
/-- behind a call -/
theorem kw_call {st0 : List Value} {a : Array Value} (hr : va_Run p l e R s m args below meth c H locs cells slots mc ms (F0 m pc ls st0) rest (kw_Qc G (kw_Rg nu H.size) post a) (kw_Rg nu H.size)) (hA : ∀ r, s.heap.size ≤ r → A r) (hW : kw_W G A nu x H) (hS : va_S A s.heap H locs)
    (kk : ∀ (v : Option Value) (nu' : Nat → Option Nat) (y : kw_St) (H1 : Heap) (locs1 : List Loc), post v nu' y → kw_W G A nu' y H1 → va_S A s.heap H1 locs1 → W p l e R s m args below meth c H1 locs1 (cells + mc) (slots + ms) Q (F0 m (pc + 3) ls (v.toList ++ rest))) : W p l e R s m args below meth c H locs cells slots Q (F0 m pc ls st0) := by
  have hF : ∀ r, kw_Rg nu H.size r → A r := by
    intro r h
    rcases h with ⟨q, h1, h2⟩ | h
    · rcases (hW r q h1).2 with h3 | h3
      · exact absurd h3 h2
      · exact h3
    · exact hA r (Nat.le_trans hS.1 h)
  intro T hT X
  obtain ⟨v, st₀, t, T', L, h0, X', hL, e1, e2, ⟨⟨v2, nu', y, hv, hp, hw⟩, hz, hk⟩, st⟩ := hr T hT X
  cases hv
  rw [h0] at hz hk
  obtain ⟨t2, a1, b1⟩ := kk v nu' y T'.heap (locs ++ L) hp (fun b r hb => ⟨by rw [e1]; exact (hw b r hb).1, (hw b r hb).2.imp id (hF b)⟩)
    ⟨Nat.le_trans hS.1 (by rw [e1]; exact hz), fun q h1 h2 => by rw [e1, hk q (Nat.lt_of_lt_of_le h1 hS.1) (fun z => h2 (hF q z))]; exact hS.2.1 q h1 h2, fun q hq => by
      rcases List.mem_append.mp hq with h | h
      · exact hS.2.2 q h
      · exact hF _ (hL q h)⟩ T' rfl X'
  exact ⟨t2, st t2 a1, b1⟩
theorem kw_pre {av : List Value} (hK : kw_K G s) (hZ : kw_Z G A s s.heap) (hA : ∀ r, s.heap.size ≤ r → A r) (hW : kw_W G A nu x H) (hS : va_S A s.heap H locs) (U : State) (hU : U.heap = H) (hw : s.WarmedH U.vm) : kw_Pc G nu x H.size av av.toArray U := by
  refine ⟨rfl, by rw [hU], by rw [hU]; exact fun b r hb => ⟨(hW b r hb).1, Or.inr trivial⟩, hK.warm hw, ?_⟩
  have h1 : kw_Z G A U U.heap := (va_Z.moved hw.alike (hZ.kept (H1 := U.heap) (fun r h1 h2 => by rw [hU]; exact hS.2.1 r h1 h2)))
  refine h1.narrow (fun r h => ?_)
  rcases h with ⟨q, h1, h2⟩ | h
  · rcases (hW r q h1).2 with h3 | h3
    · exact absurd h3 h2
    · exact h3
  · exact hA r (Nat.le_trans hS.1 h)
theorem kw_blind {av : List Value} {sz : Nat} : FrameBlind (kw_Pc G nu x sz av) := by
  intro a U g mk h
  obtain ⟨h1, h2, h3, h4, h5⟩ := h
  exact ⟨h1, h2, h3, h4.call, va_Z.moved (u := U) (U := U.calling g mk a) (Vm.Alike.refl U.vm) h5⟩
theorem kw_callV (S : CallFix p m c cc nL s args Ts own) (hK : kw_K G s) (hZ : kw_Z G A s s.heap) (hA : ∀ r, s.heap.size ≤ r → A r) (hW : kw_W G A nu x H) (hS : va_S A s.heap H locs) {b : Nat} {As st0 : List Value} {y : MethodName} {ws : List Cond} {rm : Room} {bytes : ByteArray} {maxL n index : Nat} {ret : Option FieldType} {C : String} {T : u_T} {N : Nat}
    (hM : kw_M l G y ws rm mc ms (.ref b :: As) nu x post) (cw : CallW R s args own C index y bytes maxL ret ws rm mc ms n) (hb : nu b = some q) (hq : q < 7) (hc : vwCl[q]? = some (C, T, N)) (hn : As.length = n) (hsize : ls.size = nL) (hst : st0 = As.reverse ++ .ref b :: rest) (hr : (rest.map fun v => v.category).sum ≤ 8) (hdg : decode cc pc = .ok (.invokevirtual index, 3)) (hf : cells + mc ≤ R.cells ∧ slots + ms ≤ R.slots)
    (kk : ∀ (v : Option Value) (nu' : Nat → Option Nat) (y : kw_St) (H1 : Heap) (locs1 : List Loc), post v nu' y → kw_W G A nu' y H1 → va_S A s.heap H1 locs1 → W p l e R s m args below meth c H1 locs1 (cells + mc) (slots + ms) Q (F0 m (pc + 3) ls (v.toList ++ rest))) : W p l e R s m args below meth c H locs cells slots Q (F0 m pc ls st0) := by
  have h1 := (hW b q hb).1.1 (by omega)
  rw [kw_ce_ob hq] at h1
  exact kw_call (va_runV S (hM H.size) cw ⟨kw_blind, va_recv hK.1 (kw_one h1) (ci := q) (q0 := 0) hc rfl, fun U hU hw => kw_pre hK hZ hA hW hS U hU hw⟩ rfl hn hsize hst (lv_room hr) hdg hf) hA hW hS kk
theorem kw_callS (S : CallFix p m c cc nL s args Ts own) (hK : kw_K G s) (hZ : kw_Z G A s s.heap) (hA : ∀ r, s.heap.size ≤ r → A r) (hW : kw_W G A nu x H) (hS : va_S A s.heap H locs) {As st0 : List Value} {y : MethodName} {ws : List Cond} {rm : Room} {bytes : ByteArray} {maxL n index : Nat} {ret : Option FieldType}
    (hM : kw_M l G y ws rm mc ms As nu x post) (cw : CallB R s args own index y bytes maxL ret ws rm mc ms n ∧ (Cond.static y).before args s = true) (hn : As.length = n) (hsize : ls.size = nL) (hst : st0 = As.reverse ++ rest) (hr : (rest.map fun v => v.category).sum ≤ 8) (hdg : decode cc pc = .ok (.invokestatic index, 3)) (hf : cells + mc ≤ R.cells ∧ slots + ms ≤ R.slots)
    (kk : ∀ (v : Option Value) (nu' : Nat → Option Nat) (y : kw_St) (H1 : Heap) (locs1 : List Loc), post v nu' y → kw_W G A nu' y H1 → va_S A s.heap H1 locs1 → W p l e R s m args below meth c H1 locs1 (cells + mc) (slots + ms) Q (F0 m (pc + 3) ls (v.toList ++ rest))) : W p l e R s m args below meth c H locs cells slots Q (F0 m pc ls st0) :=
  kw_call (va_runS S (hM H.size) cw ⟨kw_blind, fun U hU hw => kw_pre hK hZ hA hW hS U hU hw⟩ rfl hn hsize hst (lv_room hr) hdg hf) hA hW hS kk
theorem kw_callI (S : CallFix p m c cc nL s args Ts own) (hK : kw_K G s) (hZ : kw_Z G A s s.heap) (hA : ∀ r, s.heap.size ≤ r → A r) (hW : kw_W G A nu x H) (hS : va_S A s.heap H locs) {b : Nat} {As st0 : List Value} {y : MethodName} {ws : List Cond} {rm : Room} {bytes : ByteArray} {maxL n index : Nat}
    (hM : kw_M l G y ws rm mc ms (.ref b :: As) nu x post) (cw : CallB R s args own index y bytes maxL none ws rm mc ms n ∧ y.name = "<init>" ∧ (Cond.instanceMethod y).before args s = true) (hn : As.length = n) (hsize : ls.size = nL) (hst : st0 = As.reverse ++ .ref b :: rest) (hr : (rest.map fun v => v.category).sum ≤ 8) (hdg : decode cc pc = .ok (.invokespecial index, 3)) (hf : cells + mc ≤ R.cells ∧ slots + ms ≤ R.slots)
    (kk : ∀ (v : Option Value) (nu' : Nat → Option Nat) (y : kw_St) (H1 : Heap) (locs1 : List Loc), post v nu' y → kw_W G A nu' y H1 → va_S A s.heap H1 locs1 → W p l e R s m args below meth c H1 locs1 (cells + mc) (slots + ms) Q (F0 m (pc + 3) ls (v.toList ++ rest))) : W p l e R s m args below meth c H locs cells slots Q (F0 m pc ls st0) :=
  kw_call (va_runI S (hM H.size) cw ⟨kw_blind, fun U hU hw => kw_pre hK hZ hA hW hS U hU hw⟩ rfl hn hsize hst (lv_room hr) hdg hf) hA hW hS kk
theorem kw_iald (S : CallFix p m c cc nL s args Ts own) (hK : kw_K G s) (hW : kw_W G A nu x H) (ha : nu a = some 7) {i : Int32} {k : Nat} (hi : kw_ix i k (kN x a)) (hdg : decode cc pc = .ok (.iaload, 1)) {v : Int32} (hv : kA x a k = v)
    (kk : W p l e R s m args below meth c H locs cells slots Q (F0 m (pc + 1) ls (.int v :: rest))) : W p l e R s m args below meth c H locs cells slots Q (F0 m pc ls (.int i :: .ref a :: rest)) := by
  obtain ⟨h1, h2⟩ := hi
  subst h2 hv
  exact va_iald S.1 S.2.1 hK.1 (kw_one ((hW a 7 ha).1.1 (by decide))) 0 0 rfl rfl h1 hdg kk
theorem kw_zald (S : CallFix p m c cc nL s args Ts own) (hK : kw_K G s) (hW : kw_W G A nu x H) (ha : nu a = some 9) {i : Int32} {k : Nat} (hi : kw_ix i k (kN x a)) (hdg : decode cc pc = .ok (.baload, 1)) {v : Int32} (hv : kA x a k = v)
    (kk : W p l e R s m args below meth c H locs cells slots Q (F0 m (pc + 1) ls (.int v :: rest))) : W p l e R s m args below meth c H locs cells slots Q (F0 m pc ls (.int i :: .ref a :: rest)) := by
  obtain ⟨h1, h2⟩ := hi
  subst h2 hv
  exact va_zald S.1 S.2.1 hK.1 (kw_one ((hW a 9 ha).1.1 (by decide))) 0 2 rfl rfl h1 hdg kk
theorem kw_lald (S : CallFix p m c cc nL s args Ts own) (hK : kw_K G s) (hW : kw_W G A nu x H) (ha : nu a = some 8) {i : Int32} {k : Nat} (hi : kw_ix i k (kN x a)) (hdg : decode cc pc = .ok (.laload, 1)) {v : Int64} (hv : kB x a k = v)
    (kk : W p l e R s m args below meth c H locs cells slots Q (F0 m (pc + 1) ls (.long v :: rest))) : W p l e R s m args below meth c H locs cells slots Q (F0 m pc ls (.int i :: .ref a :: rest)) := by
  obtain ⟨h1, h2⟩ := hi
  subst h2 hv
  exact va_lald S.1 S.2.1 hK.1 (kw_one ((hW a 8 ha).1.1 (by decide))) 0 1 rfl rfl h1 hdg kk
theorem kw_aald (S : CallFix p m c cc nL s args Ts own) (hK : kw_K G s) (hW : kw_W G A nu x H) (ha : nu a = some 10) {i : Int32} {k : Nat} (hi : kw_ix i k (kN x a)) (hdg : decode cc pc = .ok (.aaload, 1)) {v : Option Nat} (hv : kC x a k = v)
    (kk : W p l e R s m args below meth c H locs cells slots Q (F0 m (pc + 1) ls (va_rf v :: rest))) : W p l e R s m args below meth c H locs cells slots Q (F0 m pc ls (.int i :: .ref a :: rest)) := by
  obtain ⟨h1, h2⟩ := hi
  subst h2 hv
  exact va_aldq S.1 S.2.1 hK.1 (kw_one ((hW a 10 ha).1.1 (by decide))) 0 3 rfl rfl h1 hdg kk
theorem kw_iast (S : CallFix p m c cc nL s args Ts own) (hK : kw_K G s) (hW : kw_W G A nu x H) (hS : va_S A H0 H locs) (ha : nu a = some 7) {i : Int32} {k : Nat} (hi : kw_ix i k (kN x a)) (hdg : decode cc pc = .ok (.iastore, 1)) {v : Int32}
    (kk : ∀ (H1 : Heap) (locs1 : List Loc), kw_W G A nu (sA x a k v) H1 → va_S A H0 H1 locs1 → W p l e R s m args below meth c H1 locs1 cells slots Q (F0 m (pc + 1) ls rest)) : W p l e R s m args below meth c H locs cells slots Q (F0 m pc ls (.int v :: .int i :: .ref a :: rest)) := by
  obtain ⟨h1, h2⟩ := hi
  subst h2
  have hA : A a := (hW a 7 ha).2.resolve_left (by decide)
  have hcell : H[a]? = some (vp_cell G.2.1.1 (kN x a, .inl (kA x a))) := (hW a 7 ha).1.1 (by decide)
  refine W.iast S.1 S.2.1 hcell ((hK.1.2 0 _ rfl).1 _ (fun j => .int (kA x a j))) (fun q => by cases q) (by show ¬ (i < 0 ∨ (arrV _ _ _).slots.size ≤ _); rw [arrV_size]; exact h1) rfl rfl hdg fun H1 e z oq => ?_
  refine kk H1 _ (hW.up ha (by decide) ?_ oq (fun b r h => kw_ne_sA r h)) (hS.put z oq hA)
  show H1[a]? = some (vp_cell G.2.1.1 (kN x a, .inl (kA (sA x a i.toNatClampNeg v) a)))
  rw [e, kA_sA, if_pos rfl, vp_cell_i, vp_cell_i, arrV_store]
  congr 2
  funext r
  by_cases hr : r = i.toNatClampNeg
  · subst hr; simp [updV, upd]
  · simp [updV, upd, hr]
theorem kw_zast (S : CallFix p m c cc nL s args Ts own) (hK : kw_K G s) (hW : kw_W G A nu x H) (hS : va_S A H0 H locs) (ha : nu a = some 9) {i : Int32} {k : Nat} (hi : kw_ix i k (kN x a)) (hdg : decode cc pc = .ok (.bastore, 1)) {v : Int32} (hv : vp_nar .boolean v = v)
    (kk : ∀ (H1 : Heap) (locs1 : List Loc), kw_W G A nu (sA x a k v) H1 → va_S A H0 H1 locs1 → W p l e R s m args below meth c H1 locs1 cells slots Q (F0 m (pc + 1) ls rest)) : W p l e R s m args below meth c H locs cells slots Q (F0 m pc ls (.int v :: .int i :: .ref a :: rest)) := by
  obtain ⟨h1, h2⟩ := hi
  subst h2
  have hA : A a := (hW a 9 ha).2.resolve_left (by decide)
  have hcell : H[a]? = some (vp_cell G.2.1.2.2.1 (kN x a, .inl (kA x a))) := (hW a 9 ha).1.1 (by decide)
  refine W.zast S.1 S.2.1 hcell ((hK.1.2 2 _ rfl).1 _ (fun j => .int (kA x a j))) (fun q => by cases q) (by show ¬ (i < 0 ∨ (arrV _ _ _).slots.size ≤ _); rw [arrV_size]; exact h1) rfl rfl hdg fun H1 e z oq => ?_
  refine kk H1 _ (hW.up ha (by decide) ?_ oq (fun b r h => kw_ne_sA r h)) (hS.put z oq hA)
  show H1[a]? = some (vp_cell G.2.1.2.2.1 (kN x a, .inl (kA (sA x a i.toNatClampNeg v) a)))
  rw [e, kA_sA, if_pos rfl, vp_cell_i, vp_cell_i, arrV_store]
  congr 2
  funext r
  by_cases hr : r = i.toNatClampNeg
  · subst hr
    have h9 : narrow .boolean (.int v) = .int (vp_nar .boolean v) := by simp [vp_nar, narrow]
    simp only [updV, upd, if_true]
    rw [h9, hv]
  · simp [updV, upd, hr]
theorem kw_last (S : CallFix p m c cc nL s args Ts own) (hK : kw_K G s) (hW : kw_W G A nu x H) (hS : va_S A H0 H locs) (ha : nu a = some 8) {i : Int32} {k : Nat} (hi : kw_ix i k (kN x a)) (hdg : decode cc pc = .ok (.lastore, 1)) {v : Int64}
    (kk : ∀ (H1 : Heap) (locs1 : List Loc), kw_W G A nu (sB x a k v) H1 → va_S A H0 H1 locs1 → W p l e R s m args below meth c H1 locs1 cells slots Q (F0 m (pc + 1) ls rest)) : W p l e R s m args below meth c H locs cells slots Q (F0 m pc ls (.long v :: .int i :: .ref a :: rest)) := by
  obtain ⟨h1, h2⟩ := hi
  subst h2
  have hA : A a := (hW a 8 ha).2.resolve_left (by decide)
  have hcell : H[a]? = some (vp_cell G.2.1.2.1 (kN x a, .inr (.inl (kB x a)))) := (hW a 8 ha).1.1 (by decide)
  refine W.last S.1 S.2.1 hcell ((hK.1.2 1 _ rfl).1 _ (fun j => .long (kB x a j))) (fun q => by cases q) (by show ¬ (i < 0 ∨ (arrV _ _ _).slots.size ≤ _); rw [arrV_size]; exact h1) rfl rfl hdg fun H1 e z oq => ?_
  refine kk H1 _ (hW.up ha (by decide) ?_ oq (fun b r h => kw_ne_sB r h)) (hS.put z oq hA)
  show H1[a]? = some (vp_cell G.2.1.2.1 (kN x a, .inr (.inl (kB (sB x a i.toNatClampNeg v) a))))
  rw [e, kB_sB, if_pos rfl, vp_cell_l, vp_cell_l, arrV_store]
  congr 2
  funext r
  by_cases hr : r = i.toNatClampNeg
  · subst hr; simp [updV, vp_updL]
  · simp [updV, vp_updL, hr]
/-- a fresh object -/
theorem kw_new (S : CallFix p m c cc nL s args Ts own) (hK : kw_K G s) (hW : kw_W G A nu x H) (hS : va_S A s.heap H locs) (hA : ∀ r, s.heap.size ≤ r → A r) (q : Nat) {C : String} {T : u_T} {N index : Nat} (hc : vwCl[q]? = some (C, T, N)) (hin : ∀ w ∈ u_ws C T N, w ∈ Ts) (ty0 : Nat → FieldType) (hty : ∀ k, k < N → parseFieldDescriptor (T k).2.2.1 = some (ty0 k)) (hq : q < 7) (hdv : ∀ (y : kw_St) (b : Nat), (∀ i, kI y i b = 0) → (∀ i, kJ y i b = 0) → (∀ i, kR y i b = none) → ∀ j, j < N → defaultValue (ty0 j) = vp_V (kw_ob y q b) j)
    (hcl : Cond.classLink own index C ∈ Ts) (hinst : Cond.instantiable C N ∈ Ts) (hini : Cond.initialized C ∈ Ts) (hcells : cells + 1 ≤ R.cells) (hslots : slots + N ≤ R.slots) (hdg : decode cc pc = .ok (.new index, 3))
    (kk : ∀ (b : Nat) (H1 : Heap), nu b = none → kw_W G A (va_up nu b (some q)) (sNew x b 0) H1 → va_S A s.heap H1 locs → W p l e R s m args below meth c H1 locs (cells + 1) (slots + N) Q (F0 m (pc + 3) ls (.ref b :: rest))) : W p l e R s m args below meth c H locs cells slots Q (F0 m pc ls rest) := by
  have hKn := hK.1.1 q _ hc
  refine W.newcK S.1 S.2.1 S.2.2.2.1 (S.2.2.2.2 _ hcl) (S.2.2.2.2 _ hinst) (S.2.2.2.2 _ hini) rfl hdg hcells hslots hKn.2.1 rfl fun H1 kC hkC e1 z1 o1 => ?_
  have hfr : nu H.size = none := by
    cases h : nu H.size with
    | none => rfl
    | some r => exact absurd (hW _ r h).1.lt (Nat.lt_irrefl _)
  refine kk H.size H1 hfr (fun b r hb => ?_) ⟨Nat.le_trans hS.1 (by omega), fun r h1 h2 => (o1 r (Nat.lt_of_lt_of_le h1 hS.1)).trans (hS.2.1 r h1 h2), hS.2.2⟩
  by_cases e : b = H.size
  · subst e
    rw [va_up_self] at hb
    cases hb
    refine ⟨kw_c.of (by omega) ?_, Or.inr (hA _ hS.1)⟩
    rw [kw_ce_ob hq]
    exact ⟨_, hc, (u_born ty0 S.2.2.2.2 hin hKn hkC e1 hty).to (hdv _ _ (fun i => by simp [sNew, kI]) (fun i => by simp [sNew, kJ]) (fun i => by simp [sNew, kR]))⟩
  · rw [va_up_ne _ _ e] at hb
    exact ⟨((hW b r hb).1.kept (o1 b (hW b r hb).1.lt)).to (fun r => kw_ne_sNew r e), (hW b r hb).2⟩
end KWC
