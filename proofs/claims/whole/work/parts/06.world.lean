/-! THE WORLD: every cell that class, reference and law hold, by its address. 'nu' says of an address which kind of cell is there (0 to 6: the place of its class in vwCl; 7 int array, 8 long array, 9 boolean array, 10 array of Objects, 11 the list's own empty array, which nobody writes); the tables say what each holds. -/
abbrev kw_St : Type := (Nat → Nat → Int32) × (Nat → Nat → Int64) × (Nat → Nat → Option Nat) × (Nat → Nat → Int32) × (Nat → Nat → Int64) × (Nat → Nat → Option Nat) × (Nat → Nat)
abbrev kI (x : kw_St) : Nat → Nat → Int32 := x.1
abbrev kJ (x : kw_St) : Nat → Nat → Int64 := x.2.1
abbrev kR (x : kw_St) : Nat → Nat → Option Nat := x.2.2.1
abbrev kA (x : kw_St) : Nat → Nat → Int32 := x.2.2.2.1
abbrev kB (x : kw_St) : Nat → Nat → Int64 := x.2.2.2.2.1
abbrev kC (x : kw_St) : Nat → Nat → Option Nat := x.2.2.2.2.2.1
abbrev kN (x : kw_St) : Nat → Nat := x.2.2.2.2.2.2
def sI (x : kw_St) (id a : Nat) (v : Int32) : kw_St := (fun i b => if i = id ∧ b = a then v else x.1 i b, x.2)
def sJ (x : kw_St) (id a : Nat) (v : Int64) : kw_St := (x.1, fun i b => if i = id ∧ b = a then v else x.2.1 i b, x.2.2)
def sR (x : kw_St) (id a : Nat) (v : Option Nat) : kw_St := (x.1, x.2.1, fun i b => if i = id ∧ b = a then v else x.2.2.1 i b, x.2.2.2)
def sA (x : kw_St) (a k : Nat) (v : Int32) : kw_St := (x.1, x.2.1, x.2.2.1, fun b => if b = a then upd (x.2.2.2.1 b) k v else x.2.2.2.1 b, x.2.2.2.2)
def sB (x : kw_St) (a k : Nat) (v : Int64) : kw_St := (x.1, x.2.1, x.2.2.1, x.2.2.2.1, fun b => if b = a then vp_updL (x.2.2.2.2.1 b) k v else x.2.2.2.2.1 b, x.2.2.2.2.2)
def sC (x : kw_St) (a k : Nat) (v : Option Nat) : kw_St := (x.1, x.2.1, x.2.2.1, x.2.2.2.1, x.2.2.2.2.1, fun b => if b = a then va_up (x.2.2.2.2.2.1 b) k v else x.2.2.2.2.2.1 b, x.2.2.2.2.2.2)
/-- a fresh cell at a: all its fields and places as they begin, n places -/
def sNew (x : kw_St) (a n : Nat) : kw_St := (fun i b => if b = a then 0 else x.1 i b, fun i b => if b = a then 0 else x.2.1 i b, fun i b => if b = a then none else x.2.2.1 i b, fun b => if b = a then (fun _ => 0) else x.2.2.2.1 b, fun b => if b = a then (fun _ => 0) else x.2.2.2.2.1 b, fun b => if b = a then (fun _ => none) else x.2.2.2.2.2.1 b, fun b => if b = a then n else x.2.2.2.2.2.2 b)
/-- an array's whole row of references is put -/
def sCrow (x : kw_St) (a : Nat) (r : Nat → Option Nat) : kw_St := (x.1, x.2.1, x.2.2.1, x.2.2.2.1, x.2.2.2.2.1, fun b => if b = a then r else x.2.2.2.2.2.1 b, x.2.2.2.2.2.2)
theorem kI_sI (x : kw_St) (id a : Nat) (v : Int32) (i b : Nat) : kI (sI x id a v) i b = if i = id ∧ b = a then v else kI x i b := rfl
theorem kI_self (x : kw_St) (id a : Nat) (v : Int32) : kI (sI x id a v) id a = v := by simp [kI_sI]
theorem kJ_sJ (x : kw_St) (id a : Nat) (v : Int64) (i b : Nat) : kJ (sJ x id a v) i b = if i = id ∧ b = a then v else kJ x i b := rfl
theorem kJ_self (x : kw_St) (id a : Nat) (v : Int64) : kJ (sJ x id a v) id a = v := by simp [kJ_sJ]
theorem kR_sR (x : kw_St) (id a : Nat) (v : Option Nat) (i b : Nat) : kR (sR x id a v) i b = if i = id ∧ b = a then v else kR x i b := rfl
theorem kR_self (x : kw_St) (id a : Nat) (v : Option Nat) : kR (sR x id a v) id a = v := by simp [kR_sR]
theorem kA_sA (x : kw_St) (a k : Nat) (v : Int32) (b : Nat) : kA (sA x a k v) b = if b = a then upd (kA x b) k v else kA x b := rfl
theorem kB_sB (x : kw_St) (a k : Nat) (v : Int64) (b : Nat) : kB (sB x a k v) b = if b = a then vp_updL (kB x b) k v else kB x b := rfl
theorem kC_sC (x : kw_St) (a k : Nat) (v : Option Nat) (b : Nat) : kC (sC x a k v) b = if b = a then va_up (kC x b) k v else kC x b := rfl
abbrev kw_G : Type := va_G × (ClassId × ClassId × ClassId × ClassId) × (Nat × Nat)
abbrev kw_ty (G : kw_G) : List (ClassId × FieldType) := [(G.2.1.1, .int), (G.2.1.2.1, .long), (G.2.1.2.2.1, .boolean), (G.2.1.2.2.2, .object "java/lang/Object")]
/-- the fields of a class: 0 an int, 1 a long, 2 a reference -/
def kw_fl : Nat → List Nat
  | 0 => [0, 2, 0]
  | 1 => [0, 1, 1]
  | 2 => [0, 2, 0, 0, 1, 1]
  | 3 => [2, 0, 0, 2, 0, 2, 0, 2, 2, 0, 0, 0, 0, 0, 0, 0, 0, 1]
  | 4 => [0, 0, 0, 0, 0, 0, 0, 0, 2]
  | 5 => [2, 2, 2, 2, 0, 0, 0, 0, 1]
  | 6 => [0, 0, 0, 0, 0, 0, 0, 0, 0, 2, 2, 2, 1, 2, 2, 2, 2, 2, 2, 2, 2, 2, 2, 2, 2, 2, 2, 2, 2, 2, 2, 2, 2, 2, 2, 2, 2, 2, 2, 2, 2, 2]
  | _ => []
def kw_fv (x : kw_St) (id a t : Nat) : Value := if t = 0 then .int (kI x id a) else if t = 1 then .long (kJ x id a) else va_rf (kR x id a)
def kw_go (x : kw_St) (a : Nat) : Nat → List Nat → List Value
  | _, [] => []
  | id, t :: l => kw_fv x id a t :: kw_go x a (id + 1) l
theorem kw_go_get (x : kw_St) (a : Nat) : ∀ (l : List Nat) (id j : Nat), (kw_go x a id l)[j]? = (l[j]?).map (kw_fv x (id + j) a)
  | [], id, j => by simp [kw_go]
  | t :: l, id, 0 => by simp [kw_go]
  | t :: l, id, j + 1 => by
    simp only [kw_go, List.getElem?_cons_succ]
    rw [kw_go_get x a l (id + 1) j, show id + 1 + j = id + (j + 1) by omega]
theorem kw_go_len (x : kw_St) (a : Nat) : ∀ (l : List Nat) (id : Nat), (kw_go x a id l).length = l.length
  | [], id => rfl
  | t :: l, id => by simp [kw_go, kw_go_len x a l (id + 1)]
abbrev kw_ob (x : kw_St) (q a : Nat) : List Value := kw_go x a (50 * q) (kw_fl q)
/-- the cell at a, if it is of kind q -/
def kw_ce (G : kw_G) (x : kw_St) (q a : Nat) : va_E := if q < 7 then .inr (q, kw_ob x q a) else if q = 7 then .inl (G.2.1.1, kN x a, .inl (kA x a)) else if q = 8 then .inl (G.2.1.2.1, kN x a, .inr (.inl (kB x a))) else if q = 9 then .inl (G.2.1.2.2.1, kN x a, .inl (kA x a)) else .inl (G.2.1.2.2.2, kN x a, .inr (.inr (.inr (.inr (kC x a)))))
/-- the list's empty array: of its cell only what its class, its length and its being known say -/
def kw_em (G : kw_G) (x : kw_St) (a : Nat) (H : Heap) : Prop := ∃ cell : Cell, H[a]? = some cell ∧ cell.cls = G.2.1.2.2.2 ∧ cell.slots.size.toInt32 = nI (kN x a) ∧ cell.vm ≠ .unknown ∧ ∀ k, cell.vm ≠ .statics k
def kw_c (G : kw_G) (x : kw_St) (q a : Nat) (H : Heap) : Prop := (q ≠ 11 → va_at G.1 vwCl (a, kw_ce G x q a) H) ∧ (q = 11 → kw_em G x a H)
theorem kw_c.of {G : kw_G} {x : kw_St} {q a : Nat} {H : Heap} (hq : q ≠ 11) (h : va_at G.1 vwCl (a, kw_ce G x q a) H) : kw_c G x q a H := ⟨fun _ => h, fun h9 => absurd h9 hq⟩
theorem kw_c.lt {G : kw_G} {x : kw_St} {q a : Nat} {H : Heap} (h : kw_c G x q a H) : a < H.size := by
  by_cases hq : q = 11
  · obtain ⟨cell, h1, -⟩ := h.2 hq
    exact (Array.getElem?_eq_some_iff.mp h1).1
  · exact (h.1 hq).lt
theorem kw_c.kept {G : kw_G} {x : kw_St} {q a : Nat} {H H1 : Heap} (h : kw_c G x q a H) (e : H1[a]? = H[a]?) : kw_c G x q a H1 := ⟨fun hq => (h.1 hq).kept e, fun hq => by
  obtain ⟨cell, h1, h2⟩ := h.2 hq
  exact ⟨cell, e.trans h1, h2⟩⟩
theorem kw_c.to {G : kw_G} {x y : kw_St} {q a : Nat} {H : Heap} (h : kw_c G x q a H) (e : ∀ r, kw_ce G y r a = kw_ce G x r a) : kw_c G y q a H := ⟨fun hq => by rw [e q]; exact h.1 hq, fun hq => by
  obtain ⟨cell, h1, h2, h3, h4⟩ := h.2 hq
  have h9 := e 10
  simp only [kw_ce] at h9
  simp at h9
  exact ⟨cell, h1, h2, by rw [h9.1]; exact h3, h4⟩⟩
def kw_W (G : kw_G) (A : Nat → Prop) (nu : Nat → Option Nat) (x : kw_St) (H : Heap) : Prop := ∀ a q, nu a = some q → kw_c G x q a H ∧ (q = 11 ∨ A a)
theorem kw_one {D : va_G} {cl : List vw_C} {q : Nat × va_E} {H : Heap} (h : va_at D cl q H) : va_P D cl [q] H := by
  intro k r hk
  cases k with
  | zero => cases hk; exact h
  | succ k => simp at hk
theorem kw_W.up {G : kw_G} {A : Nat → Prop} {nu : Nat → Option Nat} {x y : kw_St} {H H1 : Heap} {a q : Nat} (h : kw_W G A nu x H) (ha : nu a = some q) (hq : q ≠ 11) (hv : va_at G.1 vwCl (a, kw_ce G y q a) H1) (oq : ∀ r : Nat, r ≠ a → H1[r]? = H[r]?) (hy : ∀ b r, b ≠ a → kw_ce G y r b = kw_ce G x r b) : kw_W G A nu y H1 := by
  intro b r hb
  by_cases e : b = a
  · subst e
    rw [ha] at hb
    cases hb
    exact ⟨kw_c.of hq hv, (h b q ha).2⟩
  · exact ⟨((h b r hb).1.kept (oq b e)).to (fun r => hy b r e), (h b r hb).2⟩
theorem kw_fv_ne {x y : kw_St} {b : Nat} (hI : ∀ i, kI y i b = kI x i b) (hJ : ∀ i, kJ y i b = kJ x i b) (hR : ∀ i, kR y i b = kR x i b) : ∀ (l : List Nat) (id : Nat), kw_go y b id l = kw_go x b id l
  | [], _ => rfl
  | t :: l, id => by
    simp only [kw_go, kw_fv]
    rw [hI id, hJ id, hR id, kw_fv_ne hI hJ hR l (id + 1)]
theorem kw_ce_ne {G : kw_G} {x y : kw_St} {b : Nat} (hI : ∀ i, kI y i b = kI x i b) (hJ : ∀ i, kJ y i b = kJ x i b) (hR : ∀ i, kR y i b = kR x i b) (hA : kA y b = kA x b) (hB : kB y b = kB x b) (hC : kC y b = kC x b) (hN : kN y b = kN x b) (r : Nat) : kw_ce G y r b = kw_ce G x r b := by
  unfold kw_ce kw_ob
  rw [kw_fv_ne hI hJ hR, hA, hB, hC, hN]
theorem kw_ne_sI {G : kw_G} {x : kw_St} {id a b : Nat} {v : Int32} (r : Nat) (h : b ≠ a) : kw_ce G (sI x id a v) r b = kw_ce G x r b := kw_ce_ne (x := x) (y := sI x id a v) (fun i => by simp [kI_sI, h]) (fun _ => rfl) (fun _ => rfl) rfl rfl rfl rfl r
theorem kw_ne_sJ {G : kw_G} {x : kw_St} {id a b : Nat} {v : Int64} (r : Nat) (h : b ≠ a) : kw_ce G (sJ x id a v) r b = kw_ce G x r b := kw_ce_ne (x := x) (y := sJ x id a v) (fun _ => rfl) (fun i => by simp [kJ_sJ, h]) (fun _ => rfl) rfl rfl rfl rfl r
theorem kw_ne_sR {G : kw_G} {x : kw_St} {id a b : Nat} {v : Option Nat} (r : Nat) (h : b ≠ a) : kw_ce G (sR x id a v) r b = kw_ce G x r b := kw_ce_ne (x := x) (y := sR x id a v) (fun _ => rfl) (fun _ => rfl) (fun i => by simp [kR_sR, h]) rfl rfl rfl rfl r
theorem kw_ne_sA {G : kw_G} {x : kw_St} {k a b : Nat} {v : Int32} (r : Nat) (h : b ≠ a) : kw_ce G (sA x a k v) r b = kw_ce G x r b := kw_ce_ne (x := x) (y := sA x a k v) (fun _ => rfl) (fun _ => rfl) (fun _ => rfl) (by simp [kA_sA, h]) rfl rfl rfl r
theorem kw_ne_sB {G : kw_G} {x : kw_St} {k a b : Nat} {v : Int64} (r : Nat) (h : b ≠ a) : kw_ce G (sB x a k v) r b = kw_ce G x r b := kw_ce_ne (x := x) (y := sB x a k v) (fun _ => rfl) (fun _ => rfl) (fun _ => rfl) rfl (by simp [kB_sB, h]) rfl rfl r
theorem kw_ne_sC {G : kw_G} {x : kw_St} {k a b : Nat} {v : Option Nat} (r : Nat) (h : b ≠ a) : kw_ce G (sC x a k v) r b = kw_ce G x r b := kw_ce_ne (x := x) (y := sC x a k v) (fun _ => rfl) (fun _ => rfl) (fun _ => rfl) rfl rfl (by simp [kC_sC, h]) rfl r
theorem kw_ne_sCrow {G : kw_G} {x : kw_St} {a b : Nat} {v : Nat → Option Nat} (r : Nat) (h : b ≠ a) : kw_ce G (sCrow x a v) r b = kw_ce G x r b := kw_ce_ne (x := x) (y := sCrow x a v) (fun _ => rfl) (fun _ => rfl) (fun _ => rfl) rfl rfl (by simp [sCrow, kC, h]) rfl r
theorem kw_ne_sNew {G : kw_G} {x : kw_St} {a b n : Nat} (r : Nat) (h : b ≠ a) : kw_ce G (sNew x a n) r b = kw_ce G x r b := kw_ce_ne (x := x) (y := sNew x a n) (fun _ => by simp [sNew, kI, h]) (fun _ => by simp [sNew, kJ, h]) (fun _ => by simp [sNew, kR, h]) (by simp [sNew, kA, h]) (by simp [sNew, kB, h]) (by simp [sNew, kC, h]) (by simp [sNew, kN, h]) r
/-- an object's fields behind a store -/
theorem kw_fv_other {x y : kw_St} {a : Nat} {id : Nat} (hI : ∀ i, i ≠ id → kI y i a = kI x i a) (hJ : ∀ i, i ≠ id → kJ y i a = kJ x i a) (hR : ∀ i, i ≠ id → kR y i a = kR x i a) {q j t : Nat} {v : Value} (hj : (kw_fl q)[j]? = some t) (hid : 50 * q + j = id) (hv : kw_fv y id a t = v) : kw_ob y q a = (kw_ob x q a).set j v := by
  apply List.ext_getElem?
  intro k
  have hl : j < (kw_ob x q a).length := by rw [kw_go_len]; exact (List.getElem?_eq_some_iff.mp hj).1
  by_cases e : k = j
  · subst e
    rw [List.getElem?_set_self hl, kw_go_get, hj, Option.map_some, hid, hv]
  · rw [List.getElem?_set_ne (Ne.symm e), kw_go_get, kw_go_get]
    have hne : 50 * q + k ≠ id := by omega
    cases (kw_fl q)[k]? with
    | none => rfl
    | some t2 => simp only [Option.map_some, kw_fv]; rw [hI _ hne, hJ _ hne, hR _ hne]
theorem kw_ce_ob {G : kw_G} {x : kw_St} {q a : Nat} (h : q < 7) : kw_ce G x q a = .inr (q, kw_ob x q a) := by simp [kw_ce, h]
theorem kw_ob_get {x : kw_St} {q a j t id : Nat} (hj : (kw_fl q)[j]? = some t) (hid : 50 * q + j = id) : (kw_ob x q a)[j]? = some (kw_fv x id a t) := by rw [kw_go_get, hj, Option.map_some, hid]
section KWR
variable {p : Program} {l : Launch} {e : Env} {R : Room} {s : State} {m : MethodId} {args : Array Value} {below : List Frame} {meth : Method} {c : Code} {H : Heap} {locs : List Loc} {cells slots : Nat} {Q : State → Prop}
variable {cc : ByteArray} {pc nL : Nat} {ls : Array Slot} {rest : List Value} {G : kw_G} {A : Nat → Prop} {nu : Nat → Option Nat} {x : kw_St} {a q : Nat} {H0 : Heap} {Ts : List Cond} {own : String}
theorem kw_get (S : CallFix p m c cc nL s args Ts own) (hK : va_K G.1 vwCl (kw_ty G) s) (hW : kw_W G A nu x H) (ha : nu a = some q) (j id t : Nat) {C : String} {T : u_T} {N index : Nat} (hc : vwCl[q]? = some (C, T, N)) (hin : ∀ w ∈ u_ws C T N, w ∈ Ts) (hq : q < 7) (hj : (kw_fl q)[j]? = some t) (hid : 50 * q + j = id) (hjN : j < N) {ref : String} (hl : Cond.fieldLink own index ref (T j).2.1 (T j).2.2.1 ∈ Ts) (hsame : ∀ z, s.fieldFound? (T j).1 (T j).2.1 (T j).2.2.1 = some z → s.fieldFound? ref (T j).2.1 (T j).2.2.1 = some z) (hdg : decode cc pc = .ok (.getfield index, 3))
    (kk : W p l e R s m args below meth c H locs cells slots Q (F0 m (pc + 3) ls (kw_fv x id a t :: rest))) : W p l e R s m args below meth c H locs cells slots Q (F0 m pc ls (.ref a :: rest)) := by
  have h1 := (hW a q ha).1.1 (by omega)
  rw [kw_ce_ob hq] at h1
  exact va_get S.1 S.2.1 S.2.2.2.2 hin S.2.2.2.1 hK (kw_one h1) 0 rfl hc j hjN (S.2.2.2.2 _ hl) hsame (kw_ob_get hj hid) hdg kk
theorem kw_getI (S : CallFix p m c cc nL s args Ts own) (hK : va_K G.1 vwCl (kw_ty G) s) (hW : kw_W G A nu x H) (ha : nu a = some q) (j id : Nat) {C : String} {T : u_T} {N index : Nat} (hc : vwCl[q]? = some (C, T, N)) (hin : ∀ w ∈ u_ws C T N, w ∈ Ts) (hq : q < 7) (hj : (kw_fl q)[j]? = some 0) (hid : 50 * q + j = id) (hjN : j < N) (hl : Cond.fieldLink own index (T j).1 (T j).2.1 (T j).2.2.1 ∈ Ts) (hdg : decode cc pc = .ok (.getfield index, 3)) {v : Int32} (hv : kI x id a = v)
    (kk : W p l e R s m args below meth c H locs cells slots Q (F0 m (pc + 3) ls (.int v :: rest))) : W p l e R s m args below meth c H locs cells slots Q (F0 m pc ls (.ref a :: rest)) := by
  subst hv
  exact kw_get S hK hW ha j id 0 hc hin hq hj hid hjN hl (fun _ h => h) hdg kk
theorem kw_getJ (S : CallFix p m c cc nL s args Ts own) (hK : va_K G.1 vwCl (kw_ty G) s) (hW : kw_W G A nu x H) (ha : nu a = some q) (j id : Nat) {C : String} {T : u_T} {N index : Nat} (hc : vwCl[q]? = some (C, T, N)) (hin : ∀ w ∈ u_ws C T N, w ∈ Ts) (hq : q < 7) (hj : (kw_fl q)[j]? = some 1) (hid : 50 * q + j = id) (hjN : j < N) (hl : Cond.fieldLink own index (T j).1 (T j).2.1 (T j).2.2.1 ∈ Ts) (hdg : decode cc pc = .ok (.getfield index, 3)) {v : Int64} (hv : kJ x id a = v)
    (kk : W p l e R s m args below meth c H locs cells slots Q (F0 m (pc + 3) ls (.long v :: rest))) : W p l e R s m args below meth c H locs cells slots Q (F0 m pc ls (.ref a :: rest)) := by
  subst hv
  exact kw_get S hK hW ha j id 1 hc hin hq hj hid hjN hl (fun _ h => h) hdg kk
theorem kw_getR (S : CallFix p m c cc nL s args Ts own) (hK : va_K G.1 vwCl (kw_ty G) s) (hW : kw_W G A nu x H) (ha : nu a = some q) (j id : Nat) {C : String} {T : u_T} {N index : Nat} (hc : vwCl[q]? = some (C, T, N)) (hin : ∀ w ∈ u_ws C T N, w ∈ Ts) (hq : q < 7) (hj : (kw_fl q)[j]? = some 2) (hid : 50 * q + j = id) (hjN : j < N) (hl : Cond.fieldLink own index (T j).1 (T j).2.1 (T j).2.2.1 ∈ Ts) (hdg : decode cc pc = .ok (.getfield index, 3)) {v : Option Nat} (hv : kR x id a = v)
    (kk : W p l e R s m args below meth c H locs cells slots Q (F0 m (pc + 3) ls (va_rf v :: rest))) : W p l e R s m args below meth c H locs cells slots Q (F0 m pc ls (.ref a :: rest)) := by
  subst hv
  exact kw_get S hK hW ha j id 2 hc hin hq hj hid hjN hl (fun _ h => h) hdg kk
/-- a store into a field, whatever it holds -/
theorem kw_put (S : CallFix p m c cc nL s args Ts own) (hK : va_K G.1 vwCl (kw_ty G) s) (hW : kw_W G A nu x H) (hS0 : va_S A H0 H locs) (ha : nu a = some q) (j id t : Nat) {y : kw_St} {v : Value} {C : String} {T : u_T} {N index : Nat} (hc : vwCl[q]? = some (C, T, N)) (hin : ∀ w ∈ u_ws C T N, w ∈ Ts) (ty0 : Nat → FieldType) (hty : ∀ k, k < N → parseFieldDescriptor (T k).2.2.1 = some (ty0 k)) (hnm : ∀ a, a < N → ∀ b, b < N → a ≠ b → (T a).2.1 ≠ (T b).2.1) (hq : q < 7) (hj : (kw_fl q)[j]? = some t) (hid : 50 * q + j = id) (hjN : j < N) {ref : String} (hl : Cond.fieldLink own index ref (T j).2.1 (T j).2.2.1 ∈ Ts) (hsame : ∀ z, s.fieldFound? (T j).1 (T j).2.1 (T j).2.2.1 = some z → s.fieldFound? ref (T j).2.1 (T j).2.2.1 = some z)
    (hfin : (T j).2.2.2 = false ∨ ((T j).2.2.2 = true ∧ meth.name = "<init>" ∧ (T j).1 = own)) {ty : FieldType} (hd : parseFieldDescriptor (T j).2.2.1 = some ty) (hn : narrow ty v = v) (hfit : fits ty v = true) (hdg : decode cc pc = .ok (.putfield index, 3))
    (hI : ∀ i, i ≠ id → kI y i a = kI x i a) (hJ : ∀ i, i ≠ id → kJ y i a = kJ x i a) (hR : ∀ i, i ≠ id → kR y i a = kR x i a) (hv : kw_fv y id a t = v) (hne : ∀ b r, b ≠ a → kw_ce G y r b = kw_ce G x r b)
    (kk : ∀ (H1 : Heap) (locs1 : List Loc), kw_W G A nu y H1 → va_S A H0 H1 locs1 → W p l e R s m args below meth c H1 locs1 cells slots Q (F0 m (pc + 3) ls rest)) : W p l e R s m args below meth c H locs cells slots Q (F0 m pc ls (v :: .ref a :: rest)) := by
  have hA : A a := by
    rcases (hW a q ha).2 with h | h
    · omega
    · exact h
  have h1 := (hW a q ha).1.1 (by omega)
  rw [kw_ce_ob hq] at h1
  have hap := va_apart (own := own) S.2.2.2.2 hin ty0 hty hnm hK hc
  have hlen : j < (kw_ob x q a).length := by rw [kw_go_len]; exact (List.getElem?_eq_some_iff.mp hj).1
  obtain ⟨r, h1, cell, q1, q2, q3, q4⟩ := h1
  have hr : r = (C, T, N) := Option.some.inj (h1.symm.trans hc)
  subst hr
  obtain ⟨hS, hfc, kC, hkC, hkind⟩ := hK.1 q _ hc
  obtain ⟨cf, kf, fi, f, hi, hsl⟩ := hS j hjN
  have hst := (u_facts hfc hkC (u_lays S.2.2.2.2 hin hjN) hi).1
  have hlay := S.2.2.2.2 _ (hin _ (u_in_lay hjN))
  unfold u_lay at hlay
  have fin : ∀ H' : Heap, H'[a]? = some (cell.setSlot f.slot v) → H'.size = H.size → (∀ r, r ≠ a → H'[r]? = H[r]?) → W p l e R s m args below meth c H' (locs ++ [⟨a, f.slot⟩]) cells slots Q (F0 m (pc + 3) ls rest) := by
    intro H' e1 e2 e3
    rw [hsl] at e1 ⊢
    refine kk H' _ (hW.up ha (by omega) ?_ e3 hne) (hS0.put e2 e3 hA)
    rw [kw_ce_ob hq, kw_fv_other hI hJ hR hj hid hv]
    exact ⟨_, hc, t_OB.to (V := updV (vp_V (kw_ob x q a)) j v) ⟨_, e1, q2, q3, t_set q4 hap hjN v⟩ (fun k _ => vp_updV_set hlen v k)⟩
  rcases hfin with hfin | ⟨hfin, hin2, hdecl⟩
  · rw [if_neg (by rw [hfin]; decide)] at hlay
    have h6 := u_store hfc hkC hkind hlay hi hd hn hfit
    exact W.putK S.1 S.2.1 (f := f) ⟨S.2.2.2.1, S.2.2.2.2 _ hl, ⟨_, _, _, hsame _ hi⟩, hst⟩ (by rw [q2]; exact h6) q1 q3 (by rw [hsl]; exact k2_hasslot (q4 j hjN)) rfl rfl hdg fin
  · rw [if_pos hfin] at hlay
    have hcf : m.cls = cf := by
      obtain ⟨_, _, c', _, _, _, -, -, hf', -, -, -, hown2, -⟩ := Cond.laysFinal_spec hlay
      have e1 : c' = cf := by have := hi.symm.trans hf'; simp at this; exact this.1.symm
      rw [hdecl] at hown2
      rw [← e1]; exact Option.some.inj (S.2.2.2.1.symm.trans hown2)
    have h6 := u_fits hfc hkC hkind (Or.inr hlay) hi hd hn hfit
    exact W.putFinK S.1 S.2.1 S.2.2.2.1 (S.2.2.2.2 _ hl) (hsame _ hi) hst hcf hin2 (by rw [q2]; exact h6) q1 q3 (by rw [hsl]; exact k2_hasslot (q4 j hjN)) rfl rfl hdg fin
theorem kw_putI (S : CallFix p m c cc nL s args Ts own) (hK : va_K G.1 vwCl (kw_ty G) s) (hW : kw_W G A nu x H) (hS0 : va_S A H0 H locs) (ha : nu a = some q) (j id : Nat) {v : Int32} {C : String} {T : u_T} {N index : Nat} (hc : vwCl[q]? = some (C, T, N)) (hin : ∀ w ∈ u_ws C T N, w ∈ Ts) (ty0 : Nat → FieldType) (hty : ∀ k, k < N → parseFieldDescriptor (T k).2.2.1 = some (ty0 k)) (hnm : ∀ a, a < N → ∀ b, b < N → a ≠ b → (T a).2.1 ≠ (T b).2.1) (hq : q < 7) (hj : (kw_fl q)[j]? = some 0) (hid : 50 * q + j = id) (hjN : j < N) (hl : Cond.fieldLink own index (T j).1 (T j).2.1 (T j).2.2.1 ∈ Ts)
    (hfin : (T j).2.2.2 = false ∨ ((T j).2.2.2 = true ∧ meth.name = "<init>" ∧ (T j).1 = own)) {ty : FieldType} (hd : parseFieldDescriptor (T j).2.2.1 = some ty) (hn : narrow ty (.int v) = .int v) (hfit : fits ty (.int v) = true) (hdg : decode cc pc = .ok (.putfield index, 3))
    (kk : ∀ (H1 : Heap) (locs1 : List Loc), kw_W G A nu (sI x id a v) H1 → va_S A H0 H1 locs1 → W p l e R s m args below meth c H1 locs1 cells slots Q (F0 m (pc + 3) ls rest)) : W p l e R s m args below meth c H locs cells slots Q (F0 m pc ls (.int v :: .ref a :: rest)) :=
  kw_put (x := x) (y := sI x id a v) S hK hW hS0 ha j id 0 hc hin ty0 hty hnm hq hj hid hjN hl (fun _ h => h) hfin hd hn hfit hdg (fun i h => by simp [kI_sI, h]) (fun _ _ => rfl) (fun _ _ => rfl) (by simp [kw_fv, kI_sI]) (fun b r h => kw_ne_sI r h) kk
theorem kw_putJ (S : CallFix p m c cc nL s args Ts own) (hK : va_K G.1 vwCl (kw_ty G) s) (hW : kw_W G A nu x H) (hS0 : va_S A H0 H locs) (ha : nu a = some q) (j id : Nat) {v : Int64} {C : String} {T : u_T} {N index : Nat} (hc : vwCl[q]? = some (C, T, N)) (hin : ∀ w ∈ u_ws C T N, w ∈ Ts) (ty0 : Nat → FieldType) (hty : ∀ k, k < N → parseFieldDescriptor (T k).2.2.1 = some (ty0 k)) (hnm : ∀ a, a < N → ∀ b, b < N → a ≠ b → (T a).2.1 ≠ (T b).2.1) (hq : q < 7) (hj : (kw_fl q)[j]? = some 1) (hid : 50 * q + j = id) (hjN : j < N) (hl : Cond.fieldLink own index (T j).1 (T j).2.1 (T j).2.2.1 ∈ Ts)
    (hfin : (T j).2.2.2 = false ∨ ((T j).2.2.2 = true ∧ meth.name = "<init>" ∧ (T j).1 = own)) {ty : FieldType} (hd : parseFieldDescriptor (T j).2.2.1 = some ty) (hn : narrow ty (.long v) = .long v) (hfit : fits ty (.long v) = true) (hdg : decode cc pc = .ok (.putfield index, 3))
    (kk : ∀ (H1 : Heap) (locs1 : List Loc), kw_W G A nu (sJ x id a v) H1 → va_S A H0 H1 locs1 → W p l e R s m args below meth c H1 locs1 cells slots Q (F0 m (pc + 3) ls rest)) : W p l e R s m args below meth c H locs cells slots Q (F0 m pc ls (.long v :: .ref a :: rest)) :=
  kw_put (x := x) (y := sJ x id a v) S hK hW hS0 ha j id 1 hc hin ty0 hty hnm hq hj hid hjN hl (fun _ h => h) hfin hd hn hfit hdg (fun _ _ => rfl) (fun i h => by simp [kJ_sJ, h]) (fun _ _ => rfl) (by simp [kw_fv, kJ_sJ]) (fun b r h => kw_ne_sJ r h) kk
theorem kw_putR (S : CallFix p m c cc nL s args Ts own) (hK : va_K G.1 vwCl (kw_ty G) s) (hW : kw_W G A nu x H) (hS0 : va_S A H0 H locs) (ha : nu a = some q) (j id : Nat) {v : Option Nat} {w : Value} (hw : va_rf v = w) {C : String} {T : u_T} {N index : Nat} (hc : vwCl[q]? = some (C, T, N)) (hin : ∀ w ∈ u_ws C T N, w ∈ Ts) (ty0 : Nat → FieldType) (hty : ∀ k, k < N → parseFieldDescriptor (T k).2.2.1 = some (ty0 k)) (hnm : ∀ a, a < N → ∀ b, b < N → a ≠ b → (T a).2.1 ≠ (T b).2.1) (hq : q < 7) (hj : (kw_fl q)[j]? = some 2) (hid : 50 * q + j = id) (hjN : j < N) (hl : Cond.fieldLink own index (T j).1 (T j).2.1 (T j).2.2.1 ∈ Ts)
    (hfin : (T j).2.2.2 = false ∨ ((T j).2.2.2 = true ∧ meth.name = "<init>" ∧ (T j).1 = own)) {ty : FieldType} (hd : parseFieldDescriptor (T j).2.2.1 = some ty) (hn : narrow ty w = w) (hfit : fits ty w = true) (hdg : decode cc pc = .ok (.putfield index, 3))
    (kk : ∀ (H1 : Heap) (locs1 : List Loc), kw_W G A nu (sR x id a v) H1 → va_S A H0 H1 locs1 → W p l e R s m args below meth c H1 locs1 cells slots Q (F0 m (pc + 3) ls rest)) : W p l e R s m args below meth c H locs cells slots Q (F0 m pc ls (w :: .ref a :: rest)) :=
  kw_put (x := x) (y := sR x id a v) S hK hW hS0 ha j id 2 hc hin ty0 hty hnm hq hj hid hjN hl (fun _ h => h) hfin hd hn hfit hdg (fun _ _ => rfl) (fun _ _ => rfl) (fun i h => by simp [kR_sR, h]) (by simp [kw_fv, kR_sR, hw]) (fun b r h => kw_ne_sR r h) kk
end KWR
