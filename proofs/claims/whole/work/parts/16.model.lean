/-! THE REFERENCE: its object at mo, its rows at 'ma j', j the field's number; what they hold, as one value t: (int fields, linkMark, rows of ints and truth values, rows of longs) -/
abbrev mo_T : Type := (Nat → Int32) × Int64 × (Nat → Nat → Int32) × (Nat → Nat → Int64)
abbrev tF (t : mo_T) (j : Nat) : Int32 := t.1 j
abbrev tL (t : mo_T) : Int64 := t.2.1
abbrev tA (t : mo_T) (j k : Nat) : Int32 := t.2.2.1 j k
abbrev tB (t : mo_T) (j k : Nat) : Int64 := t.2.2.2 j k
def uF (t : mo_T) (j : Nat) (v : Int32) : mo_T := (fun i => if i = j then v else t.1 i, t.2)
def uL (t : mo_T) (v : Int64) : mo_T := (t.1, v, t.2.2)
def uA (t : mo_T) (j k : Nat) (v : Int32) : mo_T := (t.1, t.2.1, fun i => if i = j then upd (t.2.2.1 i) k v else t.2.2.1 i, t.2.2.2)
def uB (t : mo_T) (j k : Nat) (v : Int64) : mo_T := (t.1, t.2.1, t.2.2.1, fun i => if i = j then vp_updL (t.2.2.2 i) k v else t.2.2.2 i)
theorem tF_uF (t : mo_T) (j : Nat) (v : Int32) (i : Nat) : tF (uF t j v) i = if i = j then v else tF t i := rfl
theorem tF_uL (t : mo_T) (v : Int64) (i : Nat) : tF (uL t v) i = tF t i := rfl
theorem tF_uA (t : mo_T) (j k : Nat) (v : Int32) (i : Nat) : tF (uA t j k v) i = tF t i := rfl
theorem tF_uB (t : mo_T) (j k : Nat) (v : Int64) (i : Nat) : tF (uB t j k v) i = tF t i := rfl
theorem tL_uF (t : mo_T) (j : Nat) (v : Int32) : tL (uF t j v) = tL t := rfl
theorem tL_uL (t : mo_T) (v : Int64) : tL (uL t v) = v := rfl
theorem tL_uA (t : mo_T) (j k : Nat) (v : Int32) : tL (uA t j k v) = tL t := rfl
theorem tL_uB (t : mo_T) (j k : Nat) (v : Int64) : tL (uB t j k v) = tL t := rfl
theorem tA_uF (t : mo_T) (j : Nat) (v : Int32) (i r : Nat) : tA (uF t j v) i r = tA t i r := rfl
theorem tA_uL (t : mo_T) (v : Int64) (i r : Nat) : tA (uL t v) i r = tA t i r := rfl
theorem tA_uA (t : mo_T) (j k : Nat) (v : Int32) (i r : Nat) : tA (uA t j k v) i r = if i = j then (if r = k then v else tA t i r) else tA t i r := by
  by_cases h : i = j
  · simp [uA, tA, upd, h]
  · simp [uA, tA, h]
theorem tA_uB (t : mo_T) (j k : Nat) (v : Int64) (i r : Nat) : tA (uB t j k v) i r = tA t i r := rfl
theorem tB_uF (t : mo_T) (j : Nat) (v : Int32) (i r : Nat) : tB (uF t j v) i r = tB t i r := rfl
theorem tB_uL (t : mo_T) (v : Int64) (i r : Nat) : tB (uL t v) i r = tB t i r := rfl
theorem tB_uA (t : mo_T) (j k : Nat) (v : Int32) (i r : Nat) : tB (uA t j k v) i r = tB t i r := rfl
theorem tB_uB (t : mo_T) (j k : Nat) (v : Int64) (i r : Nat) : tB (uB t j k v) i r = if i = j then (if r = k then v else tB t i r) else tB t i r := by
  by_cases h : i = j
  · simp [uB, tB, vp_updL, h]
  · simp [uB, tB, h]
/-- kind and length of a row -/
def mk (j : Nat) : Nat := if j = 10 ∨ j = 11 ∨ j = 27 ∨ j = 32 then 8 else if j = 28 ∨ j = 29 ∨ j = 41 then 9 else 7
def ml (j : Nat) : Nat := if j ≤ 11 then 4 else if j ≤ 29 then 8 else if j ≤ 32 then 20 else 1000
/-- the fields that are rows -/
abbrev mR (j : Nat) : Prop := 9 ≤ j ∧ j < 42 ∧ j ≠ 12
def mS (nu : Nat → Option Nat) (x : kw_St) (mo : Nat) (ma : Nat → Nat) : Prop := nu mo = some 6 ∧ (∀ j, 9 ≤ j → j < 42 → j ≠ 12 → kR x (300 + j) mo = some (ma j) ∧ nu (ma j) = some (mk j) ∧ kN x (ma j) = ml j) ∧ (∀ i j, mR i → mR j → ma i = ma j → i = j) ∧ (∀ j, mR j → ma j ≠ mo)
def mV (x : kw_St) (mo : Nat) (ma : Nat → Nat) : mo_T := (fun j => kI x (300 + j) mo, kJ x 312 mo, fun j => if mR j then kA x (ma j) else fun _ => 0, fun j => if mR j then kB x (ma j) else fun _ => 0)
/-- the tables of two states say the same of the cell at b -/
def kw_ag (b : Nat) (x y : kw_St) : Prop := (∀ i, kI y i b = kI x i b) ∧ (∀ i, kJ y i b = kJ x i b) ∧ (∀ i, kR y i b = kR x i b) ∧ kA y b = kA x b ∧ kB y b = kB x b ∧ kC y b = kC x b ∧ kN y b = kN x b
def mw (nu : Nat → Option Nat) (z : kw_St) (mo : Nat) (ma : Nat → Nat) (t : mo_T) (x : kw_St) : Prop := mS nu x mo ma ∧ mV x mo ma = t ∧ ∀ b, b ≠ mo → (∀ j, mR j → b ≠ ma j) → kw_ag b z x
theorem mw.to {nu : Nat → Option Nat} {z x : kw_St} {mo : Nat} {ma : Nat → Nat} {t t2 : mo_T} (h : mw nu z mo ma t x) (e : t = t2) : mw nu z mo ma t2 x := e ▸ h
theorem kw_ag.sI {b id a : Nat} {z x : kw_St} {v : Int32} (h : kw_ag b z x) (hb : b ≠ a) : kw_ag b z (sI x id a v) := ⟨fun i => by rw [kI_sI, if_neg (fun q => hb q.2)]; exact h.1 i, h.2.1, h.2.2.1, h.2.2.2.1, h.2.2.2.2.1, h.2.2.2.2.2.1, h.2.2.2.2.2.2⟩
theorem kw_ag.sJ {b id a : Nat} {z x : kw_St} {v : Int64} (h : kw_ag b z x) (hb : b ≠ a) : kw_ag b z (sJ x id a v) := ⟨h.1, fun i => by rw [kJ_sJ, if_neg (fun q => hb q.2)]; exact h.2.1 i, h.2.2.1, h.2.2.2.1, h.2.2.2.2.1, h.2.2.2.2.2.1, h.2.2.2.2.2.2⟩
theorem kw_ag.sA {b k a : Nat} {z x : kw_St} {v : Int32} (h : kw_ag b z x) (hb : b ≠ a) : kw_ag b z (sA x a k v) := ⟨h.1, h.2.1, h.2.2.1, by rw [kA_sA, if_neg hb]; exact h.2.2.2.1, h.2.2.2.2.1, h.2.2.2.2.2.1, h.2.2.2.2.2.2⟩
theorem kw_ag.sB {b k a : Nat} {z x : kw_St} {v : Int64} (h : kw_ag b z x) (hb : b ≠ a) : kw_ag b z (sB x a k v) := ⟨h.1, h.2.1, h.2.2.1, h.2.2.2.1, by rw [kB_sB, if_neg hb]; exact h.2.2.2.2.1, h.2.2.2.2.2.1, h.2.2.2.2.2.2⟩
theorem mw.pF {nu : Nat → Option Nat} {z x : kw_St} {mo : Nat} {ma : Nat → Nat} {t : mo_T} (h : mw nu z mo ma t x) (j : Nat) (v : Int32) : mw nu z mo ma (uF t j v) (sI x (300 + j) mo v) := by
  obtain ⟨⟨h1, h2, h3, h4⟩, h5, h6⟩ := h
  refine ⟨⟨h1, h2, h3, h4⟩, ?_, fun b hb hj => (h6 b hb hj).sI hb⟩
  subst h5
  refine Prod.ext (funext fun i => ?_) rfl
  show kI (sI x (300 + j) mo v) (300 + i) mo = if i = j then v else kI x (300 + i) mo
  rw [kI_sI]
  by_cases e : i = j
  · simp [e]
  · rw [if_neg (fun q => e (by omega)), if_neg e]
theorem mw.pL {nu : Nat → Option Nat} {z x : kw_St} {mo : Nat} {ma : Nat → Nat} {t : mo_T} (h : mw nu z mo ma t x) (v : Int64) : mw nu z mo ma (uL t v) (sJ x 312 mo v) := by
  obtain ⟨⟨h1, h2, h3, h4⟩, h5, h6⟩ := h
  refine ⟨⟨h1, h2, h3, h4⟩, ?_, fun b hb hj => (h6 b hb hj).sJ hb⟩
  subst h5
  refine Prod.ext rfl (Prod.ext ?_ rfl)
  show kJ (sJ x 312 mo v) 312 mo = v
  simp [kJ_sJ]
theorem mw.pA {nu : Nat → Option Nat} {z x : kw_St} {mo : Nat} {ma : Nat → Nat} {t : mo_T} (h : mw nu z mo ma t x) {j : Nat} (hR : mR j) (k : Nat) (v : Int32) : mw nu z mo ma (uA t j k v) (sA x (ma j) k v) := by
  obtain ⟨⟨h1, h2, h3, h4⟩, h5, h6⟩ := h
  refine ⟨⟨h1, h2, h3, h4⟩, ?_, fun b hb hj => (h6 b hb hj).sA (hj j hR)⟩
  subst h5
  refine Prod.ext rfl (Prod.ext rfl (Prod.ext (funext fun i => ?_) rfl))
  show (if mR i then kA (sA x (ma j) k v) (ma i) else fun _ => 0) = if i = j then upd (if mR i then kA x (ma i) else fun _ => 0) k v else (if mR i then kA x (ma i) else fun _ => 0)
  by_cases e : i = j
  · subst e
    rw [if_pos hR, if_pos rfl, if_pos hR, kA_sA, if_pos rfl]
  · rw [if_neg e]
    by_cases hi : mR i
    · rw [if_pos hi, if_pos hi, kA_sA, if_neg (fun q => e (h3 i j hi hR q))]
    · rw [if_neg hi, if_neg hi]
theorem mw.pB {nu : Nat → Option Nat} {z x : kw_St} {mo : Nat} {ma : Nat → Nat} {t : mo_T} (h : mw nu z mo ma t x) {j : Nat} (hR : mR j) (k : Nat) (v : Int64) : mw nu z mo ma (uB t j k v) (sB x (ma j) k v) := by
  obtain ⟨⟨h1, h2, h3, h4⟩, h5, h6⟩ := h
  refine ⟨⟨h1, h2, h3, h4⟩, ?_, fun b hb hj => (h6 b hb hj).sB (hj j hR)⟩
  subst h5
  refine Prod.ext rfl (Prod.ext rfl (Prod.ext rfl (funext fun i => ?_)))
  show (if mR i then kB (sB x (ma j) k v) (ma i) else fun _ => 0) = if i = j then vp_updL (if mR i then kB x (ma i) else fun _ => 0) k v else (if mR i then kB x (ma i) else fun _ => 0)
  by_cases e : i = j
  · subst e
    rw [if_pos hR, if_pos rfl, if_pos hR, kB_sB, if_pos rfl]
  · rw [if_neg e]
    by_cases hi : mR i
    · rw [if_pos hi, if_pos hi, kB_sB, if_neg (fun q => e (h3 i j hi hR q))]
    · rw [if_neg hi, if_neg hi]
theorem mw.rA {nu : Nat → Option Nat} {z x : kw_St} {mo : Nat} {ma : Nat → Nat} {t : mo_T} (h : mw nu z mo ma t x) {j : Nat} (hR : mR j) (k : Nat) : kA x (ma j) k = tA t j k := by
  rw [← h.2.1]
  show _ = (if mR j then kA x (ma j) else fun _ => 0) k
  rw [if_pos hR]
theorem mw.rB {nu : Nat → Option Nat} {z x : kw_St} {mo : Nat} {ma : Nat → Nat} {t : mo_T} (h : mw nu z mo ma t x) {j : Nat} (hR : mR j) (k : Nat) : kB x (ma j) k = tB t j k := by
  rw [← h.2.1]
  show _ = (if mR j then kB x (ma j) else fun _ => 0) k
  rw [if_pos hR]
theorem kw_ixof {i : Int32} {k n : Nat} (e : i = nI k) (h : k < n) (hn : n < 2 ^ 31) : kw_ix i k n := e ▸ kw_ix.nI h hn
theorem ml_lt (j : Nat) : ml j < 2 ^ 31 := by unfold ml; repeat' split <;> try omega
section MWR
variable {p : Program} {l : Launch} {e : Env} {R : Room} {s : State} {m : MethodId} {args : Array Value} {below : List Frame} {meth : Method} {c : Code} {H : Heap} {locs : List Loc} {cells slots : Nat} {Q : State → Prop}
variable {cc : ByteArray} {pc nL : Nat} {ls : Array Slot} {rest : List Value} {G : kw_G} {A : Nat → Prop} {nu : Nat → Option Nat} {x z : kw_St} {mo : Nat} {ma : Nat → Nat} {t : mo_T} {H0 : Heap} {Ts : List Cond} {own : String}
theorem mx_gI (S : CallFix p m c cc nL s args Ts own) (hK : kw_K G s) (hm : mw nu z mo ma t x) (hW : kw_W G A nu x H) (j : Nat) {index : Nat} (hin : ∀ w ∈ u_ws RX5 TX5 42, w ∈ Ts) (hj : (kw_fl 6)[j]? = some 0) (hjN : j < 42) (hl : Cond.fieldLink own index (TX5 j).1 (TX5 j).2.1 (TX5 j).2.2.1 ∈ Ts) (hdg : decode cc pc = .ok (.getfield index, 3)) {v : Int32} (hv : tF t j = v)
    (kk : W p l e R s m args below meth c H locs cells slots Q (F0 m (pc + 3) ls (.int v :: rest))) : W p l e R s m args below meth c H locs cells slots Q (F0 m pc ls (.ref mo :: rest)) :=
  kx_gI S hK hW hm.1.1 j (300 + j) rfl hin (by decide) hj rfl hjN hl hdg (by rw [← hv, ← hm.2.1]; rfl) kk
theorem mx_gJ (S : CallFix p m c cc nL s args Ts own) (hK : kw_K G s) (hm : mw nu z mo ma t x) (hW : kw_W G A nu x H) {index : Nat} (hin : ∀ w ∈ u_ws RX5 TX5 42, w ∈ Ts) (hl : Cond.fieldLink own index (TX5 12).1 (TX5 12).2.1 (TX5 12).2.2.1 ∈ Ts) (hdg : decode cc pc = .ok (.getfield index, 3)) {v : Int64} (hv : tL t = v)
    (kk : W p l e R s m args below meth c H locs cells slots Q (F0 m (pc + 3) ls (.long v :: rest))) : W p l e R s m args below meth c H locs cells slots Q (F0 m pc ls (.ref mo :: rest)) :=
  kx_gJ S hK hW hm.1.1 12 312 rfl hin (by decide) rfl rfl (by decide) hl hdg (by rw [← hv, ← hm.2.1]; rfl) kk
theorem mx_gA (S : CallFix p m c cc nL s args Ts own) (hK : kw_K G s) (hm : mw nu z mo ma t x) (hW : kw_W G A nu x H) (j : Nat) {index : Nat} (hin : ∀ w ∈ u_ws RX5 TX5 42, w ∈ Ts) (hj : (kw_fl 6)[j]? = some 2) (hjN : j < 42) (h9 : 9 ≤ j ∧ j ≠ 12) (hl : Cond.fieldLink own index (TX5 j).1 (TX5 j).2.1 (TX5 j).2.2.1 ∈ Ts) (hdg : decode cc pc = .ok (.getfield index, 3))
    (kk : W p l e R s m args below meth c H locs cells slots Q (F0 m (pc + 3) ls (.ref (ma j) :: rest))) : W p l e R s m args below meth c H locs cells slots Q (F0 m pc ls (.ref mo :: rest)) :=
  kx_gA S hK hW hm.1.1 j (300 + j) rfl hin (by decide) hj rfl hjN hl hdg (hm.1.2.1 j h9.1 hjN h9.2).1 kk
theorem mx_pI (S : CallFix p m c cc nL s args Ts own) (hK : kw_K G s) (hm : mw nu z mo ma t x) (hW : kw_W G A nu x H) (hS : va_S A H0 H locs) (j : Nat) {v : Int32} {index : Nat} (hin : ∀ w ∈ u_ws RX5 TX5 42, w ∈ Ts) (hj : (kw_fl 6)[j]? = some 0) (hjN : j < 42) (hl : Cond.fieldLink own index (TX5 j).1 (TX5 j).2.1 (TX5 j).2.2.1 ∈ Ts) (hfin : (TX5 j).2.2.2 = false) (hd : parseFieldDescriptor (TX5 j).2.2.1 = some .int) (hdg : decode cc pc = .ok (.putfield index, 3))
    (kk : ∀ (x1 : kw_St) (H1 : Heap) (locs1 : List Loc), mw nu z mo ma (uF t j v) x1 → kw_W G A nu x1 H1 → va_S A H0 H1 locs1 → W p l e R s m args below meth c H1 locs1 cells slots Q (F0 m (pc + 3) ls rest)) : W p l e R s m args below meth c H locs cells slots Q (F0 m pc ls (.int v :: .ref mo :: rest)) :=
  kx_pI S hK hW hS hm.1.1 j (300 + j) rfl hin tyX5_ok nmX5 (by decide) hj rfl hjN hl (Or.inl hfin) hd hdg (fun H1 locs1 hW1 hS1 => kk _ H1 locs1 (hm.pF j v) hW1 hS1)
theorem mx_pJ (S : CallFix p m c cc nL s args Ts own) (hK : kw_K G s) (hm : mw nu z mo ma t x) (hW : kw_W G A nu x H) (hS : va_S A H0 H locs) {v : Int64} {index : Nat} (hin : ∀ w ∈ u_ws RX5 TX5 42, w ∈ Ts) (hl : Cond.fieldLink own index (TX5 12).1 (TX5 12).2.1 (TX5 12).2.2.1 ∈ Ts) (hdg : decode cc pc = .ok (.putfield index, 3))
    (kk : ∀ (x1 : kw_St) (H1 : Heap) (locs1 : List Loc), mw nu z mo ma (uL t v) x1 → kw_W G A nu x1 H1 → va_S A H0 H1 locs1 → W p l e R s m args below meth c H1 locs1 cells slots Q (F0 m (pc + 3) ls rest)) : W p l e R s m args below meth c H locs cells slots Q (F0 m pc ls (.long v :: .ref mo :: rest)) :=
  kx_pJ S hK hW hS hm.1.1 12 312 rfl hin tyX5_ok nmX5 (by decide) rfl rfl (by decide) hl (Or.inl rfl) rfl hdg (fun H1 locs1 hW1 hS1 => kk _ H1 locs1 (hm.pL v) hW1 hS1)
theorem mx_ild (S : CallFix p m c cc nL s args Ts own) (hK : kw_K G s) (hm : mw nu z mo ma t x) (hW : kw_W G A nu x H) (j : Nat) (hj : 9 ≤ j ∧ j < 42 ∧ j ≠ 12 ∧ mk j = 7) {i : Int32} {k : Nat} (hi : kw_ix i k (ml j)) (hdg : decode cc pc = .ok (.iaload, 1)) {v : Int32} (hv : tA t j k = v)
    (kk : W p l e R s m args below meth c H locs cells slots Q (F0 m (pc + 1) ls (.int v :: rest))) : W p l e R s m args below meth c H locs cells slots Q (F0 m pc ls (.int i :: .ref (ma j) :: rest)) := by
  obtain ⟨h1, h2, h3⟩ := hm.1.2.1 j hj.1 hj.2.1 hj.2.2.1
  rw [hj.2.2.2] at h2
  exact kw_iald S hK hW h2 (h3 ▸ hi) hdg ((hm.rA ⟨hj.1, hj.2.1, hj.2.2.1⟩ k).trans hv) kk
theorem mx_zld (S : CallFix p m c cc nL s args Ts own) (hK : kw_K G s) (hm : mw nu z mo ma t x) (hW : kw_W G A nu x H) (j : Nat) (hj : 9 ≤ j ∧ j < 42 ∧ j ≠ 12 ∧ mk j = 9) {i : Int32} {k : Nat} (hi : kw_ix i k (ml j)) (hdg : decode cc pc = .ok (.baload, 1)) {v : Int32} (hv : tA t j k = v)
    (kk : W p l e R s m args below meth c H locs cells slots Q (F0 m (pc + 1) ls (.int v :: rest))) : W p l e R s m args below meth c H locs cells slots Q (F0 m pc ls (.int i :: .ref (ma j) :: rest)) := by
  obtain ⟨h1, h2, h3⟩ := hm.1.2.1 j hj.1 hj.2.1 hj.2.2.1
  rw [hj.2.2.2] at h2
  exact kw_zald S hK hW h2 (h3 ▸ hi) hdg ((hm.rA ⟨hj.1, hj.2.1, hj.2.2.1⟩ k).trans hv) kk
theorem mx_lld (S : CallFix p m c cc nL s args Ts own) (hK : kw_K G s) (hm : mw nu z mo ma t x) (hW : kw_W G A nu x H) (j : Nat) (hj : 9 ≤ j ∧ j < 42 ∧ j ≠ 12 ∧ mk j = 8) {i : Int32} {k : Nat} (hi : kw_ix i k (ml j)) (hdg : decode cc pc = .ok (.laload, 1)) {v : Int64} (hv : tB t j k = v)
    (kk : W p l e R s m args below meth c H locs cells slots Q (F0 m (pc + 1) ls (.long v :: rest))) : W p l e R s m args below meth c H locs cells slots Q (F0 m pc ls (.int i :: .ref (ma j) :: rest)) := by
  obtain ⟨h1, h2, h3⟩ := hm.1.2.1 j hj.1 hj.2.1 hj.2.2.1
  rw [hj.2.2.2] at h2
  exact kw_lald S hK hW h2 (h3 ▸ hi) hdg ((hm.rB ⟨hj.1, hj.2.1, hj.2.2.1⟩ k).trans hv) kk
theorem mx_ist (S : CallFix p m c cc nL s args Ts own) (hK : kw_K G s) (hm : mw nu z mo ma t x) (hW : kw_W G A nu x H) (hS : va_S A H0 H locs) (j : Nat) (hj : 9 ≤ j ∧ j < 42 ∧ j ≠ 12 ∧ mk j = 7) {i : Int32} {k : Nat} (hi : kw_ix i k (ml j)) (hdg : decode cc pc = .ok (.iastore, 1)) {v : Int32}
    (kk : ∀ (x1 : kw_St) (H1 : Heap) (locs1 : List Loc), mw nu z mo ma (uA t j k v) x1 → kw_W G A nu x1 H1 → va_S A H0 H1 locs1 → W p l e R s m args below meth c H1 locs1 cells slots Q (F0 m (pc + 1) ls rest)) : W p l e R s m args below meth c H locs cells slots Q (F0 m pc ls (.int v :: .int i :: .ref (ma j) :: rest)) := by
  obtain ⟨h1, h2, h3⟩ := hm.1.2.1 j hj.1 hj.2.1 hj.2.2.1
  rw [hj.2.2.2] at h2
  exact kw_iast S hK hW hS h2 (h3 ▸ hi) hdg (fun H1 locs1 hW1 hS1 => kk _ H1 locs1 (hm.pA ⟨hj.1, hj.2.1, hj.2.2.1⟩ k v) hW1 hS1)
theorem mx_zst (S : CallFix p m c cc nL s args Ts own) (hK : kw_K G s) (hm : mw nu z mo ma t x) (hW : kw_W G A nu x H) (hS : va_S A H0 H locs) (j : Nat) (hj : 9 ≤ j ∧ j < 42 ∧ j ≠ 12 ∧ mk j = 9) {i : Int32} {k : Nat} (hi : kw_ix i k (ml j)) (hdg : decode cc pc = .ok (.bastore, 1)) {v : Int32} (hv : v = 0 ∨ v = 1)
    (kk : ∀ (x1 : kw_St) (H1 : Heap) (locs1 : List Loc), mw nu z mo ma (uA t j k v) x1 → kw_W G A nu x1 H1 → va_S A H0 H1 locs1 → W p l e R s m args below meth c H1 locs1 cells slots Q (F0 m (pc + 1) ls rest)) : W p l e R s m args below meth c H locs cells slots Q (F0 m pc ls (.int v :: .int i :: .ref (ma j) :: rest)) := by
  obtain ⟨h1, h2, h3⟩ := hm.1.2.1 j hj.1 hj.2.1 hj.2.2.1
  rw [hj.2.2.2] at h2
  exact kw_zast S hK hW hS h2 (h3 ▸ hi) hdg (by rcases hv with rfl | rfl <;> rfl) (fun H1 locs1 hW1 hS1 => kk _ H1 locs1 (hm.pA ⟨hj.1, hj.2.1, hj.2.2.1⟩ k v) hW1 hS1)
theorem mx_lst (S : CallFix p m c cc nL s args Ts own) (hK : kw_K G s) (hm : mw nu z mo ma t x) (hW : kw_W G A nu x H) (hS : va_S A H0 H locs) (j : Nat) (hj : 9 ≤ j ∧ j < 42 ∧ j ≠ 12 ∧ mk j = 8) {i : Int32} {k : Nat} (hi : kw_ix i k (ml j)) (hdg : decode cc pc = .ok (.lastore, 1)) {v : Int64}
    (kk : ∀ (x1 : kw_St) (H1 : Heap) (locs1 : List Loc), mw nu z mo ma (uB t j k v) x1 → kw_W G A nu x1 H1 → va_S A H0 H1 locs1 → W p l e R s m args below meth c H1 locs1 cells slots Q (F0 m (pc + 1) ls rest)) : W p l e R s m args below meth c H locs cells slots Q (F0 m pc ls (.long v :: .int i :: .ref (ma j) :: rest)) := by
  obtain ⟨h1, h2, h3⟩ := hm.1.2.1 j hj.1 hj.2.1 hj.2.2.1
  rw [hj.2.2.2] at h2
  exact kw_last S hK hW hS h2 (h3 ▸ hi) hdg (fun H1 locs1 hW1 hS1 => kk _ H1 locs1 (hm.pB ⟨hj.1, hj.2.1, hj.2.2.1⟩ k v) hW1 hS1)
/-- a call of the reference's own method -/
theorem mx_cV {mc ms : Nat} (S : CallFix p m c cc nL s args Ts own) (hK : kw_K G s) (hZ : kw_Z G A s s.heap) (hA : ∀ r, s.heap.size ≤ r → A r) (hm : mw nu z mo ma t x) (hW : kw_W G A nu x H) (hS : va_S A s.heap H locs) {v0 : Option Value} {t0 : mo_T} {st1 : List Value} {As st0 : List Value} {y : MethodName} {ws : List Cond} {rm : Room} {bytes : ByteArray} {maxL n index : Nat} {ret : Option FieldType} (hM : kw_M l G y ws rm mc ms (.ref mo :: As) nu x (fun v nu' y => v = v0 ∧ nu' = nu ∧ mw nu z mo ma t0 y)) (cw : CallW R s args own RX5 index y bytes maxL ret ws rm mc ms n) (hn : As.length = n) (hsize : ls.size = nL) (hst : st0 = As.reverse ++ .ref mo :: rest) (hr : (rest.map fun v => v.category).sum ≤ 8) (hdg : decode cc pc = .ok (.invokevirtual index, 3)) (hf : cells + mc ≤ R.cells ∧ slots + ms ≤ R.slots) (hst1 : v0.toList ++ rest = st1)
    (kk : ∀ (x1 : kw_St) (H1 : Heap) (locs1 : List Loc), mw nu z mo ma t0 x1 → kw_W G A nu x1 H1 → va_S A s.heap H1 locs1 → W p l e R s m args below meth c H1 locs1 (cells + mc) (slots + ms) Q (F0 m (pc + 3) ls st1)) : W p l e R s m args below meth c H locs cells slots Q (F0 m pc ls st0) :=
  kw_callV S hK hZ hA hW hS hM cw hm.1.1 (by decide) rfl hn hsize hst hr hdg hf (fun v nu' y H1 locs1 hp hW hS => by obtain ⟨e1, e2, e3⟩ := hp; subst e1; rw [e2] at hW; rw [hst1]; exact kk y H1 locs1 e3 hW hS)
end MWR
