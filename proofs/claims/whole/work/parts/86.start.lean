/-! the law's start: what is known of classes, and of the list's empty array -/
theorem lw_len0 {args : Array Value} {s : State} {C n d : String} {a : Nat} {cell : Cell} (h : (Cond.eq (.length (.static C n d)) (.int 0)).before args s = true) (hv : (Term.static C n d).eval args s none [] s = some (.ref a)) (hc : s.heap[a]? = some cell) : cell.slots.size.toInt32 = 0 := by
  cases hw : (Term.length (.static C n d)).eval args s none [] s with
  | none => simp [Cond.before, Cond.holds, Cond.value, hw] at h
  | some w =>
    obtain ⟨a2, cell2, h1, h2, h3⟩ := Term.length_spec hw
    rw [hv] at h1
    cases h1
    have h4 := (State.arrayAt?_spec h2).1
    rw [hc] at h4
    cases h4
    subst h3
    have hz : (Term.int 0).eval args s none [] s = some (.int 0) := rfl
    simp only [Cond.before, Cond.holds, Cond.value, hw, hz] at h
    simpa using h
theorem lw_iX4 : ∀ w ∈ wsX40, w ∈ wsL_law := fun w hw => by
  unfold wsL_law
  exact List.mem_append_left _ (List.mem_append_left _ (List.mem_append_left _ (List.mem_append_left _ (List.mem_append_left _ (List.mem_append_left _ (List.mem_append_left _ (List.mem_append_right _ hw)))))))
theorem lw_iX5 : ∀ w ∈ wsX50, w ∈ wsL_law := fun w hw => by
  unfold wsL_law
  exact List.mem_append_left _ (List.mem_append_left _ (List.mem_append_left _ (List.mem_append_left _ (List.mem_append_left _ (List.mem_append_left _ (List.mem_append_right _ hw))))))
set_option maxHeartbeats 2000000 in
set_option maxRecDepth 100000 in
theorem law_G {s : State} {b : Nat} (hts : ∀ w ∈ lw_tbl, w.before #[Value.ref b] s = true) (hgv : (Jvm.Cond.and given_1 narrow_1).before #[Value.ref b] s = true) : ∃ G : kw_G, kw_K G s ∧ kw_Z G (fun q => s.heap.size ≤ q) s s.heap ∧ ∃ cell : Cell, s.heap[G.2.2.1]? = some cell ∧ cell.cls = G.2.1.2.2.2 ∧ cell.slots.size.toInt32 = 0 ∧ cell.vm ≠ .unknown ∧ ∀ k, cell.vm ≠ .statics k := by
  have hs := flat_of_before _ hgv
  obtain ⟨c0, i0, k0⟩ := u_known (C := RJx4a65c) (T := TJx4a65c) (N := 3) (n := 3) hts wsL_in_wsJx4a65c0 (hts (.instantiable RJx4a65c 3) (by decide +kernel))
  obtain ⟨c1, i1, k1⟩ := u_known (C := RX0) (T := TX0) (N := 3) (n := 3) hts wsL_in_wsX00 (hts (.instantiable RX0 3) (by decide +kernel))
  obtain ⟨c2, i2, k2⟩ := u_known (C := RX1) (T := TX1) (N := 6) (n := 6) hts wsL_in_wsX10 (hts (.instantiable RX1 6) (by decide +kernel))
  obtain ⟨c3, i3, k3⟩ := u_known (C := RX2) (T := TX2) (N := 18) (n := 18) hts wsL_in_wsX20 (hts (.instantiable RX2 18) (by decide +kernel))
  obtain ⟨c4, i4, k4⟩ := u_known (C := RX3) (T := TX3) (N := 9) (n := 9) hts wsL_in_wsX30 (hts (.instantiable RX3 9) (by decide +kernel))
  obtain ⟨c5, i5, k5⟩ := u_known (C := RX4) (T := TX4) (N := 9) (n := 9) hts wsL_in_wsX40 (hts (.instantiable RX4 9) (by decide +kernel))
  obtain ⟨c6, i6, k6⟩ := u_known (C := RX5) (T := TX5) (N := 42) (n := 42) hts wsL_in_wsX50 (hts (.instantiable RX5 42) (by decide +kernel))
  obtain ⟨cI, kI9, pI, a1, a2, a3⟩ := Cond.arrayClass_spec (hts (.arrayClass .int) (by decide +kernel))
  obtain ⟨cJ, kJ9, pJ, b1, b2, b3⟩ := Cond.arrayClass_spec (hts (.arrayClass .long) (by decide +kernel))
  obtain ⟨cZ, kZ9, pZ, d1, d2, d3⟩ := Cond.arrayClass_spec (hts (.arrayClass .boolean) (by decide +kernel))
  have hao := hts (.arrayOver (.object "java/lang/Object")) (by decide +kernel)
  obtain ⟨pO, cO, kO9, o1, -, o3, o4, o5⟩ := Cond.arrayOver_spec hao
  obtain ⟨mi, hmi⟩ := va_Mi.of (hs (.isRef (.mirror "[Ljava/lang/Object;")) (by decide +kernel))
  obtain ⟨e0, cE, cell, kE9, f1, f2, f3, f4, f5, f6, -⟩ := Cond.exactly_spec (hs (.exactly (.static "java/util/ArrayList" "DEFAULTCAPACITY_EMPTY_ELEMENTDATA" "[Ljava/lang/Object;") "[Ljava/lang/Object;") (by decide +kernel))
  have hlen := lw_len0 (hs (.eq (.length (.static "java/util/ArrayList" "DEFAULTCAPACITY_EMPTY_ELEMENTDATA" "[Ljava/lang/Object;")) (.int 0)) (by decide +kernel)) f1 f3
  obtain ⟨g1, g2⟩ := Cond.arrayOf_spec (hs (.arrayOf (.static "java/util/ArrayList" "DEFAULTCAPACITY_EMPTY_ELEMENTDATA" "[Ljava/lang/Object;") (.object "java/lang/Object")) (by decide +kernel)) f1 f3
  have hcE : cE = cO := Option.some.inj (f2.symm.trans o5)
  refine ⟨((fun k => if k = 0 then c0 else if k = 1 then c1 else if k = 2 then c2 else if k = 3 then c3 else if k = 4 then c4 else if k = 5 then c5 else c6, fun k => if k = 0 then i0 else if k = 1 then i1 else if k = 2 then i2 else if k = 3 then i3 else if k = 4 then i4 else if k = 5 then i5 else i6), (cI, cJ, cZ, cO), (e0, mi)), ⟨⟨?_, ?_⟩, va_AO.of hao, hmi, va_Dc.of (hts _ (by decide +kernel)), va_Nw.of rfl (hts (.castable RX1 "java/lang/Object") (by decide +kernel)), va_Nw.of rfl (hts (.castable RX2 "java/lang/Object") (by decide +kernel)), va_Nw.of rfl (hts (.castable RX3 "java/lang/Object") (by decide +kernel))⟩, va_Zof (hts (.laysStatic "java/util/ArrayList" "DEFAULTCAPACITY_EMPTY_ELEMENTDATA" "[Ljava/lang/Object;") (by decide +kernel)) (hts (.initialized "java/util/ArrayList") (by decide +kernel)) f1 (fun a h1 h2 => Nat.not_le.mpr h1 h2), cell, f3, f6.trans hcE, hlen, g2, g1.1⟩
  · intro k q hq
    match k, hq with
    | 0, hq => cases hq; exact k0
    | 1, hq => cases hq; exact k1
    | 2, hq => cases hq; exact k2
    | 3, hq => cases hq; exact k3
    | 4, hq => cases hq; exact k4
    | 5, hq => cases hq; exact k5
    | 6, hq => cases hq; exact k6
    | k + 7, hq => simp at hq
  · intro k q hq
    match k, hq with
    | 0, hq => cases hq; exact ⟨fun _ _ => ⟨fun k h => (by cases h), kI9, a2, pI, a3⟩, a1⟩
    | 1, hq => cases hq; exact ⟨fun _ _ => ⟨fun k h => (by cases h), kJ9, b2, pJ, b3⟩, b1⟩
    | 2, hq => cases hq; exact ⟨fun _ _ => ⟨fun k h => (by cases h), kZ9, d2, pZ, d3⟩, d1⟩
    | 3, hq => cases hq; exact ⟨fun _ _ => ⟨fun k h => (by cases h), kO9, o3, pO, o4⟩, kO9, pO, o3, o4, o1, o5⟩
    | k + 4, hq => simp at hq
