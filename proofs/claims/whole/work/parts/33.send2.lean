/-! the cells behind single stores, and behind a packet's leaving -/
section ZD
variable {G : kw_G} {nu : Nat → Option Nat} {z x : kw_St} {o : Nat} {e : kE} {t : mo_T} {k b p g : Nat} {q : List Nat}
theorem zC_161 (hC : zC o e t x) (hK : zK G nu o e t) (hk : k < eA e 6 1) (v : Int32) : zC o e (uA t 21 k v) (sI x 161 (eA e 1 k) v) := by
  refine ⟨hC.1, fun r hr => ?_, hC.2.2.1, hC.2.2.2.1, fun r hr => chX_to (e := e) (x := x) (fun _ _ => ⟨rfl, rfl⟩) (hC.2.2.2.2.1 r hr), hC.2.2.2.2.2⟩
  obtain ⟨a1, a2, a3, a4, a5, a6, a7, a8, a9, a10, a11, a12, a13, a14, a15, a16, a17, a18⟩ := hC.2.1 r hr
  refine ⟨a1, a2, a3, a4, a5, a6, a7, a8, a9, a10, a11, ?_, a13, a14, a15, a16, a17, a18⟩
  rw [kI_sI, tA_uA]
  have hi : eA e 1 r = eA e 1 k ↔ r = k := ⟨hK.2.2.2.2.2.2.2.2.2.1 r hr k hk, fun h => by rw [h]⟩
  simp [hi, a12]
theorem zC_162 (hC : zC o e t x) (hK : zK G nu o e t) (hk : k < eA e 6 1) (v : Int32) : zC o e (uA t 22 k v) (sI x 162 (eA e 1 k) v) := by
  refine ⟨hC.1, fun r hr => ?_, hC.2.2.1, hC.2.2.2.1, fun r hr => chX_to (e := e) (x := x) (fun _ _ => ⟨rfl, rfl⟩) (hC.2.2.2.2.1 r hr), hC.2.2.2.2.2⟩
  obtain ⟨a1, a2, a3, a4, a5, a6, a7, a8, a9, a10, a11, a12, a13, a14, a15, a16, a17, a18⟩ := hC.2.1 r hr
  refine ⟨a1, a2, a3, a4, a5, a6, a7, a8, a9, a10, a11, a12, ?_, a14, a15, a16, a17, a18⟩
  rw [kI_sI, tA_uA]
  have hi : eA e 1 r = eA e 1 k ↔ r = k := ⟨hK.2.2.2.2.2.2.2.2.2.1 r hr k hk, fun h => by rw [h]⟩
  simp [hi, a13]
theorem zC_163 (hC : zC o e t x) (hK : zK G nu o e t) (hk : k < eA e 6 1) (v : Int32) : zC o e (uA t 23 k v) (sI x 163 (eA e 1 k) v) := by
  refine ⟨hC.1, fun r hr => ?_, hC.2.2.1, hC.2.2.2.1, fun r hr => chX_to (e := e) (x := x) (fun _ _ => ⟨rfl, rfl⟩) (hC.2.2.2.2.1 r hr), hC.2.2.2.2.2⟩
  obtain ⟨a1, a2, a3, a4, a5, a6, a7, a8, a9, a10, a11, a12, a13, a14, a15, a16, a17, a18⟩ := hC.2.1 r hr
  refine ⟨a1, a2, a3, a4, a5, a6, a7, a8, a9, a10, a11, a12, a13, ?_, a15, a16, a17, a18⟩
  rw [kI_sI, tA_uA]
  have hi : eA e 1 r = eA e 1 k ↔ r = k := ⟨hK.2.2.2.2.2.2.2.2.2.1 r hr k hk, fun h => by rw [h]⟩
  simp [hi, a14]
theorem zC_164 (hC : zC o e t x) (hK : zK G nu o e t) (hk : k < eA e 6 1) (v : Int32) : zC o e (uA t 24 k v) (sI x 164 (eA e 1 k) v) := by
  refine ⟨hC.1, fun r hr => ?_, hC.2.2.1, hC.2.2.2.1, fun r hr => chX_to (e := e) (x := x) (fun _ _ => ⟨rfl, rfl⟩) (hC.2.2.2.2.1 r hr), hC.2.2.2.2.2⟩
  obtain ⟨a1, a2, a3, a4, a5, a6, a7, a8, a9, a10, a11, a12, a13, a14, a15, a16, a17, a18⟩ := hC.2.1 r hr
  refine ⟨a1, a2, a3, a4, a5, a6, a7, a8, a9, a10, a11, a12, a13, a14, ?_, a16, a17, a18⟩
  rw [kI_sI, tA_uA]
  have hi : eA e 1 r = eA e 1 k ↔ r = k := ⟨hK.2.2.2.2.2.2.2.2.2.1 r hr k hk, fun h => by rw [h]⟩
  simp [hi, a15]
theorem zC_165 (hC : zC o e t x) (hK : zK G nu o e t) (hk : k < eA e 6 1) (v : Int32) : zC o e (uA t 25 k v) (sI x 165 (eA e 1 k) v) := by
  refine ⟨hC.1, fun r hr => ?_, hC.2.2.1, hC.2.2.2.1, fun r hr => chX_to (e := e) (x := x) (fun _ _ => ⟨rfl, rfl⟩) (hC.2.2.2.2.1 r hr), hC.2.2.2.2.2⟩
  obtain ⟨a1, a2, a3, a4, a5, a6, a7, a8, a9, a10, a11, a12, a13, a14, a15, a16, a17, a18⟩ := hC.2.1 r hr
  refine ⟨a1, a2, a3, a4, a5, a6, a7, a8, a9, a10, a11, a12, a13, a14, a15, ?_, a17, a18⟩
  rw [kI_sI, tA_uA]
  have hi : eA e 1 r = eA e 1 k ↔ r = k := ⟨hK.2.2.2.2.2.2.2.2.2.1 r hr k hk, fun h => by rw [h]⟩
  simp [hi, a16]
theorem zC_166 (hC : zC o e t x) (hK : zK G nu o e t) (hk : k < eA e 6 1) (v : Int32) : zC o e (uA t 26 k v) (sI x 166 (eA e 1 k) v) := by
  refine ⟨hC.1, fun r hr => ?_, hC.2.2.1, hC.2.2.2.1, fun r hr => chX_to (e := e) (x := x) (fun _ _ => ⟨rfl, rfl⟩) (hC.2.2.2.2.1 r hr), hC.2.2.2.2.2⟩
  obtain ⟨a1, a2, a3, a4, a5, a6, a7, a8, a9, a10, a11, a12, a13, a14, a15, a16, a17, a18⟩ := hC.2.1 r hr
  refine ⟨a1, a2, a3, a4, a5, a6, a7, a8, a9, a10, a11, a12, a13, a14, a15, a16, ?_, a18⟩
  rw [kI_sI, tA_uA]
  have hi : eA e 1 r = eA e 1 k ↔ r = k := ⟨hK.2.2.2.2.2.2.2.2.2.1 r hr k hk, fun h => by rw [h]⟩
  simp [hi, a17]
theorem zC_167 (hC : zC o e t x) (hK : zK G nu o e t) (hk : k < eA e 6 1) (v : Int64) : zC o e (uB t 27 k v) (sJ x 167 (eA e 1 k) v) := by
  refine ⟨hC.1, fun r hr => ?_, hC.2.2.1, hC.2.2.2.1, fun r hr => chX_to (e := e) (x := x) (fun _ _ => ⟨rfl, rfl⟩) (hC.2.2.2.2.1 r hr), hC.2.2.2.2.2⟩
  obtain ⟨a1, a2, a3, a4, a5, a6, a7, a8, a9, a10, a11, a12, a13, a14, a15, a16, a17, a18⟩ := hC.2.1 r hr
  refine ⟨a1, a2, a3, a4, a5, a6, a7, a8, a9, a10, a11, a12, a13, a14, a15, a16, a17, ?_⟩
  rw [kJ_sJ, tB_uB]
  have hi : eA e 1 r = eA e 1 k ↔ r = k := ⟨hK.2.2.2.2.2.2.2.2.2.1 r hr k hk, fun h => by rw [h]⟩
  simp [hi, a18]
theorem zC_205 (hC : zC o e t x) (hK : zK G nu o e t) (hk : k < eA e 6 2) (v : Int32) : zC o e (uA t 36 k v) (sI x 205 (eA e 2 k) v) := by
  refine ⟨hC.1, hC.2.1, fun r hr => ?_, hC.2.2.2.1, fun r hr => chX_to (e := e) (x := x) (fun _ _ => ⟨rfl, rfl⟩) (hC.2.2.2.2.1 r hr), hC.2.2.2.2.2⟩
  obtain ⟨a1, a2, a3, a4, a5, a6, a7, a8⟩ := hC.2.2.1 r hr
  refine ⟨a1, a2, a3, a4, a5, ?_, a7, a8⟩
  rw [kI_sI, tA_uA]
  have hi : eA e 2 r = eA e 2 k ↔ r = k := ⟨hK.2.2.2.2.2.2.2.2.2.2.1 r hr k hk, fun h => by rw [h]⟩
  simp [hi, a6]
theorem zC_206 (hC : zC o e t x) (hK : zK G nu o e t) (hk : k < eA e 6 2) (v : Int32) : zC o e (uA t 37 k v) (sI x 206 (eA e 2 k) v) := by
  refine ⟨hC.1, hC.2.1, fun r hr => ?_, hC.2.2.2.1, fun r hr => chX_to (e := e) (x := x) (fun _ _ => ⟨rfl, rfl⟩) (hC.2.2.2.2.1 r hr), hC.2.2.2.2.2⟩
  obtain ⟨a1, a2, a3, a4, a5, a6, a7, a8⟩ := hC.2.2.1 r hr
  refine ⟨a1, a2, a3, a4, a5, a6, ?_, a8⟩
  rw [kI_sI, tA_uA]
  have hi : eA e 2 r = eA e 2 k ↔ r = k := ⟨hK.2.2.2.2.2.2.2.2.2.2.1 r hr k hk, fun h => by rw [h]⟩
  simp [hi, a7]
theorem zC_207 (hC : zC o e t x) (hK : zK G nu o e t) (hk : k < eA e 6 2) (v : Int32) : zC o e (uA t 38 k v) (sI x 207 (eA e 2 k) v) := by
  refine ⟨hC.1, hC.2.1, fun r hr => ?_, hC.2.2.2.1, fun r hr => chX_to (e := e) (x := x) (fun _ _ => ⟨rfl, rfl⟩) (hC.2.2.2.2.1 r hr), hC.2.2.2.2.2⟩
  obtain ⟨a1, a2, a3, a4, a5, a6, a7, a8⟩ := hC.2.2.1 r hr
  refine ⟨a1, a2, a3, a4, a5, a6, a7, ?_⟩
  rw [kI_sI, tA_uA]
  have hi : eA e 2 r = eA e 2 k ↔ r = k := ⟨hK.2.2.2.2.2.2.2.2.2.2.1 r hr k hk, fun h => by rw [h]⟩
  simp [hi, a8]
theorem zC_104 (hC : zC o e t x) (hK : zK G nu o e t) (hk : g < eA e 6 0) (v : Int64) : zC o e (uB t 10 g v) (sJ x 104 (eA e 0 g) v) := by
  refine ⟨fun r hr => ?_, hC.2.1, hC.2.2.1, hC.2.2.2.1, fun r hr => chX_to (e := e) (x := x) (fun _ _ => ⟨rfl, rfl⟩) (hC.2.2.2.2.1 r hr), hC.2.2.2.2.2⟩
  obtain ⟨a1, a2, a3, a4, a5, a6⟩ := hC.1 r hr
  refine ⟨a1, a2, a3, a4, ?_, a6⟩
  rw [kJ_sJ, tB_uB]
  have hi : eA e 0 r = eA e 0 g ↔ r = g := ⟨hK.2.2.2.2.2.2.2.2.1 r hr g hk, fun h => by rw [h]⟩
  simp [hi, a5]
theorem zC_105 (hC : zC o e t x) (hK : zK G nu o e t) (hk : g < eA e 6 0) (v : Int64) : zC o e (uB t 11 g v) (sJ x 105 (eA e 0 g) v) := by
  refine ⟨fun r hr => ?_, hC.2.1, hC.2.2.1, hC.2.2.2.1, fun r hr => chX_to (e := e) (x := x) (fun _ _ => ⟨rfl, rfl⟩) (hC.2.2.2.2.1 r hr), hC.2.2.2.2.2⟩
  obtain ⟨a1, a2, a3, a4, a5, a6⟩ := hC.1 r hr
  refine ⟨a1, a2, a3, a4, a5, ?_⟩
  rw [kJ_sJ, tB_uB]
  have hi : eA e 0 r = eA e 0 g ↔ r = g := ⟨hK.2.2.2.2.2.2.2.2.1 r hr g hk, fun h => by rw [h]⟩
  simp [hi, a6]
theorem zC_258 (hC : zC o e t x) (v : Int64) : zC o e (uL t v) (sJ x 258 o v) := by
  refine ⟨hC.1, hC.2.1, hC.2.2.1, hC.2.2.2.1, fun r hr => chX_to (e := e) (x := x) (fun _ _ => ⟨rfl, rfl⟩) (hC.2.2.2.2.1 r hr), ?_⟩
  have h := hC.2.2.2.2.2
  exact ⟨h.1, h.2.1, h.2.2.1, h.2.2.2.1, by rw [kJ_self]; rfl⟩
/-- when the link is free again -/
theorem zC_255 (hC : zC o e t x) {v : Int32} {n : Nat} (hv : v = nI n) : zC o (fA e 9 0 n) t (sI x 255 o v) := by
  refine ⟨hC.1, hC.2.1, hC.2.2.1, hC.2.2.2.1, fun r hr => chX_to (e := e) (x := x) (fun _ _ => ⟨rfl, rfl⟩) (hC.2.2.2.2.1 r hr), ?_⟩
  have h := hC.2.2.2.2.2
  exact ⟨h.1, by rw [kI_self]; exact hv, h.2.2.1, h.2.2.2.1, h.2.2.2.2⟩
theorem rem_I (x : kw_St) (a g b gb k : Nat) (u : Int32) (i c : Nat) : kI (q_rem x a g b gb k u) i c = if i = 103 ∧ c = g then kI x 103 g - 1 else if i = 160 ∧ c = a then kI x 160 a - kI x 202 k else if i = 159 ∧ c = a then kI x 159 a - 1 else if i = 205 ∧ c = k then u else kI x i c := by
  unfold q_rem
  split <;> simp [kI_sI, kI_sJ, kI_sR]
theorem rem_J (x : kw_St) (a g b gb k : Nat) (u : Int32) (i c : Nat) : kJ (q_rem x a g b gb k u) i c = if i = 52 ∧ c = gb then kJ x 52 gb - 1000 * (kI x 202 k).toInt64 else if i = 52 ∧ c = b then kJ x 52 b - 1000 * (kI x 202 k).toInt64 else kJ x i c := by
  unfold q_rem
  split <;> simp [kJ_sI, kJ_sJ, kJ_sR]
theorem rem_R (x : kw_St) (a g b gb k : Nat) (u : Int32) (i c : Nat) : kR (q_rem x a g b gb k u) i c = if i = 208 ∧ c = k then none else if i = 158 ∧ c = a ∧ kR x 208 k = none then none else if i = 157 ∧ c = a then kR x 208 k else kR x i c := by
  unfold q_rem
  split
  · rename_i h
    simp [kR_sI, kR_sJ, kR_sR, h]
  · rename_i h9 h
    simp [kR_sI, kR_sJ, kR_sR, h]
theorem rem_C (x : kw_St) (a g b gb k : Nat) (u : Int32) : kC (q_rem x a g b gb k u) = kC x ∧ kN (q_rem x a g b gb k u) = kN x := by
  unfold q_rem
  split <;> exact ⟨rfl, rfl⟩
theorem rem_ag (x : kw_St) {a g b gb k : Nat} {u : Int32} {c : Nat} (h1 : c ≠ a) (h2 : c ≠ g) (h3 : c ≠ b) (h4 : c ≠ gb) (h5 : c ≠ k) : kw_ag c x (q_rem x a g b gb k u) := by
  have hr : kw_ag c x x := ⟨fun _ => rfl, fun _ => rfl, fun _ => rfl, rfl, rfl, rfl, rfl⟩
  unfold q_rem
  split
  · exact ag_sJ (ag_sJ (ag_sI (ag_sI (ag_sI (ag_sI (ag_sR (ag_sR (ag_sR hr h1) h1) h5) h5) h1) h1) h2) h3) h4
  · exact ag_sJ (ag_sJ (ag_sI (ag_sI (ag_sI (ag_sI (ag_sR (ag_sR hr h1) h5) h5) h1) h1) h2) h3) h4
theorem zW_snd (hb : b < eA e 6 1) (hQ : eQ e b = p :: q) (r : Nat) : zW (z_snd e b p q) r + (if r = eA e 8 b then 1 else 0) = zW e r := by
  have h := zsum_up (f := fun k => if eA e 8 k = r then (eQ e k).length else 0) (g := fun k => if eA e 8 k = r then (eQ (z_snd e b p q) k).length else 0) hb (fun k _ hk => by rw [z_snd_Q, if_neg hk])
  simp only [z_snd_Q, if_true, hQ, List.length_cons] at h
  show zsum (fun k => if eA e 8 k = r then (eQ (z_snd e b p q) k).length else 0) (eA e 6 1) + _ = zsum _ (eA e 6 1)
  simp only [z_snd_Q]
  by_cases e1 : eA e 8 b = r
  · subst e1
    simp only [if_true] at h ⊢
    omega
  · have e2 : ¬ r = eA e 8 b := fun h => e1 h.symm
    simp only [e1, e2, if_false] at h ⊢
    omega
theorem zW_le (hI : tI e t) (r : Nat) : zW e r ≤ 512 := by
  have h1 : zW e r ≤ zL e := zsum_le (fun k _ => by split <;> omega)
  have h2 := hI.1.2.2.2.1.2
  have h3 := hI.1.2.2.1.2
  omega
set_option maxHeartbeats 1000000 in
/-- the first packet of class b leaves, in the class's cells and in the reference -/
theorem zC_rem (hz : zw G nu z o e t x) (hb : b < eA e 6 1) (hQ : eQ e b = p :: q) (w : Int32) : zC o (z_snd e b p q) (m_goes t b p (eA e 8 b) (eA e 6 3) w) (sI (q_rem x (eA e 1 b) (eA e 0 (eA e 8 b)) (eA e 3 b) (eA e 3 (8 + eA e 8 b)) (eA e 2 p) (tF t 1)) 206 (eA e 2 p) w) := by
  have hp := (zq_cons hz hb hQ).2.2.2.2.2
  have hg := zd_gr hz hb
  have hng := zd_ng hz
  have hnl := zd_nl hz
  have hbl : zB e t b := zb_l hb
  have hbg : zB e t (8 + eA e 8 b) := zb_g hg
  have hsz := (zp hz hp).2.2.1
  have h208 : kR x 208 (eA e 2 p) = q.head?.map (eA e 2) := by
    have h9 := hz.2.2.1.2.2.2.2.2.1 b hb
    rw [hQ] at h9
    cases q with
    | nil => exact h9
    | cons r q => exact h9.1
  have hB : ∀ c, zB (z_snd e b p q) (m_goes t b p (eA e 8 b) (eA e 6 3) w) c → zB e t c := fun c h => h
  refine ⟨fun r hr => ?_, fun k hk => ?_, fun r hr => ?_, fun c hc => ?_, fun k hk => ?_, ?_⟩
  · obtain ⟨c1, c2, c3, c4, c5, c6⟩ := zg hz hr
    have h103 : kI x 103 (eA e 0 r) - (if r = eA e 8 b then 1 else 0) = nI (zW (z_snd e b p q) r) := by
      rw [c4, ← zW_snd hb hQ r]
      split
      · rw [nI_pred]
      · simp
    have hi := zi_g hz hr hg
    refine ⟨?_, ?_, ?_, ?_, ?_, ?_⟩
    · show kI _ 100 (eA e 0 r) = tA t 9 r
      rw [kI_sI, rem_I]; simp [c1]
    · show kR _ 101 (eA e 0 r) = some (eA e 3 (8 + r))
      rw [kR_sI, rem_R]; simp [c2]
    · show kI _ 102 (eA e 0 r) = nI (zGg e t r)
      rw [kI_sI, rem_I]; simp [c3]
    · show kI _ 103 (eA e 0 r) = _
      rw [kI_sI, rem_I, ← h103]
      by_cases e1 : r = eA e 8 b
      · subst e1; simp
      · have e2 : ¬ eA e 0 r = eA e 0 (eA e 8 b) := fun h => e1 (hi.mp h)
        simp [e1, e2]
    · show kJ _ 104 (eA e 0 r) = tB t 10 r
      rw [kJ_sI, rem_J]; simp [c5]
    · show kJ _ 105 (eA e 0 r) = tB t 11 r
      rw [kJ_sI, rem_J]; simp [c6]
  · obtain ⟨a1, a2, a3, a4, a5, a6, a7, a8, a9, a10, a11, a12, a13, a14, a15, a16, a17, a18⟩ := zl hz hk
    have hi := zi_l hz hk hb
    have hR : ∀ i, i ≠ 157 → i ≠ 158 → i ≠ 208 → kR (sI (q_rem x (eA e 1 b) (eA e 0 (eA e 8 b)) (eA e 3 b) (eA e 3 (8 + eA e 8 b)) (eA e 2 p) (tF t 1)) 206 (eA e 2 p) w) i (eA e 1 k) = kR x i (eA e 1 k) := fun i h1 h2 h3 => by rw [kR_sI, rem_R]; simp [h1, h2, h3]
    have hI : ∀ i, i ≠ 206 → i ≠ 205 → i ≠ 159 → i ≠ 160 → i ≠ 103 → kI (sI (q_rem x (eA e 1 b) (eA e 0 (eA e 8 b)) (eA e 3 b) (eA e 3 (8 + eA e 8 b)) (eA e 2 p) (tF t 1)) 206 (eA e 2 p) w) i (eA e 1 k) = kI x i (eA e 1 k) := fun i h1 h2 h3 h4 h5 => by rw [kI_sI, rem_I]; simp [h1, h2, h3, h4, h5]
    refine ⟨(hR 150 (by decide) (by decide) (by decide)).trans a1, (hI 151 (by decide) (by decide) (by decide) (by decide) (by decide)).trans a2, (hI 152 (by decide) (by decide) (by decide) (by decide) (by decide)).trans a3, (hR 153 (by decide) (by decide) (by decide)).trans a4, (hI 154 (by decide) (by decide) (by decide) (by decide) (by decide)).trans a5, (hR 155 (by decide) (by decide) (by decide)).trans a6, (hI 156 (by decide) (by decide) (by decide) (by decide) (by decide)).trans a7, ?_, ?_, ?_, ?_, (hI 161 (by decide) (by decide) (by decide) (by decide) (by decide)).trans a12, (hI 162 (by decide) (by decide) (by decide) (by decide) (by decide)).trans a13, (hI 163 (by decide) (by decide) (by decide) (by decide) (by decide)).trans a14, (hI 164 (by decide) (by decide) (by decide) (by decide) (by decide)).trans a15, (hI 165 (by decide) (by decide) (by decide) (by decide) (by decide)).trans a16, (hI 166 (by decide) (by decide) (by decide) (by decide) (by decide)).trans a17, ?_⟩
    · show kR _ 157 (eA e 1 k) = ((eQ (z_snd e b p q) k).head?.map (eA e 2))
      rw [kR_sI, rem_R, z_snd_Q]
      by_cases e1 : k = b
      · subst e1; simp [h208]
      · have e2 : ¬ eA e 1 k = eA e 1 b := fun h => e1 (hi.mp h)
        simp [e1, e2, a8]
    · show kR _ 158 (eA e 1 k) = ((eQ (z_snd e b p q) k).getLast?.map (eA e 2))
      rw [kR_sI, rem_R, z_snd_Q]
      by_cases e1 : k = b
      · subst e1
        cases q with
        | nil => simp [h208]
        | cons r q =>
          rw [hQ, List.getLast?_cons_cons] at a9
          simp [h208, a9]
      · have e2 : ¬ eA e 1 k = eA e 1 b := fun h => e1 (hi.mp h)
        simp [e1, e2, a9]
    · show kI _ 159 (eA e 1 k) = tA (m_goes t b p (eA e 8 b) (eA e 6 3) w) 19 k
      rw [kI_sI, rem_I]
      by_cases e1 : k = b
      · subst e1; simp [a10, m_goes, tA_uB, tA_uF, tA_uA]
      · have e2 : ¬ eA e 1 k = eA e 1 b := fun h => e1 (hi.mp h)
        simp [e1, e2, a10, m_goes, tA_uB, tA_uF, tA_uA]
    · show kI _ 160 (eA e 1 k) = tA (m_goes t b p (eA e 8 b) (eA e 6 3) w) 20 k
      rw [kI_sI, rem_I]
      by_cases e1 : k = b
      · subst e1; simp [a11, hsz, m_goes, tA_uB, tA_uF, tA_uA]
      · have e2 : ¬ eA e 1 k = eA e 1 b := fun h => e1 (hi.mp h)
        simp [e1, e2, a11, m_goes, tA_uB, tA_uF, tA_uA]
    · show kJ _ 167 (eA e 1 k) = tB t 27 k
      rw [kJ_sI, rem_J]; simp [a18]
  · obtain ⟨a1, a2, a3, a4, a5, a6, a7, a8⟩ := zp hz hr
    have hi := zi_p hz hr hp
    have hI : ∀ i, i ≠ 206 → i ≠ 205 → i ≠ 159 → i ≠ 160 → i ≠ 103 → kI (sI (q_rem x (eA e 1 b) (eA e 0 (eA e 8 b)) (eA e 3 b) (eA e 3 (8 + eA e 8 b)) (eA e 2 p) (tF t 1)) 206 (eA e 2 p) w) i (eA e 2 r) = kI x i (eA e 2 r) := fun i h1 h2 h3 h4 h5 => by rw [kI_sI, rem_I]; simp [h1, h2, h3, h4, h5]
    refine ⟨(hI 200 (by decide) (by decide) (by decide) (by decide) (by decide)).trans a1, (hI 201 (by decide) (by decide) (by decide) (by decide) (by decide)).trans a2, (hI 202 (by decide) (by decide) (by decide) (by decide) (by decide)).trans a3, (hI 203 (by decide) (by decide) (by decide) (by decide) (by decide)).trans a4, (hI 204 (by decide) (by decide) (by decide) (by decide) (by decide)).trans a5, ?_, ?_, (hI 207 (by decide) (by decide) (by decide) (by decide) (by decide)).trans a8⟩
    · show kI _ 205 (eA e 2 r) = tA (m_goes t b p (eA e 8 b) (eA e 6 3) w) 36 r
      rw [kI_sI, rem_I]
      by_cases e1 : r = p
      · subst e1; simp [m_goes, tA_uB, tA_uF, tA_uA]
      · have e2 : ¬ eA e 2 r = eA e 2 p := fun h => e1 (hi.mp h)
        simp [e1, e2, a6, m_goes, tA_uB, tA_uF, tA_uA]
    · show kI _ 206 (eA e 2 r) = tA (m_goes t b p (eA e 8 b) (eA e 6 3) w) 37 r
      rw [kI_sI, rem_I]
      by_cases e1 : r = p
      · subst e1; simp [m_goes, tA_uB, tA_uF, tA_uA]
      · have e2 : ¬ eA e 2 r = eA e 2 p := fun h => e1 (hi.mp h)
        simp [e1, e2, a7, m_goes, tA_uB, tA_uF, tA_uA]
  · obtain ⟨a1, a2, a3⟩ := zbu hz (hB c hc)
    have hi1 := zi_b hz (hB c hc) hbl
    have hi2 := zi_b hz (hB c hc) hbg
    refine ⟨?_, ?_, ?_⟩
    · show kI _ 50 (eA e 3 c) = tA t 30 c
      rw [kI_sI, rem_I]; simp [a1]
    · show kJ _ 51 (eA e 3 c) = 1000 * (tA t 31 c).toInt64
      rw [kJ_sI, rem_J]; simp [a2]
    · show kJ _ 52 (eA e 3 c) = tB (m_goes t b p (eA e 8 b) (eA e 6 3) w) 32 c
      rw [kJ_sI, rem_J]
      simp only [hi1, hi2, hsz, true_and, (zbu hz hbl).2.2, (zbu hz hbg).2.2, a3]
      simp [m_goes, tB_uB, tB_uF, tB_uA]
  · have h9 := hz.2.2.1.2.2.2.2.2.1 k hk
    have hmem := hz.1.2.2.1 k hk
    rw [z_snd_Q]
    by_cases e1 : k = b
    · subst e1
      rw [if_pos rfl]
      unfold tQ at hmem
      rw [hQ] at h9 hmem
      have h10 : chX e x q := by
        cases q with
        | nil => trivial
        | cons r q => exact h9.2
      refine chX_to (e := e) (x := x) (fun r hr => ⟨?_, rfl⟩) h10
      have hrp : r ≠ p := fun h => (List.nodup_cons.mp hmem.2.2.2.2.1).1 (h ▸ hr)
      have e2 : ¬ eA e 2 r = eA e 2 p := fun h => hrp ((zi_p hz (hmem.2.2.2.1 r (List.mem_cons_of_mem _ hr)).1 hp).mp h)
      show kR _ 208 (eA e 2 r) = _
      rw [kR_sI, rem_R]; simp [e2]
    · rw [if_neg e1]
      refine chX_to (e := e) (x := x) (fun r hr => ⟨?_, rfl⟩) h9
      have hrp : r ≠ p := fun h => by
        subst h
        have h1 := (hmem.2.2.2.1 r hr).2
        have h2 := ((hz.1.2.2.1 b hb).2.2.2.1 r (by rw [hQ]; exact List.mem_cons_self)).2
        rw [h1] at h2
        have hk2 : k < eA e 6 1 := hk
        exact e1 ((nI_eq (by omega) (by omega)).mp h2)
      have e2 : ¬ eA e 2 r = eA e 2 p := fun h => hrp ((zi_p hz (hmem.2.2.2.1 r hr).1 hp).mp h)
      show kR _ 208 (eA e 2 r) = _
      rw [kR_sI, rem_R]; simp [e2]
  · obtain ⟨a1, a2, a3, a4, a5⟩ := zsh hz
    refine ⟨?_, ?_, ?_, ?_, ?_⟩
    · show kI _ 254 o = tF t 1
      rw [kI_sI, rem_I]; simp [a1]
    · show kI _ 255 o = nI (eA e 9 0)
      rw [kI_sI, rem_I]; simp [a2]
    · show kI _ 256 o = tF t 6
      rw [kI_sI, rem_I]; simp [a3]
    · show kI _ 257 o = nI (zG e t)
      rw [kI_sI, rem_I]; simp [a4]
    · show kJ _ 258 o = tL t
      rw [kJ_sI, rem_J]; simp [a5]
end ZD
