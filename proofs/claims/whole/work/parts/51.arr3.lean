/-! arrive: the cells behind it -/
section ZT
variable {G : kw_G} {nu nu3 : Nat → Option Nat} {z x xs x3 y : kw_St} {o : Nat} {e : kE} {t T : mo_T} {k d D1 pl : Nat} {sz mk : Int32}
theorem zw_arr (hz : zw G nu z o e T xs) (hk : k < eA e 6 1) (hnp : eA e 6 2 < 512) (hs : bd sz 64 1500) (hpl : ∀ p, (eQ e k).getLast? = some p → p = pl) (hpp : pl ≠ eA e 6 2 ∨ tA T 19 k = 0) (hd : nu d = none) (hag : ∀ c, c ≠ d → kw_ag c xs x3) (hf : kI x3 200 d = nI (eA e 6 2) ∧ kI x3 201 d = nI k ∧ kI x3 202 d = sz ∧ kI x3 203 d = tF T 1 ∧ kI x3 204 d = mk ∧ kI x3 205 d = -1 ∧ kI x3 206 d = 0 ∧ kI x3 207 d = -1 ∧ kR x3 208 d = none) (hadd : zAdd (va_up nu d (some 4)) (q_app x3 (eA e 1 k) (eA e 0 (eA e 8 k)) d) (eA e 4 2) (eA e 5 2) (eA e 6 2) d nu3 y D1) : zw G nu3 z o (z_ep e k d D1) (z_ta T k (eA e 6 2) pl sz mk) y := by
  have hng := zd_ng hz
  have hnl := zd_nl hz
  have hX : nuX nu (va_up nu d (some 4)) := nuX.up hd
  have hnd : va_up nu d (some 4) d = some 4 := va_up_self _ _ _
  have hgk := zd_gr hz hk
  have hak := zk_l hz hk
  have hggk := zk_g hz hgk
  have had : eA e 1 k ≠ d := kw_nb hd hak
  have hgd : eA e 0 (eA e 8 k) ≠ d := kw_nb hd hggk
  obtain ⟨f200, f201, f202, f203, f204, f205, f206, f207, f208⟩ := hf
  have h158 : kR x3 158 (eA e 1 k) = (eQ e k).getLast?.map (eA e 2) := ((hag _ had).2.2.1 158).trans (zl hz hk).2.2.2.2.2.2.2.2.1
  have hlast : ∀ c, kR x3 158 (eA e 1 k) = some c → nu c = some 4 ∧ c = eA e 2 pl ∧ (eQ e k).getLast? = some pl := by
    intro c hc
    rw [h158] at hc
    cases hL : (eQ e k).getLast? with
    | none => rw [hL] at hc; cases hc
    | some p =>
      rw [hL] at hc
      have hp := hpl p hL
      subst hp
      cases hc
      exact ⟨zk_p hz ((hz.1.2.2.1 k hk).2.2.2.1 p (List.mem_of_getLast? hL)).1, rfl, rfl⟩
  generalize hY : q_app x3 (eA e 1 k) (eA e 0 (eA e 8 k)) d = Y at hadd
  have hxo : ∀ c q, nu c = some q → q ≠ 3 → q ≠ 2 → q ≠ 4 → kw_ag c xs Y := by
    intro c q h h3 h2 h4
    rw [← hY]
    exact (hag c (kw_nb hd h)).tr (app_oth (nu_ne h hak h3) (nu_ne h hggk h2) (fun h9 => nu_ne h (hlast c h9).1 h4 rfl))
  have rI : ∀ i c, c ≠ d → kI Y i c = if i = 103 ∧ c = eA e 0 (eA e 8 k) then kI xs 103 (eA e 0 (eA e 8 k)) + 1 else if i = 160 ∧ c = eA e 1 k then kI xs 160 (eA e 1 k) + sz else if i = 159 ∧ c = eA e 1 k then kI xs 159 (eA e 1 k) + 1 else kI xs i c := fun i c hc => by rw [← hY, app_I, f202, (hag _ had).1, (hag _ had).1, (hag _ hgd).1, (hag c hc).1]
  have rJ : ∀ i c, c ≠ d → kJ Y i c = kJ xs i c := fun i c hc => by rw [← hY, app_J]; exact (hag c hc).2.1 i
  have rR : ∀ i c, c ≠ d → kR Y i c = if i = 158 ∧ c = eA e 1 k then some d else if i = 157 ∧ c = eA e 1 k ∧ kR x3 158 (eA e 1 k) = none then some d else if i = 208 ∧ kR x3 158 (eA e 1 k) = some c then some d else kR xs i c := fun i c hc => by rw [← hY, app_R, (hag c hc).2.2.1]
  have dA : ¬ d = eA e 1 k := fun h => had h.symm
  have dG : ¬ d = eA e 0 (eA e 8 k) := fun h => hgd h.symm
  have dI : ∀ i, kI Y i d = kI x3 i d := fun i => by rw [← hY, app_I]; simp [dA, dG]
  have dR : kR Y 208 d = none := by
    rw [← hY, app_R]
    have : ¬ kR x3 158 (eA e 1 k) = some d := fun h9 => by
      have := (hlast d h9).1
      rw [hd] at this
      cases this
    simp [this, f208]
  have e6 : ∀ r, r ≠ 2 → eA (z_ep e k d D1) 6 r = eA e 6 r := fun r hr => by rw [ep_6, if_neg hr]
  have e62 : eA (z_ep e k d D1) 6 2 = eA e 6 2 + 1 := by rw [ep_6, if_pos rfl]
  have hB : ∀ c, zB (z_ep e k d D1) (z_ta T k (eA e 6 2) pl sz mk) c ↔ zB e T c := by
    intro c
    unfold zB
    rw [e6 1 (by decide), e6 0 (by decide), ta_o _ _ _ _ _ _ (j := 28) (by omega)]
  have hI := tI_arr (d := d) (D1 := D1) (mk := mk) hz.1 hk hnp hs hpl hpp
  have hK : zK G (va_up nu d (some 4)) o (z_ep e k d D1) (z_ta T k (eA e 6 2) pl sz mk) := by
    refine ⟨hX _ _ hz.2.1.1, fun i hi => ?_, fun r hr => ?_, fun i hi => ?_, fun i hi => ?_, fun c hc9 => ?_, hX _ _ hz.2.1.2.2.2.2.2.2.1, fun i hi j hj => ?_, fun i hi j hj => ?_, fun i hi j hj => ?_, fun i hi j hj heq => ?_, fun i hi j hj => ?_⟩
    · rw [ep_o _ _ _ _ 4 _ (by decide)]; exact hX _ _ (hz.2.1.2.1 i hi)
    · rw [e6 0 (by decide)] at hr
      rw [ep_o _ _ _ _ 0 _ (by decide)]; exact hX _ _ (zk_g hz hr)
    · rw [e6 1 (by decide)] at hi
      rw [ep_o _ _ _ _ 1 _ (by decide)]; exact hX _ _ (zk_l hz hi)
    · rw [e62] at hi
      rw [ep_2]
      split
      · exact hnd
      · exact hX _ _ (zk_p hz (by omega))
    · rw [ep_o _ _ _ _ 3 _ (by decide)]; exact hX _ _ (zk_b hz ((hB c).mp hc9))
    · rw [ep_o _ _ _ _ 4 _ (by decide), ep_o _ _ _ _ 4 _ (by decide)]; exact (zi_L hz hi hj).mp
    · rw [e6 0 (by decide)] at hi hj
      rw [ep_o _ _ _ _ 0 _ (by decide), ep_o _ _ _ _ 0 _ (by decide)]; exact (zi_g hz hi hj).mp
    · rw [e6 1 (by decide)] at hi hj
      rw [ep_o _ _ _ _ 1 _ (by decide), ep_o _ _ _ _ 1 _ (by decide)]; exact (zi_l hz hi hj).mp
    · rw [e62] at hi hj
      rw [ep_2, ep_2] at heq
      by_cases e1 : i = eA e 6 2
      · by_cases e2 : j = eA e 6 2
        · omega
        · rw [if_pos e1, if_neg e2] at heq
          exact absurd heq.symm (kw_nb hd (zk_p hz (p := j) (by omega)))
      · by_cases e2 : j = eA e 6 2
        · rw [if_neg e1, if_pos e2] at heq
          exact absurd heq (kw_nb hd (zk_p hz (p := i) (by omega)))
        · rw [if_neg e1, if_neg e2] at heq
          exact (zi_p hz (by omega) (by omega)).mp heq
    · rw [ep_o _ _ _ _ 3 _ (by decide), ep_o _ _ _ _ 3 _ (by decide)]; exact (zi_b hz ((hB i).mp hi) ((hB j).mp hj)).mp
  have h2eq : ∀ j, j < eA e 6 1 → ∀ p, p ∈ eQ e j → eA (z_ep e k d D1) 2 p = eA e 2 p := fun j hj p hp => by
    rw [ep_2, if_neg]
    have := ((hz.1.2.2.1 j hj).2.2.2.1 p hp).1
    omega
  have hC : zC o (z_ep e k d D1) (z_ta T k (eA e 6 2) pl sz mk) Y := by
    refine ⟨fun r hr => ?_, fun j hj => ?_, fun p hp => ?_, fun c hc9 => ?_, fun j hj => ?_, ?_⟩
    · rw [e6 0 (by decide)] at hr
      have hrk := zk_g hz hr
      have hrd : eA e 0 r ≠ d := kw_nb hd hrk
      have hra : eA e 0 r ≠ eA e 1 k := nu_ne hrk hak (by decide)
      obtain ⟨c1, c2, c3, c4, c5, c6⟩ := zg hz hr
      have hi := zi_g hz hr hgk
      unfold zGr
      have eG : zGg (z_ep e k d D1) (z_ta T k (eA e 6 2) pl sz mk) r = zGg e T r := by
        show zsum (fun j => if eA e 8 j = r then gN (z_ta T k (eA e 6 2) pl sz mk) j else 0) (eA e 6 1) = zsum _ (eA e 6 1)
        exact zsum_congr (fun j _ => by unfold gN; rw [ta_o _ _ _ _ _ _ (j := 15) (by omega)])
      rw [ep_o _ _ _ _ 0 _ (by decide), ep_o _ _ _ _ 3 _ (by decide), eG, ep_zW hk, ta_o _ _ _ _ _ _ (j := 9) (by omega), ta_B, ta_B]
      refine ⟨?_, ?_, ?_, ?_, (rJ _ _ hrd).trans c5, (rJ _ _ hrd).trans c6⟩
      · rw [rI _ _ hrd]; simp [c1]
      · rw [rR _ _ hrd]; simp [c2]
      · rw [rI _ _ hrd]; simp [c3]
      · rw [rI _ _ hrd]
        by_cases e1 : r = eA e 8 k
        · subst e1
          simp [c4, nI_1]
        · have e3 : ¬ eA e 0 r = eA e 0 (eA e 8 k) := fun h => e1 (hi.mp h)
          simp [e1, e3, c4]
    · rw [e6 1 (by decide)] at hj
      have hjk := zk_l hz hj
      have hjd : eA e 1 j ≠ d := kw_nb hd hjk
      have hjg : eA e 1 j ≠ eA e 0 (eA e 8 k) := nu_ne hjk hggk (by decide)
      have hjl : ¬ kR x3 158 (eA e 1 k) = some (eA e 1 j) := fun h9 => nu_ne hjk (hlast _ h9).1 (by decide) rfl
      obtain ⟨a1, a2, a3, a4, a5, a6, a7, a8, a9, a10, a11, a12, a13, a14, a15, a16, a17, a18⟩ := zl hz hj
      have hi := zi_l hz hj hk
      have gI : ∀ i v, i ≠ 103 → i ≠ 159 → i ≠ 160 → kI xs i (eA e 1 j) = v → kI Y i (eA e 1 j) = v := fun i v h1 h2 h3 h4 => by rw [rI i _ hjd]; simp [h1, h2, h3, h4]
      have gR : ∀ i v, i ≠ 157 → i ≠ 158 → i ≠ 208 → kR xs i (eA e 1 j) = v → kR Y i (eA e 1 j) = v := fun i v h1 h2 h3 h4 => by rw [rR i _ hjd]; simp [h1, h2, h3, h4]
      unfold zLf
      rw [ep_o _ _ _ _ 1 _ (by decide), ep_o _ _ _ _ 0 _ (by decide), ep_o _ _ _ _ 8 _ (by decide), ep_o _ _ _ _ 3 _ (by decide), ep_o _ _ _ _ 3 _ (by decide), ta_B]
      rw [ta_o _ _ _ _ _ _ (j := 14) (by omega), ta_o _ _ _ _ _ _ (j := 15) (by omega), ta_o _ _ _ _ _ _ (j := 16) (by omega), ta_o _ _ _ _ _ _ (j := 28) (by omega), ta_o _ _ _ _ _ _ (j := 29) (by omega), ta_o _ _ _ _ _ _ (j := 21) (by omega), ta_o _ _ _ _ _ _ (j := 22) (by omega), ta_o _ _ _ _ _ _ (j := 23) (by omega), ta_o _ _ _ _ _ _ (j := 24) (by omega), ta_o _ _ _ _ _ _ (j := 25) (by omega), ta_o _ _ _ _ _ _ (j := 26) (by omega)]
      refine ⟨gR 150 _ (by decide) (by decide) (by decide) a1, gI 151 _ (by decide) (by decide) (by decide) a2, gI 152 _ (by decide) (by decide) (by decide) a3, gR 153 _ (by decide) (by decide) (by decide) a4, gI 154 _ (by decide) (by decide) (by decide) a5, gR 155 _ (by decide) (by decide) (by decide) a6, gI 156 _ (by decide) (by decide) (by decide) a7, ?_, ?_, ?_, ?_, gI 161 _ (by decide) (by decide) (by decide) a12, gI 162 _ (by decide) (by decide) (by decide) a13, gI 163 _ (by decide) (by decide) (by decide) a14, gI 164 _ (by decide) (by decide) (by decide) a15, gI 165 _ (by decide) (by decide) (by decide) a16, gI 166 _ (by decide) (by decide) (by decide) a17, (rJ 167 _ hjd).trans a18⟩
      · rw [rR _ _ hjd, ep_Q]
        by_cases e1 : j = k
        · subst e1
          cases hQ : eQ e j with
          | nil =>
            have h9 : kR x3 158 (eA e 1 j) = none := by rw [h158, hQ]; rfl
            simp [h9, ep_2]
          | cons p q =>
            have h9 : ¬ kR x3 158 (eA e 1 j) = none := by
              rw [h158, hQ]
              cases hL : (p :: q).getLast? with
              | none => rw [List.getLast?_eq_none_iff] at hL; cases hL
              | some r => simp
            have h10 := h2eq j hj p (by rw [hQ]; exact List.mem_cons_self)
            rw [hQ] at a8
            simp [h9, h10]
            exact a8
        · have e2 : ¬ eA e 1 j = eA e 1 k := fun h => e1 (hi.mp h)
          simp only [e1, e2, if_false, false_and, and_false]
          simp
          rw [a8]
          cases hQ : eQ e j with
          | nil => rfl
          | cons p q =>
            have h10 := h2eq j hj p (by rw [hQ]; exact List.mem_cons_self)
            simp [h10]
      · rw [rR _ _ hjd, ep_Q]
        by_cases e1 : j = k
        · subst e1
          simp [ep_2]
        · have e2 : ¬ eA e 1 j = eA e 1 k := fun h => e1 (hi.mp h)
          simp only [e1, e2, if_false, false_and, and_false]
          simp
          rw [a9]
          cases hL : (eQ e j).getLast? with
          | none => rfl
          | some p =>
            have h10 := h2eq j hj p (List.mem_of_getLast? hL)
            simp [h10]
      · rw [rI _ _ hjd]
        have f19 : tA (z_ta T k (eA e 6 2) pl sz mk) 19 j = if j = k then tA T 19 k + 1 else tA T 19 j := by rw [ta_A]; simp
        rw [f19]
        by_cases e1 : j = k
        · subst e1; simp [a10]
        · have e2 : ¬ eA e 1 j = eA e 1 k := fun h => e1 (hi.mp h)
          simp [e1, e2, a10]
      · rw [rI _ _ hjd]
        have f20 : tA (z_ta T k (eA e 6 2) pl sz mk) 20 j = if j = k then tA T 20 k + sz else tA T 20 j := by rw [ta_A]; simp
        rw [f20]
        by_cases e1 : j = k
        · subst e1; simp [a11]
        · have e2 : ¬ eA e 1 j = eA e 1 k := fun h => e1 (hi.mp h)
          simp [e1, e2, a11]
    · rw [e62] at hp
      unfold zPk
      rw [ep_2]
      by_cases e1 : p = eA e 6 2
      · subst e1
        rw [if_pos rfl, dI, dI, dI, dI, dI, dI, dI, dI, f200, f201, f202, f203, f204, f205, f206, f207]
        simp [ta_A]
      · have hp2 : p < eA e 6 2 := by omega
        have hpk := zk_p hz hp2
        have hpd : eA e 2 p ≠ d := kw_nb hd hpk
        rw [if_neg e1, ta_o _ _ _ _ _ _ (j := 33) (by omega), ta_o _ _ _ _ _ _ (j := 34) (by omega), ta_o _ _ _ _ _ _ (j := 35) (by omega), ta_o _ _ _ _ _ _ (j := 41) (by omega), ta_o _ _ _ _ _ _ (j := 36) (by omega), ta_o _ _ _ _ _ _ (j := 37) (by omega), ta_o _ _ _ _ _ _ (j := 38) (by omega)]
        obtain ⟨a1, a2, a3, a4, a5, a6, a7, a8⟩ := zp hz hp2
        simp [rI _ _ hpd, a1, a2, a3, a4, a5, a6, a7, a8]
    · unfold zBu
      have h9 := (hB c).mp hc9
      have hbk := zk_b hz h9
      have a := hxo _ 1 hbk (by decide) (by decide) (by decide)
      obtain ⟨a1, a2, a3⟩ := zbu hz h9
      rw [ep_o _ _ _ _ 3 _ (by decide), ta_o _ _ _ _ _ _ (j := 30) (by omega), ta_o _ _ _ _ _ _ (j := 31) (by omega), ta_B]
      exact ⟨(a.1 _).trans a1, (a.2.1 _).trans a2, (a.2.1 _).trans a3⟩
    · rw [e6 1 (by decide)] at hj
      have hmem := hz.1.2.2.1 j hj
      rw [ep_Q]
      by_cases e1 : j = k
      · subst e1
        rw [if_pos rfl]
        refine chX_app (e := e) (x := xs) ?_ (h2eq j hj) (fun p hp h9 => ?_) (fun p hp => ?_) hmem.2.2.2.2.1 (hz.2.2.1.2.2.2.2.2.1 j hj)
        · rw [ep_2, if_pos rfl]; exact dR
        · have hpk := zk_p hz (hmem.2.2.2.1 p hp).1
          rw [rR _ _ (kw_nb hd hpk)]
          have h10 : ¬ kR x3 158 (eA e 1 j) = some (eA e 2 p) := fun h11 => by
            obtain ⟨-, g2, g3⟩ := hlast _ h11
            have : p = pl := (zi_p hz (hmem.2.2.2.1 p hp).1 (hmem.2.2.2.1 pl (List.mem_of_getLast? g3)).1).mp g2
            rw [this] at h9
            exact h9 g3
          simp [h10]
        · have hpk := zk_p hz (hmem.2.2.2.1 p (List.mem_of_getLast? hp)).1
          rw [rR _ _ (kw_nb hd hpk), ep_2, if_pos rfl]
          have h10 : kR x3 158 (eA e 1 j) = some (eA e 2 p) := by rw [h158, hp]; rfl
          simp [h10]
      · rw [if_neg e1]
        refine chX_to (e := e) (x := xs) (fun p hp => ⟨?_, h2eq j hj p hp⟩) (hz.2.2.1.2.2.2.2.2.1 j hj)
        have hpk := zk_p hz (hmem.2.2.2.1 p hp).1
        rw [h2eq j hj p hp, rR _ _ (kw_nb hd hpk)]
        have h10 : ¬ kR x3 158 (eA e 1 k) = some (eA e 2 p) := fun h11 => by
          obtain ⟨-, g2, g3⟩ := hlast _ h11
          have h12 := (hz.1.2.2.1 k hk).2.2.2.1 pl (List.mem_of_getLast? g3)
          have : p = pl := (zi_p hz (hmem.2.2.2.1 p hp).1 h12.1).mp g2
          subst this
          have h13 := (hmem.2.2.2.1 p hp).2
          rw [h12.2] at h13
          exact e1 ((nI_eq (by omega) (by omega)).mp h13).symm
        simp [h10]
    · have a := hxo _ 5 (zk_o hz) (by decide) (by decide) (by decide)
      obtain ⟨a1, a2, a3, a4, a5⟩ := zsh hz
      unfold zSh
      have e2 : zG (z_ep e k d D1) (z_ta T k (eA e 6 2) pl sz mk) = zG e T := by
        show zsum (gN (z_ta T k (eA e 6 2) pl sz mk)) (eA e 6 1) = zsum (gN T) (eA e 6 1)
        exact zsum_congr (fun j _ => by unfold gN; rw [ta_o _ _ _ _ _ _ (j := 15) (by omega)])
      rw [e2, ta_F, if_neg (by decide), ta_F, if_neg (by decide), ta_L, ep_o _ _ _ _ 9 _ (by decide)]
      exact ⟨(a.1 _).trans a1, (a.1 _).trans a2, (a.1 _).trans a3, (a.1 _).trans a4, (a.2.1 _).trans a5⟩
  refine zw_made (i := 2) (x3 := Y) hz (by decide) hX (fun c q h hq => hxo c q h (by omega) (by omega) (by omega)) (fun c q hc9 h1 h2 => ?_) hadd (fun j => ep_o _ _ _ _ _ _ (by decide)) (fun j => ?_) (fun j hj => ?_) (fun j hj => ?_) (fun c hc9 r hr => ?_) (fun r hr => ?_) hI hK hC (fun c h => h) (fun h => h)
  · have c2 : c ≠ d := fun h9 => by rw [h9, hnd] at hc9; cases hc9; omega
    rw [va_up_ne _ _ c2] at hc9
    exact ⟨hc9, hxo c q hc9 (by omega) (by omega) (by omega)⟩
  · simp [z_ep, eA_fA, eA_fQ]
  · simp [z_ep, eA_fA, eA_fQ]
  · simp [z_ep, eA_fA, eA_fQ]
  · rcases (show c = 0 ∨ c = 1 ∨ c = 2 by omega) with rfl | rfl | rfl
    · rw [ep_o _ _ _ _ _ _ (by decide)]; simp
    · rw [ep_o _ _ _ _ _ _ (by decide)]; simp
    · rw [ep_2]; simp
  · rw [e6 3 (by decide)] at hr
    rw [ep_o _ _ _ _ 7 _ (by decide), ep_2, if_neg]
    · simp
    · have := (hz.1.2.2.2.2.2.1 r hr).2
      omega
theorem arr_oth {x1 x2 : kw_St} {m : Int64} (hz : zw G nu z o e T x1) (hk : k < eA e 6 1) (hd : nu d = none) (hag2 : ∀ c, c ≠ d → kw_ag c x1 x2) : ∀ c q, nu c = some q → q ≠ 3 → q ≠ 2 → q ≠ 4 → kw_ag c x1 (q_app (q_catch x2 (eA e 1 k) (eA e 0 (eA e 8 k)) m) (eA e 1 k) (eA e 0 (eA e 8 k)) d) := by
  intro c q h h3 h2 h4
  have hak := zk_l hz hk
  have hgk := zk_g hz (zd_gr hz hk)
  have h1 := nu_ne h hak h3
  have h5 := nu_ne h hgk h2
  refine ((hag2 c (kw_nb hd h)).tr (catch_oth h1 h5)).tr (app_oth h1 h5 (fun h9 => ?_))
  rw [(catch_R _ _ _ _).1, (hag2 _ (kw_nb hd hak)).2.2.1] at h9
  exact nu_ne h (zl_la hz hk c h9) h4 rfl
theorem zw_163 (hz : zw G nu z o e t x) (hk : k < eA e 6 1) (v : Int32) : zw G nu z o e (uA t 23 k v) (sI x 163 (eA e 1 k) v) := ⟨tI_cnt hz.1 (Or.inr (Or.inr (Or.inl rfl))) hk v, hz.2.1, ⟨hz.2.2.1.1, zC_163 (nu := nu) (G := G) hz.2.2.1.2 hz.2.1 hk v⟩, fun b9 r h1 h2 h3 => ag_sI (hz.2.2.2 b9 r h1 h2 h3) (nu_ne h1 (zk_l hz hk) (by omega))⟩
theorem zw_164 (hz : zw G nu z o e t x) (hk : k < eA e 6 1) (v : Int32) : zw G nu z o e (uA t 24 k v) (sI x 164 (eA e 1 k) v) := ⟨tI_cnt hz.1 (Or.inr (Or.inr (Or.inr (Or.inl rfl)))) hk v, hz.2.1, ⟨hz.2.2.1.1, zC_164 (nu := nu) (G := G) hz.2.2.1.2 hz.2.1 hk v⟩, fun b9 r h1 h2 h3 => ag_sI (hz.2.2.2 b9 r h1 h2 h3) (nu_ne h1 (zk_l hz hk) (by omega))⟩
theorem lim_iff (hI : tI e t) (hk : k < eA e 6 1) (hs : bd sz 64 1500) : sz ≤ tA t 16 k - tA t 20 k ↔ tA t 20 k + sz ≤ tA t 16 k := by
  obtain ⟨-, -, -, h4, h5, -⟩ := hI.2.1 k hk
  have h6 := h4.rng (by decide)
  have h7 := hs.rng (by decide)
  have h8 := hI.1.2.2.1.2
  have h9 := hI.1.2.2.2.1.2
  rw [le_toInt, le_toInt, fb_subI (by omega) (by omega), fb_addI (by omega) (by omega)]
  omega
theorem arM_0 (h : ¬ (¬ tA t 28 k = 0 ∧ tB t 32 (12 + k) < 1000 * sz.toInt64)) : m_arM t k sz = 0 ∧ ¬ m_arR t k sz = true := by
  unfold m_arM m_arR
  by_cases h1 : tA t 28 k = 0
  · simp [h1]
  · have h2 : ¬ tB t 32 (12 + k) < 1000 * sz.toInt64 := fun h2 => h ⟨h1, h2⟩
    simp only [h1, h2, if_false]
    simp
/-- the last of a queue -/
def plE (e : kE) (k : Nat) : Nat := ((eQ e k).getLast?).getD 0
theorem plE_1 (e : kE) (k : Nat) : ∀ p, (eQ e k).getLast? = some p → p = plE e k := fun p h => by unfold plE; rw [h]; rfl
theorem plE_2 (hI : tI e t) (hk : k < eA e 6 1) : plE e k ≠ eA e 6 2 ∨ tA t 19 k = 0 := by
  cases hL : (eQ e k).getLast? with
  | none =>
    rw [List.getLast?_eq_none_iff] at hL
    exact Or.inr (tq_nil hI hk hL)
  | some p =>
    have h1 := ((hI.2.2.1 k hk).2.2.2.1 p (List.mem_of_getLast? hL)).1
    rw [← plE_1 e k p hL]
    exact Or.inl (by omega)
theorem plE_3 (hI : tI e t) (hk : k < eA e 6 1) : (¬ tA t 19 k = 0 → tA t 18 k = nI (plE e k)) ∧ plE e k < 1000 := by
  have hnp := hI.1.2.2.1.2
  cases hL : (eQ e k).getLast? with
  | none =>
    have h2 : plE e k = 0 := by unfold plE; rw [hL]; rfl
    rw [List.getLast?_eq_none_iff] at hL
    exact ⟨fun h => absurd (tq_nil hI hk hL) h, by omega⟩
  | some p =>
    have h1 := ((hI.2.2.1 k hk).2.2.2.1 p (List.mem_of_getLast? hL)).1
    have h2 := (hI.2.2.1 k hk).2.2.1 p hL
    rw [← plE_1 e k p hL]
    exact ⟨fun _ => h2, by omega⟩
end ZT
