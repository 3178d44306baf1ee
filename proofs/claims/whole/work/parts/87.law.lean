/-! the law from its entry -/
theorem zw_mv {G : kw_G} {nu nu' : Nat → Option Nat} {z y y2 : kw_St} {o : Nat} {e : kE} {t : mo_T} (hz : zw G nu z o e t y) (hX : nuX nu nu') (hag : ∀ c q, nu c = some q → q < 6 ∨ 9 < q → kw_ag c y y2) : zw G nu' y2 o e t y2 :=
  ⟨hz.1, zK_nu hX hz.2.1, ⟨zLs_nu hX hz.2.1 (zLs_ag hz.2.1 (fun c q hc hq => hag c q hc (by omega)) hz.2.2.1.1), zC_ag hz.2.1 (fun k hk p hp => ((hz.1.2.2.1 k hk).2.2.2.1 p hp).1) (fun c q hc h1 h2 => hag c q hc (by omega)) hz.2.2.1.2⟩, fun _ _ _ _ _ => kw_ag.rf⟩
set_option maxHeartbeats 4000000 in
set_option maxRecDepth 100000 in
/-- from the entry, for every script of at most 3584 ints, the law comes to its end with true -/
theorem whole_start {p : Program} {e : Env} {s : State} {m : MethodId} {below : List Frame} {meth : Method} {c : Code} (l : Launch) {b L : Nat} {xs : Nat → Int32} (hL : L ≤ 3584) (C0 : lw_At p s m meth c b L xs) : W p l e room_1 s m #[Value.ref b] below meth c s.heap [] 0 0 (lw_Z below #[Value.ref b] s) (entryFrame m ([Value.ref b] : List Value).toArray 4) := by
  obtain ⟨hx, hb, hr, hml, hown, hts, hX, hbl, hlk, hgv⟩ := C0
  obtain ⟨G, hK, hZ, cell, e1, e2, e3, e4, e5⟩ := law_G hts hgv
  have S : CallFix p m c cL_law 4 s #[Value.ref b] wsL_law RL := ⟨hx, hb, hml, hown, fun w hw => hts w (wsL_law_in w hw)⟩
  have hA : ∀ r, s.heap.size ≤ r → (fun q : Nat => s.heap.size ≤ q) r := fun _ h => h
  have hl := lv_entry ([.ref b]) (n := 4) (Nat.le_of_ble_eq_true rfl)
  rw [lg_entry_eq]
  generalize (lg_sl ([.ref b]) ++ List.replicate (4 - (lg_sl ([.ref b])).length) Slot.unset).toArray = ls at hl ⊢
  have hl : lv_has ls 4 [(0, .ref b)] := hl
  have hS : va_S (fun q : Nat => s.heap.size ≤ q) s.heap s.heap [] := va_S.rf
  obtain ⟨nu, h11, hno⟩ : ∃ nu : Nat → Option Nat, nu G.2.2.1 = some 11 ∧ ∀ a q, nu a = some q → a = G.2.2.1 ∧ q = 11 := ⟨fun a => if a = G.2.2.1 then some 11 else none, if_pos rfl, fun a q h => by
    dsimp only at h
    by_cases h9 : a = G.2.2.1
    · rw [if_pos h9] at h; cases h; exact ⟨h9, rfl⟩
    · rw [if_neg h9] at h; cases h⟩
  obtain ⟨x, hN⟩ : ∃ x : kw_St, kN x G.2.2.1 = 0 := ⟨(fun _ _ => 0, fun _ _ => 0, fun _ _ => none, fun _ _ => 0, fun _ _ => 0, fun _ _ => none, fun _ => 0), rfl⟩
  have hW : kw_W G (fun q : Nat => s.heap.size ≤ q) nu x s.heap := by
    intro a q h
    obtain ⟨rfl, rfl⟩ := hno a q h
    exact ⟨⟨fun h9 => absurd rfl h9, fun _ => ⟨cell, e1, e2, by rw [hN]; exact e3, e4, e5⟩⟩, Or.inl rfl⟩
  refine kw_new S hK hW hS hA 5 rfl lw_iX4 tyX4 tyX4_ok (by decide) kw_dvX4 (by decide +kernel) (by decide +kernel) (by decide +kernel) (by decide) (by decide) dL_law_0 (fun o H ho hW hS => ?_)
  refine lv_dup S.1 S.2.1 dL_law_3 rfl ?_
  have hN1 : kN (sNew x o 0) G.2.2.1 = 0 := by
    rw [kN_sNew]
    split
    · rfl
    · exact hN
  refine kw_callI (As := []) (rest := [.ref o]) S hK hZ hA hW hS (c_X4_init l G _ _ o (va_up_self _ _ _) (kw_old ho h11) hN1) (cwI 0 S.2.2.2.2 gL_law_X4_init rfl rfl rfl (S.2.2.2.2 (.initialized RX4) (by decide +kernel)) (S.2.2.2.2 (.methodLink RL 9 yX4_init) (by decide +kernel)) (S.2.2.2.2 (.instanceMethod yX4_init) (by decide +kernel)) rfl (by decide +kernel) ⟨Nat.le_of_ble_eq_true rfl, Nat.le_of_ble_eq_true rfl⟩) rfl hl.1 rfl (Nat.le_of_ble_eq_true rfl) dL_law_4 ⟨Nat.le_of_ble_eq_true rfl, Nat.le_of_ble_eq_true rfl⟩ (fun v nu2 y H locs hp hW hS => ?_)
  obtain ⟨rfl, hX1, ee, hzz⟩ := hp
  refine W.eq (g2 := F0 m 7 ls [.ref o]) rfl ?_
  refine lv_astore_n (lv' := [(1, .ref o), (0, .ref b)]) S.1 S.2.1 dL_law_7 rfl hl (by decide) rfl (fun ls hl => ?_)
  refine kw_new S hK hW hS hA 6 rfl lw_iX5 tyX5 tyX5_ok (by decide) kw_dvX5 (by decide +kernel) (by decide +kernel) (by decide +kernel) (by decide) (by decide) dL_law_8 (fun mo H hmo hW hS => ?_)
  refine lv_dup S.1 S.2.1 dL_law_11 rfl ?_
  refine kw_callI (As := []) (rest := [.ref mo]) S hK hZ hA hW hS (c_X5_init l G _ _ mo (va_up_self _ _ _) (fun i => by rw [kI_sNew, if_pos rfl]) (by rw [kJ_sNew, if_pos rfl])) (cwI 0 S.2.2.2.2 gL_law_X5_init rfl rfl rfl (S.2.2.2.2 (.initialized RX5) (by decide +kernel)) (S.2.2.2.2 (.methodLink RL 12 yX5_init) (by decide +kernel)) (S.2.2.2.2 (.instanceMethod yX5_init) (by decide +kernel)) rfl (by decide +kernel) ⟨Nat.le_of_ble_eq_true rfl, Nat.le_of_ble_eq_true rfl⟩) rfl hl.1 rfl (Nat.le_of_ble_eq_true rfl) dL_law_12 ⟨Nat.le_of_ble_eq_true rfl, Nat.le_of_ble_eq_true rfl⟩ (fun v nu3 y2 H locs hp hW hS => ?_)
  obtain ⟨rfl, hX2, ma, t, hm, ht⟩ := hp
  obtain ⟨hz, hF, -⟩ := hzz t ht
  refine W.eq (g2 := F0 m 15 ls [.ref mo]) rfl ?_
  refine lv_astore_n (lv' := [(2, .ref mo), (1, .ref o), (0, .ref b)]) S.1 S.2.1 dL_law_15 rfl hl (by decide) rfl (fun ls hl => ?_)
  refine lv_iconst (v := 0) S.1 S.2.1 dL_law_16 (by decide) ?_
  refine lv_istore_n (lv' := [(3, .int 0), (2, .ref mo), (1, .ref o), (0, .ref b)]) S.1 S.2.1 dL_law_17 rfl hl (by decide) rfl (fun ls hl => ?_)
  have hmk : ∀ j, 7 ≤ mk j ∧ mk j ≤ 9 := by intro j; unfold mk; split; omega; split <;> omega
  have hz2 : zw G nu3 y2 o ee t y2 := zw_mv hz ((nuX.up hmo).tr hX2) (fun c q hc hq => by
    have n1 : c ≠ mo := kw_nb hmo hc
    have n2 : ∀ j, mR j → c ≠ ma j := fun j hj => nu_ne (hX2 _ _ (nuX.up hmo _ _ hc)) (hm.1.2.1 j hj.1 hj.2.1 hj.2.2).2.1 (by have := hmk j; omega)
    exact (ag_sNew kw_ag.rf n1).tr (hm.2.2 c n1 n2))
  have h4 : (tF t 4).toInt ≤ ((0 : Nat) : Int) := by
    rw [ht.1 4, if_neg (by decide)]
    decide
  exact law_loop S hK hZ hX hbl hr hlk hL 513 0 _ _ nu3 y2 ee t H locs ls rfl (Nat.le_of_ble_eq_true rfl) (Nat.le_of_ble_eq_true rfl) hz2 hF (mw_rf hm) h4 hW hS hl
