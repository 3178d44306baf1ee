/-! the two constructors; a run that the reference refuses -/
set_option maxHeartbeats 1000000 in
set_option maxRecDepth 100000 in
/-- LinkShaper() -/
theorem c_X4_init (l : Launch) (G : kw_G) (nu : Nat → Option Nat) (x : kw_St) (o : Nat) (ho : nu o = some 5) (h11 : nu G.2.2.1 = some 11) (hN : kN x G.2.2.1 = 0) : kw_M l G yX4_init wsX4_init { frames := 4, cells := 4, slots := 12, locals := 80 } 4 12 [.ref o] nu x (fun v nu' y => v = none ∧ nuX nu nu' ∧ ∃ e2, ∀ t, z_zero t → zw G nu' x o e2 t y ∧ zF e2 t ∧ eA e2 6 2 = 0) := by
  refine kw_M.ofW (cc := cX4_init) (maxL := 1) (ret := none) (by decide) rfl (Nat.le_of_ble_eq_true rfl) ?_
  intro p e s m args below meth c A ls S hr hlk hnm hK hZ hA hW hS hl
  have hl : lv_has ls 1 [(0, .ref o)] := hl
  have iJx4a65c : ∀ w ∈ wsJx4a65c0, w ∈ wsX4_init := by decide +kernel
  have iX4 : ∀ w ∈ wsX40, w ∈ wsX4_init := by decide +kernel
  refine lv_aload_n S.1 S.2.1 dX4_init_0 rfl (lv_at hl 0 rfl) ?_
  refine W.objInit S.1 S.2.1 S.2.2.2.1 (S.2.2.2.2 _ (by decide +kernel)) (S.2.2.2.2 _ (by decide +kernel)) (S.2.2.2.2 _ (by decide +kernel)) rfl (by rw [S.2.2.1]; exact hl.1) rfl dX4_init_1 (Nat.le_of_ble_eq_true rfl) (Nat.le_of_ble_eq_true rfl) ?_
  refine W.eq (g2 := F0 m 4 ls []) rfl ?_
  refine lv_aload_n S.1 S.2.1 dX4_init_4 rfl (lv_at hl 0 rfl) ?_
  refine kw_new S hK hW hS hA 0 rfl iJx4a65c tyJx4a65c tyJx4a65c_ok (by decide) kw_dvJx4a65c (by decide +kernel) (by decide +kernel) (by decide +kernel) (by decide) (by decide) dX4_init_5 (fun d1 H hd2 hW hS => ?_)
  have n3 : ¬ o = d1 := kw_nb hd2 ho
  have n4 : ¬ G.2.2.1 = d1 := kw_nb hd2 h11
  refine lv_dup S.1 S.2.1 dX4_init_8 rfl ?_
  refine kx_cI (As := []) (rest := [.ref d1, .ref o]) (st1 := [.ref d1, .ref o]) S hK hZ hA hW hS (c_Jx4a65c_init_da8c8 l G ((va_up nu d1 (some 0))) (sNew x d1 (0)) d1 ((va_up_self _ _ _))) (cwI 0 S.2.2.2.2 gX4_init_Jx4a65c_init_da8c8 rfl rfl rfl (S.2.2.2.2 _ (by decide +kernel)) (S.2.2.2.2 _ (by decide +kernel)) (S.2.2.2.2 _ (by decide +kernel)) rfl (by decide +kernel) ⟨Nat.le_of_ble_eq_true rfl, Nat.le_of_ble_eq_true rfl⟩) rfl hl.1 rfl (Nat.le_of_ble_eq_true rfl) dX4_init_9 ⟨Nat.le_of_ble_eq_true rfl, Nat.le_of_ble_eq_true rfl⟩ rfl (fun H locs hW hS => ?_)
  refine kx_pA S hK hW hS (kw_old hd2 ho) 0 250  rfl iX4 tyX4_ok nmX4 (by decide) rfl rfl (by decide) (by decide +kernel) (Or.inr ⟨rfl, hnm, rfl⟩) rfl (Or.inl ⟨_, rfl⟩) dX4_init_12 (fun H locs hW hS => ?_)
  refine lv_aload_n S.1 S.2.1 dX4_init_15 rfl (lv_at hl 0 rfl) ?_
  refine kw_new S hK hW hS hA 0 rfl iJx4a65c tyJx4a65c tyJx4a65c_ok (by decide) kw_dvJx4a65c (by decide +kernel) (by decide +kernel) (by decide +kernel) (by decide) (by decide) dX4_init_16 (fun d5 H hd6 hW hS => ?_)
  have n7 : ¬ o = d5 := kw_nb hd6 ((kw_old hd2 ho))
  have n8 : ¬ G.2.2.1 = d5 := kw_nb hd6 ((kw_old hd2 h11))
  have n9 : ¬ d1 = d5 := kw_nb hd6 ((va_up_self _ _ _))
  refine lv_dup S.1 S.2.1 dX4_init_19 rfl ?_
  refine kx_cI (As := []) (rest := [.ref d5, .ref o]) (st1 := [.ref d5, .ref o]) S hK hZ hA hW hS (c_Jx4a65c_init_da8c8 l G ((va_up (va_up nu d1 (some 0)) d5 (some 0))) (sNew (sR (sR (sI (sNew x d1 (0)) 0 d1 0) 1 d1 (some G.2.2.1)) 250 o (some d1)) d5 (0)) d5 ((va_up_self _ _ _))) (cwI 0 S.2.2.2.2 gX4_init_Jx4a65c_init_da8c8 rfl rfl rfl (S.2.2.2.2 _ (by decide +kernel)) (S.2.2.2.2 _ (by decide +kernel)) (S.2.2.2.2 _ (by decide +kernel)) rfl (by decide +kernel) ⟨Nat.le_of_ble_eq_true rfl, Nat.le_of_ble_eq_true rfl⟩) rfl hl.1 rfl (Nat.le_of_ble_eq_true rfl) dX4_init_20 ⟨Nat.le_of_ble_eq_true rfl, Nat.le_of_ble_eq_true rfl⟩ rfl (fun H locs hW hS => ?_)
  refine kx_pA S hK hW hS (kw_old hd6 (kw_old hd2 ho)) 1 251  rfl iX4 tyX4_ok nmX4 (by decide) rfl rfl (by decide) (by decide +kernel) (Or.inr ⟨rfl, hnm, rfl⟩) rfl (Or.inl ⟨_, rfl⟩) dX4_init_23 (fun H locs hW hS => ?_)
  refine lv_aload_n S.1 S.2.1 dX4_init_26 rfl (lv_at hl 0 rfl) ?_
  refine kw_new S hK hW hS hA 0 rfl iJx4a65c tyJx4a65c tyJx4a65c_ok (by decide) kw_dvJx4a65c (by decide +kernel) (by decide +kernel) (by decide +kernel) (by decide) (by decide) dX4_init_27 (fun d10 H hd11 hW hS => ?_)
  have n12 : ¬ o = d10 := kw_nb hd11 ((kw_old hd6 (kw_old hd2 ho)))
  have n13 : ¬ G.2.2.1 = d10 := kw_nb hd11 ((kw_old hd6 (kw_old hd2 h11)))
  have n14 : ¬ d1 = d10 := kw_nb hd11 ((kw_old hd6 (va_up_self _ _ _)))
  have n15 : ¬ d5 = d10 := kw_nb hd11 ((va_up_self _ _ _))
  refine lv_dup S.1 S.2.1 dX4_init_30 rfl ?_
  refine kx_cI (As := []) (rest := [.ref d10, .ref o]) (st1 := [.ref d10, .ref o]) S hK hZ hA hW hS (c_Jx4a65c_init_da8c8 l G ((va_up (va_up (va_up nu d1 (some 0)) d5 (some 0)) d10 (some 0))) (sNew (sR (sR (sI (sNew (sR (sR (sI (sNew x d1 (0)) 0 d1 0) 1 d1 (some G.2.2.1)) 250 o (some d1)) d5 (0)) 0 d5 0) 1 d5 (some G.2.2.1)) 251 o (some d5)) d10 (0)) d10 ((va_up_self _ _ _))) (cwI 0 S.2.2.2.2 gX4_init_Jx4a65c_init_da8c8 rfl rfl rfl (S.2.2.2.2 _ (by decide +kernel)) (S.2.2.2.2 _ (by decide +kernel)) (S.2.2.2.2 _ (by decide +kernel)) rfl (by decide +kernel) ⟨Nat.le_of_ble_eq_true rfl, Nat.le_of_ble_eq_true rfl⟩) rfl hl.1 rfl (Nat.le_of_ble_eq_true rfl) dX4_init_31 ⟨Nat.le_of_ble_eq_true rfl, Nat.le_of_ble_eq_true rfl⟩ rfl (fun H locs hW hS => ?_)
  refine kx_pA S hK hW hS (kw_old hd11 (kw_old hd6 (kw_old hd2 ho))) 2 252  rfl iX4 tyX4_ok nmX4 (by decide) rfl rfl (by decide) (by decide +kernel) (Or.inr ⟨rfl, hnm, rfl⟩) rfl (Or.inl ⟨_, rfl⟩) dX4_init_34 (fun H locs hW hS => ?_)
  refine lv_aload_n S.1 S.2.1 dX4_init_37 rfl (lv_at hl 0 rfl) ?_
  refine kw_new S hK hW hS hA 0 rfl iJx4a65c tyJx4a65c tyJx4a65c_ok (by decide) kw_dvJx4a65c (by decide +kernel) (by decide +kernel) (by decide +kernel) (by decide) (by decide) dX4_init_38 (fun d16 H hd17 hW hS => ?_)
  have n18 : ¬ o = d16 := kw_nb hd17 ((kw_old hd11 (kw_old hd6 (kw_old hd2 ho))))
  have n19 : ¬ G.2.2.1 = d16 := kw_nb hd17 ((kw_old hd11 (kw_old hd6 (kw_old hd2 h11))))
  have n20 : ¬ d1 = d16 := kw_nb hd17 ((kw_old hd11 (kw_old hd6 (va_up_self _ _ _))))
  have n21 : ¬ d5 = d16 := kw_nb hd17 ((kw_old hd11 (va_up_self _ _ _)))
  have n22 : ¬ d10 = d16 := kw_nb hd17 ((va_up_self _ _ _))
  refine lv_dup S.1 S.2.1 dX4_init_41 rfl ?_
  refine kx_cI (As := []) (rest := [.ref d16, .ref o]) (st1 := [.ref d16, .ref o]) S hK hZ hA hW hS (c_Jx4a65c_init_da8c8 l G ((va_up (va_up (va_up (va_up nu d1 (some 0)) d5 (some 0)) d10 (some 0)) d16 (some 0))) (sNew (sR (sR (sI (sNew (sR (sR (sI (sNew (sR (sR (sI (sNew x d1 (0)) 0 d1 0) 1 d1 (some G.2.2.1)) 250 o (some d1)) d5 (0)) 0 d5 0) 1 d5 (some G.2.2.1)) 251 o (some d5)) d10 (0)) 0 d10 0) 1 d10 (some G.2.2.1)) 252 o (some d10)) d16 (0)) d16 ((va_up_self _ _ _))) (cwI 0 S.2.2.2.2 gX4_init_Jx4a65c_init_da8c8 rfl rfl rfl (S.2.2.2.2 _ (by decide +kernel)) (S.2.2.2.2 _ (by decide +kernel)) (S.2.2.2.2 _ (by decide +kernel)) rfl (by decide +kernel) ⟨Nat.le_of_ble_eq_true rfl, Nat.le_of_ble_eq_true rfl⟩) rfl hl.1 rfl (Nat.le_of_ble_eq_true rfl) dX4_init_42 ⟨Nat.le_of_ble_eq_true rfl, Nat.le_of_ble_eq_true rfl⟩ rfl (fun H locs hW hS => ?_)
  refine kx_pA S hK hW hS (kw_old hd17 (kw_old hd11 (kw_old hd6 (kw_old hd2 ho)))) 3 253  rfl iX4 tyX4_ok nmX4 (by decide) rfl rfl (by decide) (by decide +kernel) (Or.inr ⟨rfl, hnm, rfl⟩) rfl (Or.inl ⟨_, rfl⟩) dX4_init_45 (fun H locs hW hS => ?_)
  refine lv_aload_n S.1 S.2.1 dX4_init_48 rfl (lv_at hl 0 rfl) ?_
  refine lv_iconst (v := 0) S.1 S.2.1 dX4_init_49 (by decide) ?_
  refine kx_pI S hK hW hS (kw_old hd17 (kw_old hd11 (kw_old hd6 (kw_old hd2 ho)))) 4 254  rfl iX4 tyX4_ok nmX4 (by decide) rfl rfl (by decide) (by decide +kernel) (Or.inl rfl) rfl dX4_init_50 (fun H locs hW hS => ?_)
  refine lv_aload_n S.1 S.2.1 dX4_init_53 rfl (lv_at hl 0 rfl) ?_
  refine lv_iconst (v := 0) S.1 S.2.1 dX4_init_54 (by decide) ?_
  refine kx_pI S hK hW hS (kw_old hd17 (kw_old hd11 (kw_old hd6 (kw_old hd2 ho)))) 5 255  rfl iX4 tyX4_ok nmX4 (by decide) rfl rfl (by decide) (by decide +kernel) (Or.inl rfl) rfl dX4_init_55 (fun H locs hW hS => ?_)
  refine lv_aload_n S.1 S.2.1 dX4_init_58 rfl (lv_at hl 0 rfl) ?_
  refine lv_iconst (v := 0) S.1 S.2.1 dX4_init_59 (by decide) ?_
  refine kx_pI S hK hW hS (kw_old hd17 (kw_old hd11 (kw_old hd6 (kw_old hd2 ho)))) 6 256  rfl iX4 tyX4_ok nmX4 (by decide) rfl rfl (by decide) (by decide +kernel) (Or.inl rfl) rfl dX4_init_60 (fun H locs hW hS => ?_)
  refine lv_aload_n S.1 S.2.1 dX4_init_63 rfl (lv_at hl 0 rfl) ?_
  refine lv_iconst (v := 0) S.1 S.2.1 dX4_init_64 (by decide) ?_
  refine kx_pI S hK hW hS (kw_old hd17 (kw_old hd11 (kw_old hd6 (kw_old hd2 ho)))) 7 257  rfl iX4 tyX4_ok nmX4 (by decide) rfl rfl (by decide) (by decide +kernel) (Or.inl rfl) rfl dX4_init_65 (fun H locs hW hS => ?_)
  refine lv_aload_n S.1 S.2.1 dX4_init_68 rfl (lv_at hl 0 rfl) ?_
  refine lv_lconst (v := 0) S.1 S.2.1 dX4_init_69 (by decide) ?_
  refine kx_pJ S hK hW hS (kw_old hd17 (kw_old hd11 (kw_old hd6 (kw_old hd2 ho)))) 8 258  rfl iX4 tyX4_ok nmX4 (by decide) rfl rfl (by decide) (by decide +kernel) (Or.inl rfl) rfl dX4_init_70 (fun H locs hW hS => ?_)
  refine kw_vret S hr hlk hW hS (by decide) (by decide) dX4_init_73 ?_
  exact ⟨rfl, (((nuX.up hd2).tr (nuX.up hd6)).tr (nuX.up hd11)).tr (nuX.up hd17), z_e0 G d1 d5 d10 d16, fun t ht => ⟨zw_init ht ho h11 hN hd2 hd6 hd11 hd17, zF_0 ht G d1 d5 d10 d16, rfl⟩⟩
set_option maxHeartbeats 1000000 in
set_option maxRecDepth 100000 in
/-- LinkShaperModel() -/
theorem c_X5_init (l : Launch) (G : kw_G) (nu : Nat → Option Nat) (x : kw_St) (mo : Nat) (hmo : nu mo = some 6) (hI0 : ∀ i, kI x i mo = 0) (hJ0 : kJ x 312 mo = 0) : kw_M l G yX5_init wsX5_init { frames := 1, cells := 32, slots := 9208, locals := 20 } 32 9208 [.ref mo] nu x (fun v nu' y => v = none ∧ nuX nu nu' ∧ ∃ ma t0, mw nu' x mo ma t0 y ∧ z_zero t0) := by
  refine kw_M.ofW (cc := cX5_init) (maxL := 1) (ret := none) (by decide) rfl (Nat.le_of_ble_eq_true rfl) ?_
  intro p e s m args below meth c A ls S hr hlk hnm hK hZ hA hW hS hl
  have hl : lv_has ls 1 [(0, .ref mo)] := hl
  have iX5 : ∀ w ∈ wsX50, w ∈ wsX5_init := by decide +kernel
  refine lv_aload_n S.1 S.2.1 dX5_init_0 rfl (lv_at hl 0 rfl) ?_
  refine W.objInit S.1 S.2.1 S.2.2.2.1 (S.2.2.2.2 _ (by decide +kernel)) (S.2.2.2.2 _ (by decide +kernel)) (S.2.2.2.2 _ (by decide +kernel)) rfl (by rw [S.2.2.1]; exact hl.1) rfl dX5_init_1 (Nat.le_of_ble_eq_true rfl) (Nat.le_of_ble_eq_true rfl) ?_
  refine W.eq (g2 := F0 m 4 ls []) rfl ?_
  refine lv_aload_n S.1 S.2.1 dX5_init_4 rfl (lv_at hl 0 rfl) ?_
  refine lv_iconst (v := (-1)) S.1 S.2.1 dX5_init_5 (by decide) ?_
  refine kx_pI S hK hW hS hmo 8 308  rfl iX5 tyX5_ok nmX5 (by decide) rfl rfl (by decide) (by decide +kernel) (Or.inl rfl) rfl dX5_init_6 (fun H locs hW hS => ?_)
  have hM := zM_0 hmo hI0 hJ0
  generalize sI x 308 mo (-1) = x at hW hM
  refine lv_aload_n S.1 S.2.1 dX5_init_9 rfl (lv_at hl 0 rfl) ?_
  refine lv_iconst (v := 4) S.1 S.2.1 dX5_init_10 (by decide) ?_
  refine kw_narr S hK hW hS hA 7 (by decide +kernel) (k := 4) rfl (by decide) (Or.inl ⟨rfl, rfl⟩) (by decide) (by decide) dX5_init_11 (fun b9 H hb9 hW hS => ?_)
  refine kx_pA S hK hW hS (kw_old hb9 hM.1) 9 309 rfl iX5 tyX5_ok nmX5 (by decide) rfl rfl (by decide) (by decide +kernel) (Or.inr ⟨rfl, hnm, rfl⟩) rfl (Or.inr ⟨_, rfl⟩) dX5_init_13 (fun H locs hW hS => ?_)
  have hM : ∃ D, zM _ _ mo 10 D (va_up nu b9 (some 7)) (sR (sNew x b9 4) 309 mo (some b9)) := ⟨_, zM_step (m := 10) hM hb9 (by decide)⟩
  obtain ⟨D, hM⟩ := hM
  generalize sR (sNew x b9 4) 309 mo (some b9) = x at hW hM
  generalize va_up nu b9 (some 7) = nu at hW hM
  refine lv_aload_n S.1 S.2.1 dX5_init_16 rfl (lv_at hl 0 rfl) ?_
  refine lv_iconst (v := 4) S.1 S.2.1 dX5_init_17 (by decide) ?_
  refine kw_narr S hK hW hS hA 8 (by decide +kernel) (k := 4) rfl (by decide) (Or.inr (Or.inl ⟨rfl, rfl⟩)) (by decide) (by decide) dX5_init_18 (fun b9 H hb9 hW hS => ?_)
  refine kx_pA S hK hW hS (kw_old hb9 hM.1) 10 310 rfl iX5 tyX5_ok nmX5 (by decide) rfl rfl (by decide) (by decide +kernel) (Or.inr ⟨rfl, hnm, rfl⟩) rfl (Or.inr ⟨_, rfl⟩) dX5_init_20 (fun H locs hW hS => ?_)
  have hM : ∃ D, zM _ _ mo 11 D (va_up nu b9 (some 8)) (sR (sNew x b9 4) 310 mo (some b9)) := ⟨_, zM_step (m := 11) hM hb9 (by decide)⟩
  obtain ⟨D, hM⟩ := hM
  generalize sR (sNew x b9 4) 310 mo (some b9) = x at hW hM
  generalize va_up nu b9 (some 8) = nu at hW hM
  refine lv_aload_n S.1 S.2.1 dX5_init_23 rfl (lv_at hl 0 rfl) ?_
  refine lv_iconst (v := 4) S.1 S.2.1 dX5_init_24 (by decide) ?_
  refine kw_narr S hK hW hS hA 8 (by decide +kernel) (k := 4) rfl (by decide) (Or.inr (Or.inl ⟨rfl, rfl⟩)) (by decide) (by decide) dX5_init_25 (fun b9 H hb9 hW hS => ?_)
  refine kx_pA S hK hW hS (kw_old hb9 hM.1) 11 311 rfl iX5 tyX5_ok nmX5 (by decide) rfl rfl (by decide) (by decide +kernel) (Or.inr ⟨rfl, hnm, rfl⟩) rfl (Or.inr ⟨_, rfl⟩) dX5_init_27 (fun H locs hW hS => ?_)
  have hM : ∃ D, zM _ _ mo 12 D (va_up nu b9 (some 8)) (sR (sNew x b9 4) 311 mo (some b9)) := ⟨_, zM_step (m := 12) hM hb9 (by decide)⟩
  obtain ⟨D, hM⟩ := hM
  generalize sR (sNew x b9 4) 311 mo (some b9) = x at hW hM
  generalize va_up nu b9 (some 8) = nu at hW hM
  refine lv_aload_n S.1 S.2.1 dX5_init_30 rfl (lv_at hl 0 rfl) ?_
  refine lv_bipush (v := 8) S.1 S.2.1 dX5_init_31 (by decide) ?_
  refine kw_narr S hK hW hS hA 7 (by decide +kernel) (k := 8) rfl (by decide) (Or.inl ⟨rfl, rfl⟩) (by decide) (by decide) dX5_init_33 (fun b9 H hb9 hW hS => ?_)
  refine kx_pA S hK hW hS (kw_old hb9 hM.1) 13 313 rfl iX5 tyX5_ok nmX5 (by decide) rfl rfl (by decide) (by decide +kernel) (Or.inr ⟨rfl, hnm, rfl⟩) rfl (Or.inr ⟨_, rfl⟩) dX5_init_35 (fun H locs hW hS => ?_)
  have hM : ∃ D, zM _ _ mo 14 D (va_up nu b9 (some 7)) (sR (sNew x b9 8) 313 mo (some b9)) := ⟨_, zM_step (m := 14) hM hb9 (by decide)⟩
  obtain ⟨D, hM⟩ := hM
  generalize sR (sNew x b9 8) 313 mo (some b9) = x at hW hM
  generalize va_up nu b9 (some 7) = nu at hW hM
  refine lv_aload_n S.1 S.2.1 dX5_init_38 rfl (lv_at hl 0 rfl) ?_
  refine lv_bipush (v := 8) S.1 S.2.1 dX5_init_39 (by decide) ?_
  refine kw_narr S hK hW hS hA 7 (by decide +kernel) (k := 8) rfl (by decide) (Or.inl ⟨rfl, rfl⟩) (by decide) (by decide) dX5_init_41 (fun b9 H hb9 hW hS => ?_)
  refine kx_pA S hK hW hS (kw_old hb9 hM.1) 14 314 rfl iX5 tyX5_ok nmX5 (by decide) rfl rfl (by decide) (by decide +kernel) (Or.inr ⟨rfl, hnm, rfl⟩) rfl (Or.inr ⟨_, rfl⟩) dX5_init_43 (fun H locs hW hS => ?_)
  have hM : ∃ D, zM _ _ mo 15 D (va_up nu b9 (some 7)) (sR (sNew x b9 8) 314 mo (some b9)) := ⟨_, zM_step (m := 15) hM hb9 (by decide)⟩
  obtain ⟨D, hM⟩ := hM
  generalize sR (sNew x b9 8) 314 mo (some b9) = x at hW hM
  generalize va_up nu b9 (some 7) = nu at hW hM
  refine lv_aload_n S.1 S.2.1 dX5_init_46 rfl (lv_at hl 0 rfl) ?_
  refine lv_bipush (v := 8) S.1 S.2.1 dX5_init_47 (by decide) ?_
  refine kw_narr S hK hW hS hA 7 (by decide +kernel) (k := 8) rfl (by decide) (Or.inl ⟨rfl, rfl⟩) (by decide) (by decide) dX5_init_49 (fun b9 H hb9 hW hS => ?_)
  refine kx_pA S hK hW hS (kw_old hb9 hM.1) 15 315 rfl iX5 tyX5_ok nmX5 (by decide) rfl rfl (by decide) (by decide +kernel) (Or.inr ⟨rfl, hnm, rfl⟩) rfl (Or.inr ⟨_, rfl⟩) dX5_init_51 (fun H locs hW hS => ?_)
  have hM : ∃ D, zM _ _ mo 16 D (va_up nu b9 (some 7)) (sR (sNew x b9 8) 315 mo (some b9)) := ⟨_, zM_step (m := 16) hM hb9 (by decide)⟩
  obtain ⟨D, hM⟩ := hM
  generalize sR (sNew x b9 8) 315 mo (some b9) = x at hW hM
  generalize va_up nu b9 (some 7) = nu at hW hM
  refine lv_aload_n S.1 S.2.1 dX5_init_54 rfl (lv_at hl 0 rfl) ?_
  refine lv_bipush (v := 8) S.1 S.2.1 dX5_init_55 (by decide) ?_
  refine kw_narr S hK hW hS hA 7 (by decide +kernel) (k := 8) rfl (by decide) (Or.inl ⟨rfl, rfl⟩) (by decide) (by decide) dX5_init_57 (fun b9 H hb9 hW hS => ?_)
  refine kx_pA S hK hW hS (kw_old hb9 hM.1) 16 316 rfl iX5 tyX5_ok nmX5 (by decide) rfl rfl (by decide) (by decide +kernel) (Or.inr ⟨rfl, hnm, rfl⟩) rfl (Or.inr ⟨_, rfl⟩) dX5_init_59 (fun H locs hW hS => ?_)
  have hM : ∃ D, zM _ _ mo 17 D (va_up nu b9 (some 7)) (sR (sNew x b9 8) 316 mo (some b9)) := ⟨_, zM_step (m := 17) hM hb9 (by decide)⟩
  obtain ⟨D, hM⟩ := hM
  generalize sR (sNew x b9 8) 316 mo (some b9) = x at hW hM
  generalize va_up nu b9 (some 7) = nu at hW hM
  refine lv_aload_n S.1 S.2.1 dX5_init_62 rfl (lv_at hl 0 rfl) ?_
  refine lv_bipush (v := 8) S.1 S.2.1 dX5_init_63 (by decide) ?_
  refine kw_narr S hK hW hS hA 7 (by decide +kernel) (k := 8) rfl (by decide) (Or.inl ⟨rfl, rfl⟩) (by decide) (by decide) dX5_init_65 (fun b9 H hb9 hW hS => ?_)
  refine kx_pA S hK hW hS (kw_old hb9 hM.1) 17 317 rfl iX5 tyX5_ok nmX5 (by decide) rfl rfl (by decide) (by decide +kernel) (Or.inr ⟨rfl, hnm, rfl⟩) rfl (Or.inr ⟨_, rfl⟩) dX5_init_67 (fun H locs hW hS => ?_)
  have hM : ∃ D, zM _ _ mo 18 D (va_up nu b9 (some 7)) (sR (sNew x b9 8) 317 mo (some b9)) := ⟨_, zM_step (m := 18) hM hb9 (by decide)⟩
  obtain ⟨D, hM⟩ := hM
  generalize sR (sNew x b9 8) 317 mo (some b9) = x at hW hM
  generalize va_up nu b9 (some 7) = nu at hW hM
  refine lv_aload_n S.1 S.2.1 dX5_init_70 rfl (lv_at hl 0 rfl) ?_
  refine lv_bipush (v := 8) S.1 S.2.1 dX5_init_71 (by decide) ?_
  refine kw_narr S hK hW hS hA 7 (by decide +kernel) (k := 8) rfl (by decide) (Or.inl ⟨rfl, rfl⟩) (by decide) (by decide) dX5_init_73 (fun b9 H hb9 hW hS => ?_)
  refine kx_pA S hK hW hS (kw_old hb9 hM.1) 18 318 rfl iX5 tyX5_ok nmX5 (by decide) rfl rfl (by decide) (by decide +kernel) (Or.inr ⟨rfl, hnm, rfl⟩) rfl (Or.inr ⟨_, rfl⟩) dX5_init_75 (fun H locs hW hS => ?_)
  have hM : ∃ D, zM _ _ mo 19 D (va_up nu b9 (some 7)) (sR (sNew x b9 8) 318 mo (some b9)) := ⟨_, zM_step (m := 19) hM hb9 (by decide)⟩
  obtain ⟨D, hM⟩ := hM
  generalize sR (sNew x b9 8) 318 mo (some b9) = x at hW hM
  generalize va_up nu b9 (some 7) = nu at hW hM
  refine lv_aload_n S.1 S.2.1 dX5_init_78 rfl (lv_at hl 0 rfl) ?_
  refine lv_bipush (v := 8) S.1 S.2.1 dX5_init_79 (by decide) ?_
  refine kw_narr S hK hW hS hA 7 (by decide +kernel) (k := 8) rfl (by decide) (Or.inl ⟨rfl, rfl⟩) (by decide) (by decide) dX5_init_81 (fun b9 H hb9 hW hS => ?_)
  refine kx_pA S hK hW hS (kw_old hb9 hM.1) 19 319 rfl iX5 tyX5_ok nmX5 (by decide) rfl rfl (by decide) (by decide +kernel) (Or.inr ⟨rfl, hnm, rfl⟩) rfl (Or.inr ⟨_, rfl⟩) dX5_init_83 (fun H locs hW hS => ?_)
  have hM : ∃ D, zM _ _ mo 20 D (va_up nu b9 (some 7)) (sR (sNew x b9 8) 319 mo (some b9)) := ⟨_, zM_step (m := 20) hM hb9 (by decide)⟩
  obtain ⟨D, hM⟩ := hM
  generalize sR (sNew x b9 8) 319 mo (some b9) = x at hW hM
  generalize va_up nu b9 (some 7) = nu at hW hM
  refine lv_aload_n S.1 S.2.1 dX5_init_86 rfl (lv_at hl 0 rfl) ?_
  refine lv_bipush (v := 8) S.1 S.2.1 dX5_init_87 (by decide) ?_
  refine kw_narr S hK hW hS hA 7 (by decide +kernel) (k := 8) rfl (by decide) (Or.inl ⟨rfl, rfl⟩) (by decide) (by decide) dX5_init_89 (fun b9 H hb9 hW hS => ?_)
  refine kx_pA S hK hW hS (kw_old hb9 hM.1) 20 320 rfl iX5 tyX5_ok nmX5 (by decide) rfl rfl (by decide) (by decide +kernel) (Or.inr ⟨rfl, hnm, rfl⟩) rfl (Or.inr ⟨_, rfl⟩) dX5_init_91 (fun H locs hW hS => ?_)
  have hM : ∃ D, zM _ _ mo 21 D (va_up nu b9 (some 7)) (sR (sNew x b9 8) 320 mo (some b9)) := ⟨_, zM_step (m := 21) hM hb9 (by decide)⟩
  obtain ⟨D, hM⟩ := hM
  generalize sR (sNew x b9 8) 320 mo (some b9) = x at hW hM
  generalize va_up nu b9 (some 7) = nu at hW hM
  refine lv_aload_n S.1 S.2.1 dX5_init_94 rfl (lv_at hl 0 rfl) ?_
  refine lv_bipush (v := 8) S.1 S.2.1 dX5_init_95 (by decide) ?_
  refine kw_narr S hK hW hS hA 7 (by decide +kernel) (k := 8) rfl (by decide) (Or.inl ⟨rfl, rfl⟩) (by decide) (by decide) dX5_init_97 (fun b9 H hb9 hW hS => ?_)
  refine kx_pA S hK hW hS (kw_old hb9 hM.1) 21 321 rfl iX5 tyX5_ok nmX5 (by decide) rfl rfl (by decide) (by decide +kernel) (Or.inr ⟨rfl, hnm, rfl⟩) rfl (Or.inr ⟨_, rfl⟩) dX5_init_99 (fun H locs hW hS => ?_)
  have hM : ∃ D, zM _ _ mo 22 D (va_up nu b9 (some 7)) (sR (sNew x b9 8) 321 mo (some b9)) := ⟨_, zM_step (m := 22) hM hb9 (by decide)⟩
  obtain ⟨D, hM⟩ := hM
  generalize sR (sNew x b9 8) 321 mo (some b9) = x at hW hM
  generalize va_up nu b9 (some 7) = nu at hW hM
  refine lv_aload_n S.1 S.2.1 dX5_init_102 rfl (lv_at hl 0 rfl) ?_
  refine lv_bipush (v := 8) S.1 S.2.1 dX5_init_103 (by decide) ?_
  refine kw_narr S hK hW hS hA 7 (by decide +kernel) (k := 8) rfl (by decide) (Or.inl ⟨rfl, rfl⟩) (by decide) (by decide) dX5_init_105 (fun b9 H hb9 hW hS => ?_)
  refine kx_pA S hK hW hS (kw_old hb9 hM.1) 22 322 rfl iX5 tyX5_ok nmX5 (by decide) rfl rfl (by decide) (by decide +kernel) (Or.inr ⟨rfl, hnm, rfl⟩) rfl (Or.inr ⟨_, rfl⟩) dX5_init_107 (fun H locs hW hS => ?_)
  have hM : ∃ D, zM _ _ mo 23 D (va_up nu b9 (some 7)) (sR (sNew x b9 8) 322 mo (some b9)) := ⟨_, zM_step (m := 23) hM hb9 (by decide)⟩
  obtain ⟨D, hM⟩ := hM
  generalize sR (sNew x b9 8) 322 mo (some b9) = x at hW hM
  generalize va_up nu b9 (some 7) = nu at hW hM
  refine lv_aload_n S.1 S.2.1 dX5_init_110 rfl (lv_at hl 0 rfl) ?_
  refine lv_bipush (v := 8) S.1 S.2.1 dX5_init_111 (by decide) ?_
  refine kw_narr S hK hW hS hA 7 (by decide +kernel) (k := 8) rfl (by decide) (Or.inl ⟨rfl, rfl⟩) (by decide) (by decide) dX5_init_113 (fun b9 H hb9 hW hS => ?_)
  refine kx_pA S hK hW hS (kw_old hb9 hM.1) 23 323 rfl iX5 tyX5_ok nmX5 (by decide) rfl rfl (by decide) (by decide +kernel) (Or.inr ⟨rfl, hnm, rfl⟩) rfl (Or.inr ⟨_, rfl⟩) dX5_init_115 (fun H locs hW hS => ?_)
  have hM : ∃ D, zM _ _ mo 24 D (va_up nu b9 (some 7)) (sR (sNew x b9 8) 323 mo (some b9)) := ⟨_, zM_step (m := 24) hM hb9 (by decide)⟩
  obtain ⟨D, hM⟩ := hM
  generalize sR (sNew x b9 8) 323 mo (some b9) = x at hW hM
  generalize va_up nu b9 (some 7) = nu at hW hM
  refine lv_aload_n S.1 S.2.1 dX5_init_118 rfl (lv_at hl 0 rfl) ?_
  refine lv_bipush (v := 8) S.1 S.2.1 dX5_init_119 (by decide) ?_
  refine kw_narr S hK hW hS hA 7 (by decide +kernel) (k := 8) rfl (by decide) (Or.inl ⟨rfl, rfl⟩) (by decide) (by decide) dX5_init_121 (fun b9 H hb9 hW hS => ?_)
  refine kx_pA S hK hW hS (kw_old hb9 hM.1) 24 324 rfl iX5 tyX5_ok nmX5 (by decide) rfl rfl (by decide) (by decide +kernel) (Or.inr ⟨rfl, hnm, rfl⟩) rfl (Or.inr ⟨_, rfl⟩) dX5_init_123 (fun H locs hW hS => ?_)
  have hM : ∃ D, zM _ _ mo 25 D (va_up nu b9 (some 7)) (sR (sNew x b9 8) 324 mo (some b9)) := ⟨_, zM_step (m := 25) hM hb9 (by decide)⟩
  obtain ⟨D, hM⟩ := hM
  generalize sR (sNew x b9 8) 324 mo (some b9) = x at hW hM
  generalize va_up nu b9 (some 7) = nu at hW hM
  refine lv_aload_n S.1 S.2.1 dX5_init_126 rfl (lv_at hl 0 rfl) ?_
  refine lv_bipush (v := 8) S.1 S.2.1 dX5_init_127 (by decide) ?_
  refine kw_narr S hK hW hS hA 7 (by decide +kernel) (k := 8) rfl (by decide) (Or.inl ⟨rfl, rfl⟩) (by decide) (by decide) dX5_init_129 (fun b9 H hb9 hW hS => ?_)
  refine kx_pA S hK hW hS (kw_old hb9 hM.1) 25 325 rfl iX5 tyX5_ok nmX5 (by decide) rfl rfl (by decide) (by decide +kernel) (Or.inr ⟨rfl, hnm, rfl⟩) rfl (Or.inr ⟨_, rfl⟩) dX5_init_131 (fun H locs hW hS => ?_)
  have hM : ∃ D, zM _ _ mo 26 D (va_up nu b9 (some 7)) (sR (sNew x b9 8) 325 mo (some b9)) := ⟨_, zM_step (m := 26) hM hb9 (by decide)⟩
  obtain ⟨D, hM⟩ := hM
  generalize sR (sNew x b9 8) 325 mo (some b9) = x at hW hM
  generalize va_up nu b9 (some 7) = nu at hW hM
  refine lv_aload_n S.1 S.2.1 dX5_init_134 rfl (lv_at hl 0 rfl) ?_
  refine lv_bipush (v := 8) S.1 S.2.1 dX5_init_135 (by decide) ?_
  refine kw_narr S hK hW hS hA 7 (by decide +kernel) (k := 8) rfl (by decide) (Or.inl ⟨rfl, rfl⟩) (by decide) (by decide) dX5_init_137 (fun b9 H hb9 hW hS => ?_)
  refine kx_pA S hK hW hS (kw_old hb9 hM.1) 26 326 rfl iX5 tyX5_ok nmX5 (by decide) rfl rfl (by decide) (by decide +kernel) (Or.inr ⟨rfl, hnm, rfl⟩) rfl (Or.inr ⟨_, rfl⟩) dX5_init_139 (fun H locs hW hS => ?_)
  have hM : ∃ D, zM _ _ mo 27 D (va_up nu b9 (some 7)) (sR (sNew x b9 8) 326 mo (some b9)) := ⟨_, zM_step (m := 27) hM hb9 (by decide)⟩
  obtain ⟨D, hM⟩ := hM
  generalize sR (sNew x b9 8) 326 mo (some b9) = x at hW hM
  generalize va_up nu b9 (some 7) = nu at hW hM
  refine lv_aload_n S.1 S.2.1 dX5_init_142 rfl (lv_at hl 0 rfl) ?_
  refine lv_bipush (v := 8) S.1 S.2.1 dX5_init_143 (by decide) ?_
  refine kw_narr S hK hW hS hA 8 (by decide +kernel) (k := 8) rfl (by decide) (Or.inr (Or.inl ⟨rfl, rfl⟩)) (by decide) (by decide) dX5_init_145 (fun b9 H hb9 hW hS => ?_)
  refine kx_pA S hK hW hS (kw_old hb9 hM.1) 27 327 rfl iX5 tyX5_ok nmX5 (by decide) rfl rfl (by decide) (by decide +kernel) (Or.inr ⟨rfl, hnm, rfl⟩) rfl (Or.inr ⟨_, rfl⟩) dX5_init_147 (fun H locs hW hS => ?_)
  have hM : ∃ D, zM _ _ mo 28 D (va_up nu b9 (some 8)) (sR (sNew x b9 8) 327 mo (some b9)) := ⟨_, zM_step (m := 28) hM hb9 (by decide)⟩
  obtain ⟨D, hM⟩ := hM
  generalize sR (sNew x b9 8) 327 mo (some b9) = x at hW hM
  generalize va_up nu b9 (some 8) = nu at hW hM
  refine lv_aload_n S.1 S.2.1 dX5_init_150 rfl (lv_at hl 0 rfl) ?_
  refine lv_bipush (v := 8) S.1 S.2.1 dX5_init_151 (by decide) ?_
  refine kw_narr S hK hW hS hA 9 (by decide +kernel) (k := 8) rfl (by decide) (Or.inr (Or.inr ⟨rfl, rfl⟩)) (by decide) (by decide) dX5_init_153 (fun b9 H hb9 hW hS => ?_)
  refine kx_pA S hK hW hS (kw_old hb9 hM.1) 28 328 rfl iX5 tyX5_ok nmX5 (by decide) rfl rfl (by decide) (by decide +kernel) (Or.inr ⟨rfl, hnm, rfl⟩) rfl (Or.inr ⟨_, rfl⟩) dX5_init_155 (fun H locs hW hS => ?_)
  have hM : ∃ D, zM _ _ mo 29 D (va_up nu b9 (some 9)) (sR (sNew x b9 8) 328 mo (some b9)) := ⟨_, zM_step (m := 29) hM hb9 (by decide)⟩
  obtain ⟨D, hM⟩ := hM
  generalize sR (sNew x b9 8) 328 mo (some b9) = x at hW hM
  generalize va_up nu b9 (some 9) = nu at hW hM
  refine lv_aload_n S.1 S.2.1 dX5_init_158 rfl (lv_at hl 0 rfl) ?_
  refine lv_bipush (v := 8) S.1 S.2.1 dX5_init_159 (by decide) ?_
  refine kw_narr S hK hW hS hA 9 (by decide +kernel) (k := 8) rfl (by decide) (Or.inr (Or.inr ⟨rfl, rfl⟩)) (by decide) (by decide) dX5_init_161 (fun b9 H hb9 hW hS => ?_)
  refine kx_pA S hK hW hS (kw_old hb9 hM.1) 29 329 rfl iX5 tyX5_ok nmX5 (by decide) rfl rfl (by decide) (by decide +kernel) (Or.inr ⟨rfl, hnm, rfl⟩) rfl (Or.inr ⟨_, rfl⟩) dX5_init_163 (fun H locs hW hS => ?_)
  have hM : ∃ D, zM _ _ mo 30 D (va_up nu b9 (some 9)) (sR (sNew x b9 8) 329 mo (some b9)) := ⟨_, zM_step (m := 30) hM hb9 (by decide)⟩
  obtain ⟨D, hM⟩ := hM
  generalize sR (sNew x b9 8) 329 mo (some b9) = x at hW hM
  generalize va_up nu b9 (some 9) = nu at hW hM
  refine lv_aload_n S.1 S.2.1 dX5_init_166 rfl (lv_at hl 0 rfl) ?_
  refine lv_bipush (v := 20) S.1 S.2.1 dX5_init_167 (by decide) ?_
  refine kw_narr S hK hW hS hA 7 (by decide +kernel) (k := 20) rfl (by decide) (Or.inl ⟨rfl, rfl⟩) (by decide) (by decide) dX5_init_169 (fun b9 H hb9 hW hS => ?_)
  refine kx_pA S hK hW hS (kw_old hb9 hM.1) 30 330 rfl iX5 tyX5_ok nmX5 (by decide) rfl rfl (by decide) (by decide +kernel) (Or.inr ⟨rfl, hnm, rfl⟩) rfl (Or.inr ⟨_, rfl⟩) dX5_init_171 (fun H locs hW hS => ?_)
  have hM : ∃ D, zM _ _ mo 31 D (va_up nu b9 (some 7)) (sR (sNew x b9 20) 330 mo (some b9)) := ⟨_, zM_step (m := 31) hM hb9 (by decide)⟩
  obtain ⟨D, hM⟩ := hM
  generalize sR (sNew x b9 20) 330 mo (some b9) = x at hW hM
  generalize va_up nu b9 (some 7) = nu at hW hM
  refine lv_aload_n S.1 S.2.1 dX5_init_174 rfl (lv_at hl 0 rfl) ?_
  refine lv_bipush (v := 20) S.1 S.2.1 dX5_init_175 (by decide) ?_
  refine kw_narr S hK hW hS hA 7 (by decide +kernel) (k := 20) rfl (by decide) (Or.inl ⟨rfl, rfl⟩) (by decide) (by decide) dX5_init_177 (fun b9 H hb9 hW hS => ?_)
  refine kx_pA S hK hW hS (kw_old hb9 hM.1) 31 331 rfl iX5 tyX5_ok nmX5 (by decide) rfl rfl (by decide) (by decide +kernel) (Or.inr ⟨rfl, hnm, rfl⟩) rfl (Or.inr ⟨_, rfl⟩) dX5_init_179 (fun H locs hW hS => ?_)
  have hM : ∃ D, zM _ _ mo 32 D (va_up nu b9 (some 7)) (sR (sNew x b9 20) 331 mo (some b9)) := ⟨_, zM_step (m := 32) hM hb9 (by decide)⟩
  obtain ⟨D, hM⟩ := hM
  generalize sR (sNew x b9 20) 331 mo (some b9) = x at hW hM
  generalize va_up nu b9 (some 7) = nu at hW hM
  refine lv_aload_n S.1 S.2.1 dX5_init_182 rfl (lv_at hl 0 rfl) ?_
  refine lv_bipush (v := 20) S.1 S.2.1 dX5_init_183 (by decide) ?_
  refine kw_narr S hK hW hS hA 8 (by decide +kernel) (k := 20) rfl (by decide) (Or.inr (Or.inl ⟨rfl, rfl⟩)) (by decide) (by decide) dX5_init_185 (fun b9 H hb9 hW hS => ?_)
  refine kx_pA S hK hW hS (kw_old hb9 hM.1) 32 332 rfl iX5 tyX5_ok nmX5 (by decide) rfl rfl (by decide) (by decide +kernel) (Or.inr ⟨rfl, hnm, rfl⟩) rfl (Or.inr ⟨_, rfl⟩) dX5_init_187 (fun H locs hW hS => ?_)
  have hM : ∃ D, zM _ _ mo 33 D (va_up nu b9 (some 8)) (sR (sNew x b9 20) 332 mo (some b9)) := ⟨_, zM_step (m := 33) hM hb9 (by decide)⟩
  obtain ⟨D, hM⟩ := hM
  generalize sR (sNew x b9 20) 332 mo (some b9) = x at hW hM
  generalize va_up nu b9 (some 8) = nu at hW hM
  refine lv_aload_n S.1 S.2.1 dX5_init_190 rfl (lv_at hl 0 rfl) ?_
  refine lv_sipush (v := 1000) S.1 S.2.1 dX5_init_191 (by decide) ?_
  refine kw_narr S hK hW hS hA 7 (by decide +kernel) (k := 1000) rfl (by decide) (Or.inl ⟨rfl, rfl⟩) (by decide) (by decide) dX5_init_194 (fun b9 H hb9 hW hS => ?_)
  refine kx_pA S hK hW hS (kw_old hb9 hM.1) 33 333 rfl iX5 tyX5_ok nmX5 (by decide) rfl rfl (by decide) (by decide +kernel) (Or.inr ⟨rfl, hnm, rfl⟩) rfl (Or.inr ⟨_, rfl⟩) dX5_init_196 (fun H locs hW hS => ?_)
  have hM : ∃ D, zM _ _ mo 34 D (va_up nu b9 (some 7)) (sR (sNew x b9 1000) 333 mo (some b9)) := ⟨_, zM_step (m := 34) hM hb9 (by decide)⟩
  obtain ⟨D, hM⟩ := hM
  generalize sR (sNew x b9 1000) 333 mo (some b9) = x at hW hM
  generalize va_up nu b9 (some 7) = nu at hW hM
  refine lv_aload_n S.1 S.2.1 dX5_init_199 rfl (lv_at hl 0 rfl) ?_
  refine lv_sipush (v := 1000) S.1 S.2.1 dX5_init_200 (by decide) ?_
  refine kw_narr S hK hW hS hA 7 (by decide +kernel) (k := 1000) rfl (by decide) (Or.inl ⟨rfl, rfl⟩) (by decide) (by decide) dX5_init_203 (fun b9 H hb9 hW hS => ?_)
  refine kx_pA S hK hW hS (kw_old hb9 hM.1) 34 334 rfl iX5 tyX5_ok nmX5 (by decide) rfl rfl (by decide) (by decide +kernel) (Or.inr ⟨rfl, hnm, rfl⟩) rfl (Or.inr ⟨_, rfl⟩) dX5_init_205 (fun H locs hW hS => ?_)
  have hM : ∃ D, zM _ _ mo 35 D (va_up nu b9 (some 7)) (sR (sNew x b9 1000) 334 mo (some b9)) := ⟨_, zM_step (m := 35) hM hb9 (by decide)⟩
  obtain ⟨D, hM⟩ := hM
  generalize sR (sNew x b9 1000) 334 mo (some b9) = x at hW hM
  generalize va_up nu b9 (some 7) = nu at hW hM
  refine lv_aload_n S.1 S.2.1 dX5_init_208 rfl (lv_at hl 0 rfl) ?_
  refine lv_sipush (v := 1000) S.1 S.2.1 dX5_init_209 (by decide) ?_
  refine kw_narr S hK hW hS hA 7 (by decide +kernel) (k := 1000) rfl (by decide) (Or.inl ⟨rfl, rfl⟩) (by decide) (by decide) dX5_init_212 (fun b9 H hb9 hW hS => ?_)
  refine kx_pA S hK hW hS (kw_old hb9 hM.1) 35 335 rfl iX5 tyX5_ok nmX5 (by decide) rfl rfl (by decide) (by decide +kernel) (Or.inr ⟨rfl, hnm, rfl⟩) rfl (Or.inr ⟨_, rfl⟩) dX5_init_214 (fun H locs hW hS => ?_)
  have hM : ∃ D, zM _ _ mo 36 D (va_up nu b9 (some 7)) (sR (sNew x b9 1000) 335 mo (some b9)) := ⟨_, zM_step (m := 36) hM hb9 (by decide)⟩
  obtain ⟨D, hM⟩ := hM
  generalize sR (sNew x b9 1000) 335 mo (some b9) = x at hW hM
  generalize va_up nu b9 (some 7) = nu at hW hM
  refine lv_aload_n S.1 S.2.1 dX5_init_217 rfl (lv_at hl 0 rfl) ?_
  refine lv_sipush (v := 1000) S.1 S.2.1 dX5_init_218 (by decide) ?_
  refine kw_narr S hK hW hS hA 7 (by decide +kernel) (k := 1000) rfl (by decide) (Or.inl ⟨rfl, rfl⟩) (by decide) (by decide) dX5_init_221 (fun b9 H hb9 hW hS => ?_)
  refine kx_pA S hK hW hS (kw_old hb9 hM.1) 36 336 rfl iX5 tyX5_ok nmX5 (by decide) rfl rfl (by decide) (by decide +kernel) (Or.inr ⟨rfl, hnm, rfl⟩) rfl (Or.inr ⟨_, rfl⟩) dX5_init_223 (fun H locs hW hS => ?_)
  have hM : ∃ D, zM _ _ mo 37 D (va_up nu b9 (some 7)) (sR (sNew x b9 1000) 336 mo (some b9)) := ⟨_, zM_step (m := 37) hM hb9 (by decide)⟩
  obtain ⟨D, hM⟩ := hM
  generalize sR (sNew x b9 1000) 336 mo (some b9) = x at hW hM
  generalize va_up nu b9 (some 7) = nu at hW hM
  refine lv_aload_n S.1 S.2.1 dX5_init_226 rfl (lv_at hl 0 rfl) ?_
  refine lv_sipush (v := 1000) S.1 S.2.1 dX5_init_227 (by decide) ?_
  refine kw_narr S hK hW hS hA 7 (by decide +kernel) (k := 1000) rfl (by decide) (Or.inl ⟨rfl, rfl⟩) (by decide) (by decide) dX5_init_230 (fun b9 H hb9 hW hS => ?_)
  refine kx_pA S hK hW hS (kw_old hb9 hM.1) 37 337 rfl iX5 tyX5_ok nmX5 (by decide) rfl rfl (by decide) (by decide +kernel) (Or.inr ⟨rfl, hnm, rfl⟩) rfl (Or.inr ⟨_, rfl⟩) dX5_init_232 (fun H locs hW hS => ?_)
  have hM : ∃ D, zM _ _ mo 38 D (va_up nu b9 (some 7)) (sR (sNew x b9 1000) 337 mo (some b9)) := ⟨_, zM_step (m := 38) hM hb9 (by decide)⟩
  obtain ⟨D, hM⟩ := hM
  generalize sR (sNew x b9 1000) 337 mo (some b9) = x at hW hM
  generalize va_up nu b9 (some 7) = nu at hW hM
  refine lv_aload_n S.1 S.2.1 dX5_init_235 rfl (lv_at hl 0 rfl) ?_
  refine lv_sipush (v := 1000) S.1 S.2.1 dX5_init_236 (by decide) ?_
  refine kw_narr S hK hW hS hA 7 (by decide +kernel) (k := 1000) rfl (by decide) (Or.inl ⟨rfl, rfl⟩) (by decide) (by decide) dX5_init_239 (fun b9 H hb9 hW hS => ?_)
  refine kx_pA S hK hW hS (kw_old hb9 hM.1) 38 338 rfl iX5 tyX5_ok nmX5 (by decide) rfl rfl (by decide) (by decide +kernel) (Or.inr ⟨rfl, hnm, rfl⟩) rfl (Or.inr ⟨_, rfl⟩) dX5_init_241 (fun H locs hW hS => ?_)
  have hM : ∃ D, zM _ _ mo 39 D (va_up nu b9 (some 7)) (sR (sNew x b9 1000) 338 mo (some b9)) := ⟨_, zM_step (m := 39) hM hb9 (by decide)⟩
  obtain ⟨D, hM⟩ := hM
  generalize sR (sNew x b9 1000) 338 mo (some b9) = x at hW hM
  generalize va_up nu b9 (some 7) = nu at hW hM
  refine lv_aload_n S.1 S.2.1 dX5_init_244 rfl (lv_at hl 0 rfl) ?_
  refine lv_sipush (v := 1000) S.1 S.2.1 dX5_init_245 (by decide) ?_
  refine kw_narr S hK hW hS hA 7 (by decide +kernel) (k := 1000) rfl (by decide) (Or.inl ⟨rfl, rfl⟩) (by decide) (by decide) dX5_init_248 (fun b9 H hb9 hW hS => ?_)
  refine kx_pA S hK hW hS (kw_old hb9 hM.1) 39 339 rfl iX5 tyX5_ok nmX5 (by decide) rfl rfl (by decide) (by decide +kernel) (Or.inr ⟨rfl, hnm, rfl⟩) rfl (Or.inr ⟨_, rfl⟩) dX5_init_250 (fun H locs hW hS => ?_)
  have hM : ∃ D, zM _ _ mo 40 D (va_up nu b9 (some 7)) (sR (sNew x b9 1000) 339 mo (some b9)) := ⟨_, zM_step (m := 40) hM hb9 (by decide)⟩
  obtain ⟨D, hM⟩ := hM
  generalize sR (sNew x b9 1000) 339 mo (some b9) = x at hW hM
  generalize va_up nu b9 (some 7) = nu at hW hM
  refine lv_aload_n S.1 S.2.1 dX5_init_253 rfl (lv_at hl 0 rfl) ?_
  refine lv_sipush (v := 1000) S.1 S.2.1 dX5_init_254 (by decide) ?_
  refine kw_narr S hK hW hS hA 7 (by decide +kernel) (k := 1000) rfl (by decide) (Or.inl ⟨rfl, rfl⟩) (by decide) (by decide) dX5_init_257 (fun b9 H hb9 hW hS => ?_)
  refine kx_pA S hK hW hS (kw_old hb9 hM.1) 40 340 rfl iX5 tyX5_ok nmX5 (by decide) rfl rfl (by decide) (by decide +kernel) (Or.inr ⟨rfl, hnm, rfl⟩) rfl (Or.inr ⟨_, rfl⟩) dX5_init_259 (fun H locs hW hS => ?_)
  have hM : ∃ D, zM _ _ mo 41 D (va_up nu b9 (some 7)) (sR (sNew x b9 1000) 340 mo (some b9)) := ⟨_, zM_step (m := 41) hM hb9 (by decide)⟩
  obtain ⟨D, hM⟩ := hM
  generalize sR (sNew x b9 1000) 340 mo (some b9) = x at hW hM
  generalize va_up nu b9 (some 7) = nu at hW hM
  refine lv_aload_n S.1 S.2.1 dX5_init_262 rfl (lv_at hl 0 rfl) ?_
  refine lv_sipush (v := 1000) S.1 S.2.1 dX5_init_263 (by decide) ?_
  refine kw_narr S hK hW hS hA 9 (by decide +kernel) (k := 1000) rfl (by decide) (Or.inr (Or.inr ⟨rfl, rfl⟩)) (by decide) (by decide) dX5_init_266 (fun b9 H hb9 hW hS => ?_)
  refine kx_pA S hK hW hS (kw_old hb9 hM.1) 41 341 rfl iX5 tyX5_ok nmX5 (by decide) rfl rfl (by decide) (by decide +kernel) (Or.inr ⟨rfl, hnm, rfl⟩) rfl (Or.inr ⟨_, rfl⟩) dX5_init_268 (fun H locs hW hS => ?_)
  have hM : ∃ D, zM _ _ mo 42 D (va_up nu b9 (some 9)) (sR (sNew x b9 1000) 341 mo (some b9)) := ⟨_, zM_step (m := 42) hM hb9 (by decide)⟩
  obtain ⟨D, hM⟩ := hM
  generalize sR (sNew x b9 1000) 341 mo (some b9) = x at hW hM
  generalize va_up nu b9 (some 9) = nu at hW hM
  refine kw_vret S hr hlk hW hS (by decide) (by decide) dX5_init_271 ?_
  obtain ⟨ma, t0, h1, h2⟩ := zM_mw hM
  exact ⟨rfl, hM.2.1, ma, t0, h1, h2⟩
set_option maxHeartbeats 1000000 in
set_option maxRecDepth 100000 in
/-- run that is refused -/
theorem c_X5_run_o (l : Launch) (G : kw_G) (nu : Nat → Option Nat) (x z : kw_St) (mo : Nat) (ma : Nat → Nat) (t : mo_T) (ti : Int32) (hm : mw nu z mo ma t x) (hro : m_rok t ti = false) : kw_M l G yX5_run wsX5_run { frames := 3, cells := 0, slots := 0, locals := 73 } 0 0 [.ref mo, .int (ti)] nu x (fun v nu' y => v = some (.int (-1)) ∧ nu' = nu ∧ mw nu z mo ma (t) y) := by
  refine kw_M.ofW (cc := cX5_run) (maxL := 5) (ret := (some .int)) (by decide) rfl (Nat.le_of_ble_eq_true rfl) ?_
  intro p e s m args below meth c A ls S hr hlk hnm hK hZ hA hW hS hl
  have hl : lv_has ls 5 [(0, .ref mo), (1, .int (ti))] := hl
  have iX5 : ∀ w ∈ wsX50, w ∈ wsX5_run := by decide +kernel
  refine lv_iload_n S.1 S.2.1 dX5_run_0 rfl (lv_at hl 1 rfl) ?_
  refine lv_iconst (v := 1) S.1 S.2.1 dX5_run_1 (by decide) ?_
  refine lv_ldc (v := 100000) S.1 S.2.1 S.2.2.2.1 (S.2.2.2.2 _ (by decide +kernel)) dX5_run_2 ?_
  refine kx_cS (As := [.int (ti), .int (1), .int (100000)]) (rest := []) (st1 := [.int (kw_b (kw_wi ti 1 100000 = true))]) S hK hZ hA hW hS (c_X5_in l G nu x ti 1 100000 ) (va_cwS 3 S.2.2.2.2 gX5_run_X5_in rfl rfl rfl (by decide +kernel) ⟨Nat.le_of_ble_eq_true rfl, Nat.le_of_ble_eq_true rfl⟩) rfl hl.1 rfl (Nat.le_of_ble_eq_true rfl) dX5_run_4 ⟨Nat.le_of_ble_eq_true rfl, Nat.le_of_ble_eq_true rfl⟩ rfl (fun H locs hW hS => ?_)
  refine kx_ifz_eq (tgt := 21) S dX5_run_7 (by decide) (fun c1 => ?_) (fun c1 => ?_)
  · skip
    refine lv_iconst (v := (-1)) S.1 S.2.1 dX5_run_21 (by decide) ?_
    refine kw_iret S hr hlk hW hS (by decide) (by decide) dX5_run_22 ?_
    refine ⟨?_, rfl, hm.to ?_⟩ <;> first | rfl | (simp [c1, kw_b]; done) | (simp [c1, kw_b, tF_uF, tF_uL, tF_uA, tF_uB, tL_uF, tL_uL, tL_uA, tL_uB, tA_uF, tA_uL, tA_uA, tA_uB, tB_uF, tB_uL, tB_uA, tB_uB]; done) | contradiction
  · skip
    refine lv_aload_n S.1 S.2.1 dX5_run_10 rfl (lv_at hl 0 rfl) ?_
    refine mx_gI S hK hm hW 1 iX5 rfl (by decide) (by decide +kernel) dX5_run_11 (v := tF t 1) rfl ?_
    refine lv_ldc (v := 1000000000) S.1 S.2.1 S.2.2.2.1 (S.2.2.2.2 _ (by decide +kernel)) dX5_run_14 ?_
    refine lv_iload_n S.1 S.2.1 dX5_run_16 rfl (lv_at hl 1 rfl) ?_
    refine lv_isub S.1 S.2.1 dX5_run_17 ?_
    refine lv_icmp_le (tgt := 23) S.1 S.2.1 dX5_run_18 (by decide) (fun c2 => ?_) (fun c2 => ?_)
    · skip
      exact absurd hro (by simp [m_rok, c1, c2])
    · skip
      refine lv_iconst (v := (-1)) S.1 S.2.1 dX5_run_21 (by decide) ?_
      refine kw_iret S hr hlk hW hS (by decide) (by decide) dX5_run_22 ?_
      refine ⟨?_, rfl, hm.to ?_⟩ <;> first | rfl | (simp [c1, c2, kw_b]; done) | (simp [c1, c2, kw_b, tF_uF, tF_uL, tF_uA, tF_uB, tL_uF, tL_uL, tL_uA, tL_uB, tA_uF, tA_uL, tA_uA, tA_uB, tB_uF, tB_uL, tB_uA, tB_uB]; done) | contradiction
set_option maxHeartbeats 1000000 in
set_option maxRecDepth 100000 in
/-- arrive, at a class that is not there -/
theorem c_X5_arrive_n (l : Launch) (G : kw_G) (nu : Nat → Option Nat) (x z : kw_St) (mo : Nat) (ma : Nat → Nat) (t : mo_T) (k : Nat) (sz : Int32) (nl : Nat) (np : Nat) (hm : mw nu z mo ma t x) (hk : k < 1000) (hkn : ¬ k < nl) (hnl : tF t 3 = nI nl) (hn8 : nl ≤ 8) (hnp : tF t 4 = nI np) (hp9 : np ≤ 1000) : kw_M l G yX5_arrive wsX5_arrive { frames := 1, cells := 0, slots := 0, locals := 22 } 0 0 [.ref mo, .int (nI k), .int (sz)] nu x (fun v nu' y => v = some (.int (-1)) ∧ nu' = nu ∧ mw nu z mo ma (t) y) := by
  refine kw_M.ofW (cc := cX5_arrive) (maxL := 7) (ret := (some .int)) (by decide) rfl (Nat.le_of_ble_eq_true rfl) ?_
  intro p e s m args below meth c A ls S hr hlk hnm hK hZ hA hW hS hl
  have hl : lv_has ls 7 [(0, .ref mo), (1, .int (nI k)), (2, .int (sz))] := hl
  have iX5 : ∀ w ∈ wsX50, w ∈ wsX5_arrive := by decide +kernel
  refine lv_iload_n S.1 S.2.1 dX5_arrive_0 rfl (lv_at hl 1 rfl) ?_
  refine lv_iconst (v := 0) S.1 S.2.1 dX5_arrive_1 (by decide) ?_
  refine lv_aload_n S.1 S.2.1 dX5_arrive_2 rfl (lv_at hl 0 rfl) ?_
  refine mx_gI S hK hm hW 3 iX5 rfl (by decide) (by decide +kernel) dX5_arrive_3 (v := nI nl) hnl ?_
  refine lv_iconst (v := 1) S.1 S.2.1 dX5_arrive_6 (by decide) ?_
  refine lv_isub S.1 S.2.1 dX5_arrive_7 ?_
  refine kx_cS (As := [.int (nI k), .int (0), .int ((nI nl) - (1))]) (rest := []) (st1 := [.int (kw_b (kw_wi (nI k) 0 ((nI nl) - (1)) = true))]) S hK hZ hA hW hS (c_X5_in l G nu x (nI k) 0 ((nI nl) - (1)) ) (va_cwS 3 S.2.2.2.2 gX5_arrive_X5_in rfl rfl rfl (by decide +kernel) ⟨Nat.le_of_ble_eq_true rfl, Nat.le_of_ble_eq_true rfl⟩) rfl hl.1 rfl (Nat.le_of_ble_eq_true rfl) dX5_arrive_8 ⟨Nat.le_of_ble_eq_true rfl, Nat.le_of_ble_eq_true rfl⟩ rfl (fun H locs hW hS => ?_)
  refine kx_ifz_eq (tgt := 36) S dX5_arrive_11 (by decide) (fun c1 => ?_) (fun c1 => ?_)
  · skip
    refine lv_iconst (v := (-1)) S.1 S.2.1 dX5_arrive_36 (by decide) ?_
    refine kw_iret S hr hlk hW hS (by decide) (by decide) dX5_arrive_37 ?_
    refine ⟨?_, rfl, hm.to ?_⟩ <;> first | rfl | (simp [c1, kw_b]; done) | (simp [c1, kw_b, tF_uF, tF_uL, tF_uA, tF_uB, tL_uF, tL_uL, tL_uA, tL_uB, tA_uF, tA_uL, tA_uA, tA_uB, tB_uF, tB_uL, tB_uA, tB_uB]; done) | contradiction
  · skip
    exact absurd c1 (by rw [kw_wi_nI hk (by omega)]; simp [hkn])
