/-! the law's twelve calls -/
set_option maxHeartbeats 2000000 in
set_option maxRecDepth 100000 in
theorem law_c0 {p : Program} {l : Launch} {e : Env} {s : State} {m : MethodId} {below : List Frame} {meth : Method} {c : Code} {G : kw_G} {b L o mo : Nat} {ma : Nat → Nat} {xs : Nat → Int32} {Q : State → Prop} (S : CallFix p m c cL_law 4 s #[Value.ref b] wsL_law RL) (hK : kw_K G s) (hZ : kw_Z G (fun q => s.heap.size ≤ q) s s.heap) (hX : va_X b L xs s s.heap) (hbl : b < s.heap.size) {n ce sl : Nat} {nu : Nat → Option Nat} {x : kw_St} {ee : kE} {t : mo_T} {H : Heap} {locs : List Loc} {ls : Array Slot} (hL : L ≤ 3584) (hn : 7 * n + 7 ≤ L) (hce : ce ≤ 38 + 768 * n) (hsl : sl ≤ 9271 + 3072 * n) (hz : zw G nu x o ee t x) (hF : zF ee t) (hm : mw nu x mo ma t x) (hn4 : (tF t 4).toInt ≤ n) (hW : kw_W G (fun q => s.heap.size ≤ q) nu x H) (hS : va_S (fun q => s.heap.size ≤ q) s.heap H locs) (hl : lv_has ls 4 [(3, .int (nI (7 * n))), (2, .ref mo), (1, .ref o), (0, .ref b)])
    (kk : ∀ (nu : Nat → Option Nat) (x : kw_St) (ee : kE) (t : mo_T) (ce2 sl2 : Nat) (H : Heap) (locs : List Loc) (ls : Array Slot), zw G nu x o ee t x → zF ee t → mw nu x mo ma t x → (tF t 4).toInt ≤ n + 1 → ce2 ≤ 38 + 768 * (n + 1) → sl2 ≤ 9271 + 3072 * (n + 1) → kw_W G (fun q => s.heap.size ≤ q) nu x H → va_S (fun q => s.heap.size ≤ q) s.heap H locs → lv_has ls 4 [(3, .int (nI (7 * n))), (2, .ref mo), (1, .ref o), (0, .ref b)] → W p l e room_1 s m #[Value.ref b] below meth c H locs ce2 sl2 Q (F0 m 532 ls [])) : W p l e room_1 s m #[Value.ref b] below meth c H locs ce sl Q (F0 m 96 ls []) := by
  have hbA : ¬ (fun q : Nat => s.heap.size ≤ q) b := Nat.not_le.mpr hbl
  have hA : ∀ r, s.heap.size ≤ r → (fun q : Nat => s.heap.size ≤ q) r := fun _ h => h
  refine lv_aload_n S.1 S.2.1 dL_law_96 rfl (lv_at hl 2 rfl) ?_
  refine lv_aload_n S.1 S.2.1 dL_law_97 rfl (lv_at hl 3 rfl) ?_
  refine lv_iload_n S.1 S.2.1 dL_law_98 rfl (lv_at hl 0 rfl) ?_
  refine lv_iconst (v := 1) S.1 S.2.1 dL_law_99 (by decide) ?_
  refine lv_iadd S.1 S.2.1 dL_law_100 ?_
  rw [show (nI (7 * n) : Int32) + 1 = nI (7 * n + 1) from nI_add (7 * n) 1]
  refine va_sld S.1 S.2.1 hX hbl hbA hS (vp_in_nI (n := 7 * n + 1) (N := L) (by omega) (by omega)) dL_law_101 ?_
  rw [show (nI (7 * n + 1)).toNatClampNeg = 7 * n + 1 from nI_clamp (by omega)]
  refine lv_aload_n S.1 S.2.1 dL_law_102 rfl (lv_at hl 3 rfl) ?_
  refine lv_iload_n S.1 S.2.1 dL_law_103 rfl (lv_at hl 0 rfl) ?_
  refine lv_iconst (v := 2) S.1 S.2.1 dL_law_104 (by decide) ?_
  refine lv_iadd S.1 S.2.1 dL_law_105 ?_
  rw [show (nI (7 * n) : Int32) + 2 = nI (7 * n + 2) from nI_add (7 * n) 2]
  refine va_sld S.1 S.2.1 hX hbl hbA hS (vp_in_nI (n := 7 * n + 2) (N := L) (by omega) (by omega)) dL_law_106 ?_
  rw [show (nI (7 * n + 2)).toNatClampNeg = 7 * n + 2 from nI_clamp (by omega)]
  refine lv_aload_n S.1 S.2.1 dL_law_107 rfl (lv_at hl 3 rfl) ?_
  refine lv_iload_n S.1 S.2.1 dL_law_108 rfl (lv_at hl 0 rfl) ?_
  refine lv_iconst (v := 3) S.1 S.2.1 dL_law_109 (by decide) ?_
  refine lv_iadd S.1 S.2.1 dL_law_110 ?_
  rw [show (nI (7 * n) : Int32) + 3 = nI (7 * n + 3) from nI_add (7 * n) 3]
  refine va_sld S.1 S.2.1 hX hbl hbA hS (vp_in_nI (n := 7 * n + 3) (N := L) (by omega) (by omega)) dL_law_111 ?_
  rw [show (nI (7 * n + 3)).toNatClampNeg = 7 * n + 3 from nI_clamp (by omega)]
  obtain ⟨mc, ms, v, t2, hmc, hms, h4n, h4, h5⟩ := L_group l G hz hF (xs (7 * n + 1)) (xs (7 * n + 2)) (xs (7 * n + 3))
  refine kw_callV (As := [.int (xs (7 * n + 1)), .int (xs (7 * n + 2)), .int (xs (7 * n + 3))]) (rest := []) S hK hZ hA hW hS h4 (cwV 3 S.2.2.2.2 gL_law_X4_group rfl rfl rfl (by decide +kernel) ⟨Nat.le_of_ble_eq_true rfl, Nat.le_of_ble_eq_true rfl⟩) (zk_o hz) (by decide) rfl rfl hl.1 rfl (Nat.le_of_ble_eq_true rfl) dL_law_112 ⟨by show _ ≤ 600000; omega, by show _ ≤ 7302250; omega⟩ (fun v9 nu2 y H locs hp hW hS => ?_)
  obtain ⟨ev, hX2, e2, hz2, hF2⟩ := hp
  subst ev
  have hm2 := mw_fr hm hX2 (fun c q hc h1 h2 => hz2.2.2.2 c q (hX2 c q hc) h1 h2)
  refine W.eq (g2 := F0 m 115 ls [.int (v)]) rfl ?_
  refine lv_aload_n S.1 S.2.1 dL_law_115 rfl (lv_at hl 1 rfl) ?_
  refine lv_aload_n S.1 S.2.1 dL_law_116 rfl (lv_at hl 3 rfl) ?_
  refine lv_iload_n S.1 S.2.1 dL_law_117 rfl (lv_at hl 0 rfl) ?_
  refine lv_iconst (v := 1) S.1 S.2.1 dL_law_118 (by decide) ?_
  refine lv_iadd S.1 S.2.1 dL_law_119 ?_
  rw [show (nI (7 * n) : Int32) + 1 = nI (7 * n + 1) from nI_add (7 * n) 1]
  refine va_sld S.1 S.2.1 hX hbl hbA hS (vp_in_nI (n := 7 * n + 1) (N := L) (by omega) (by omega)) dL_law_120 ?_
  rw [show (nI (7 * n + 1)).toNatClampNeg = 7 * n + 1 from nI_clamp (by omega)]
  refine lv_aload_n S.1 S.2.1 dL_law_121 rfl (lv_at hl 3 rfl) ?_
  refine lv_iload_n S.1 S.2.1 dL_law_122 rfl (lv_at hl 0 rfl) ?_
  refine lv_iconst (v := 2) S.1 S.2.1 dL_law_123 (by decide) ?_
  refine lv_iadd S.1 S.2.1 dL_law_124 ?_
  rw [show (nI (7 * n) : Int32) + 2 = nI (7 * n + 2) from nI_add (7 * n) 2]
  refine va_sld S.1 S.2.1 hX hbl hbA hS (vp_in_nI (n := 7 * n + 2) (N := L) (by omega) (by omega)) dL_law_125 ?_
  rw [show (nI (7 * n + 2)).toNatClampNeg = 7 * n + 2 from nI_clamp (by omega)]
  refine lv_aload_n S.1 S.2.1 dL_law_126 rfl (lv_at hl 3 rfl) ?_
  refine lv_iload_n S.1 S.2.1 dL_law_127 rfl (lv_at hl 0 rfl) ?_
  refine lv_iconst (v := 3) S.1 S.2.1 dL_law_128 (by decide) ?_
  refine lv_iadd S.1 S.2.1 dL_law_129 ?_
  rw [show (nI (7 * n) : Int32) + 3 = nI (7 * n + 3) from nI_add (7 * n) 3]
  refine va_sld S.1 S.2.1 hX hbl hbA hS (vp_in_nI (n := 7 * n + 3) (N := L) (by omega) (by omega)) dL_law_130 ?_
  rw [show (nI (7 * n + 3)).toNatClampNeg = 7 * n + 3 from nI_clamp (by omega)]
  refine kw_callV (As := [.int (xs (7 * n + 1)), .int (xs (7 * n + 2)), .int (xs (7 * n + 3))]) (rest := [.int (v)]) S hK hZ hA hW hS (h5 nu2 y mo ma hm2) (cwV 3 S.2.2.2.2 gL_law_X5_group rfl rfl rfl (by decide +kernel) ⟨Nat.le_of_ble_eq_true rfl, Nat.le_of_ble_eq_true rfl⟩) hm2.1.1 (by decide) rfl rfl hl.1 rfl (Nat.le_of_ble_eq_true rfl) dL_law_131 ⟨by show _ ≤ 600000; omega, by show _ ≤ 7302250; omega⟩ (fun v9 nu3 y2 H locs hp hW hS => ?_)
  obtain ⟨ev, en3, hm3⟩ := hp
  subst ev
  rw [en3] at hW
  have hz3 := zw_fr hz2 hm3
  have hm4 := mw_rf hm3
  refine W.eq (g2 := F0 m 134 ls [.int (v), .int (v)]) rfl ?_
  refine lv_icmp_eq (tgt := 532) S.1 S.2.1 dL_law_134 (by decide) (fun c1 => ?_) (fun c1 => ?_)
  · skip
    exact kk nu2 y2 e2 t2 _ _ _ _ ls hz3 hF2 hm4 (by omega) (by omega) (by omega) hW hS (lv_sub hl [0, 1, 2, 3] rfl)
  · skip
    exact absurd rfl c1
set_option maxHeartbeats 2000000 in
set_option maxRecDepth 100000 in
theorem law_c1 {p : Program} {l : Launch} {e : Env} {s : State} {m : MethodId} {below : List Frame} {meth : Method} {c : Code} {G : kw_G} {b L o mo : Nat} {ma : Nat → Nat} {xs : Nat → Int32} {Q : State → Prop} (S : CallFix p m c cL_law 4 s #[Value.ref b] wsL_law RL) (hK : kw_K G s) (hZ : kw_Z G (fun q => s.heap.size ≤ q) s s.heap) (hX : va_X b L xs s s.heap) (hbl : b < s.heap.size) {n ce sl : Nat} {nu : Nat → Option Nat} {x : kw_St} {ee : kE} {t : mo_T} {H : Heap} {locs : List Loc} {ls : Array Slot} (hL : L ≤ 3584) (hn : 7 * n + 7 ≤ L) (hce : ce ≤ 38 + 768 * n) (hsl : sl ≤ 9271 + 3072 * n) (hz : zw G nu x o ee t x) (hF : zF ee t) (hm : mw nu x mo ma t x) (hn4 : (tF t 4).toInt ≤ n) (hW : kw_W G (fun q => s.heap.size ≤ q) nu x H) (hS : va_S (fun q => s.heap.size ≤ q) s.heap H locs) (hl : lv_has ls 4 [(3, .int (nI (7 * n))), (2, .ref mo), (1, .ref o), (0, .ref b)])
    (kk : ∀ (nu : Nat → Option Nat) (x : kw_St) (ee : kE) (t : mo_T) (ce2 sl2 : Nat) (H : Heap) (locs : List Loc) (ls : Array Slot), zw G nu x o ee t x → zF ee t → mw nu x mo ma t x → (tF t 4).toInt ≤ n + 1 → ce2 ≤ 38 + 768 * (n + 1) → sl2 ≤ 9271 + 3072 * (n + 1) → kw_W G (fun q => s.heap.size ≤ q) nu x H → va_S (fun q => s.heap.size ≤ q) s.heap H locs → lv_has ls 4 [(3, .int (nI (7 * n))), (2, .ref mo), (1, .ref o), (0, .ref b)] → W p l e room_1 s m #[Value.ref b] below meth c H locs ce2 sl2 Q (F0 m 532 ls [])) : W p l e room_1 s m #[Value.ref b] below meth c H locs ce sl Q (F0 m 139 ls []) := by
  have hbA : ¬ (fun q : Nat => s.heap.size ≤ q) b := Nat.not_le.mpr hbl
  have hA : ∀ r, s.heap.size ≤ r → (fun q : Nat => s.heap.size ≤ q) r := fun _ h => h
  refine lv_aload_n S.1 S.2.1 dL_law_139 rfl (lv_at hl 2 rfl) ?_
  refine lv_aload_n S.1 S.2.1 dL_law_140 rfl (lv_at hl 3 rfl) ?_
  refine lv_iload_n S.1 S.2.1 dL_law_141 rfl (lv_at hl 0 rfl) ?_
  refine lv_iconst (v := 1) S.1 S.2.1 dL_law_142 (by decide) ?_
  refine lv_iadd S.1 S.2.1 dL_law_143 ?_
  rw [show (nI (7 * n) : Int32) + 1 = nI (7 * n + 1) from nI_add (7 * n) 1]
  refine va_sld S.1 S.2.1 hX hbl hbA hS (vp_in_nI (n := 7 * n + 1) (N := L) (by omega) (by omega)) dL_law_144 ?_
  rw [show (nI (7 * n + 1)).toNatClampNeg = 7 * n + 1 from nI_clamp (by omega)]
  refine lv_aload_n S.1 S.2.1 dL_law_145 rfl (lv_at hl 3 rfl) ?_
  refine lv_iload_n S.1 S.2.1 dL_law_146 rfl (lv_at hl 0 rfl) ?_
  refine lv_iconst (v := 2) S.1 S.2.1 dL_law_147 (by decide) ?_
  refine lv_iadd S.1 S.2.1 dL_law_148 ?_
  rw [show (nI (7 * n) : Int32) + 2 = nI (7 * n + 2) from nI_add (7 * n) 2]
  refine va_sld S.1 S.2.1 hX hbl hbA hS (vp_in_nI (n := 7 * n + 2) (N := L) (by omega) (by omega)) dL_law_149 ?_
  rw [show (nI (7 * n + 2)).toNatClampNeg = 7 * n + 2 from nI_clamp (by omega)]
  refine lv_aload_n S.1 S.2.1 dL_law_150 rfl (lv_at hl 3 rfl) ?_
  refine lv_iload_n S.1 S.2.1 dL_law_151 rfl (lv_at hl 0 rfl) ?_
  refine lv_iconst (v := 3) S.1 S.2.1 dL_law_152 (by decide) ?_
  refine lv_iadd S.1 S.2.1 dL_law_153 ?_
  rw [show (nI (7 * n) : Int32) + 3 = nI (7 * n + 3) from nI_add (7 * n) 3]
  refine va_sld S.1 S.2.1 hX hbl hbA hS (vp_in_nI (n := 7 * n + 3) (N := L) (by omega) (by omega)) dL_law_154 ?_
  rw [show (nI (7 * n + 3)).toNatClampNeg = 7 * n + 3 from nI_clamp (by omega)]
  refine lv_aload_n S.1 S.2.1 dL_law_155 rfl (lv_at hl 3 rfl) ?_
  refine lv_iload_n S.1 S.2.1 dL_law_156 rfl (lv_at hl 0 rfl) ?_
  refine lv_iconst (v := 4) S.1 S.2.1 dL_law_157 (by decide) ?_
  refine lv_iadd S.1 S.2.1 dL_law_158 ?_
  rw [show (nI (7 * n) : Int32) + 4 = nI (7 * n + 4) from nI_add (7 * n) 4]
  refine va_sld S.1 S.2.1 hX hbl hbA hS (vp_in_nI (n := 7 * n + 4) (N := L) (by omega) (by omega)) dL_law_159 ?_
  rw [show (nI (7 * n + 4)).toNatClampNeg = 7 * n + 4 from nI_clamp (by omega)]
  refine lv_aload_n S.1 S.2.1 dL_law_160 rfl (lv_at hl 3 rfl) ?_
  refine lv_iload_n S.1 S.2.1 dL_law_161 rfl (lv_at hl 0 rfl) ?_
  refine lv_iconst (v := 5) S.1 S.2.1 dL_law_162 (by decide) ?_
  refine lv_iadd S.1 S.2.1 dL_law_163 ?_
  rw [show (nI (7 * n) : Int32) + 5 = nI (7 * n + 5) from nI_add (7 * n) 5]
  refine va_sld S.1 S.2.1 hX hbl hbA hS (vp_in_nI (n := 7 * n + 5) (N := L) (by omega) (by omega)) dL_law_164 ?_
  rw [show (nI (7 * n + 5)).toNatClampNeg = 7 * n + 5 from nI_clamp (by omega)]
  refine lv_aload_n S.1 S.2.1 dL_law_165 rfl (lv_at hl 3 rfl) ?_
  refine lv_iload_n S.1 S.2.1 dL_law_166 rfl (lv_at hl 0 rfl) ?_
  refine lv_bipush (v := 6) S.1 S.2.1 dL_law_167 (by decide) ?_
  refine lv_iadd S.1 S.2.1 dL_law_169 ?_
  rw [show (nI (7 * n) : Int32) + 6 = nI (7 * n + 6) from nI_add (7 * n) 6]
  refine va_sld S.1 S.2.1 hX hbl hbA hS (vp_in_nI (n := 7 * n + 6) (N := L) (by omega) (by omega)) dL_law_170 ?_
  rw [show (nI (7 * n + 6)).toNatClampNeg = 7 * n + 6 from nI_clamp (by omega)]
  obtain ⟨mc, ms, v, t2, hmc, hms, h4n, h4, h5⟩ := L_leaf l G hz hF (xs (7 * n + 1)) (xs (7 * n + 2)) (xs (7 * n + 3)) (xs (7 * n + 4)) (xs (7 * n + 5)) (xs (7 * n + 6))
  refine kw_callV (As := [.int (xs (7 * n + 1)), .int (xs (7 * n + 2)), .int (xs (7 * n + 3)), .int (xs (7 * n + 4)), .int (xs (7 * n + 5)), .int (xs (7 * n + 6))]) (rest := []) S hK hZ hA hW hS h4 (cwV 6 S.2.2.2.2 gL_law_X4_leaf rfl rfl rfl (by decide +kernel) ⟨Nat.le_of_ble_eq_true rfl, Nat.le_of_ble_eq_true rfl⟩) (zk_o hz) (by decide) rfl rfl hl.1 rfl (Nat.le_of_ble_eq_true rfl) dL_law_171 ⟨by show _ ≤ 600000; omega, by show _ ≤ 7302250; omega⟩ (fun v9 nu2 y H locs hp hW hS => ?_)
  obtain ⟨ev, hX2, e2, hz2, hF2⟩ := hp
  subst ev
  have hm2 := mw_fr hm hX2 (fun c q hc h1 h2 => hz2.2.2.2 c q (hX2 c q hc) h1 h2)
  refine W.eq (g2 := F0 m 174 ls [.int (v)]) rfl ?_
  refine lv_aload_n S.1 S.2.1 dL_law_174 rfl (lv_at hl 1 rfl) ?_
  refine lv_aload_n S.1 S.2.1 dL_law_175 rfl (lv_at hl 3 rfl) ?_
  refine lv_iload_n S.1 S.2.1 dL_law_176 rfl (lv_at hl 0 rfl) ?_
  refine lv_iconst (v := 1) S.1 S.2.1 dL_law_177 (by decide) ?_
  refine lv_iadd S.1 S.2.1 dL_law_178 ?_
  rw [show (nI (7 * n) : Int32) + 1 = nI (7 * n + 1) from nI_add (7 * n) 1]
  refine va_sld S.1 S.2.1 hX hbl hbA hS (vp_in_nI (n := 7 * n + 1) (N := L) (by omega) (by omega)) dL_law_179 ?_
  rw [show (nI (7 * n + 1)).toNatClampNeg = 7 * n + 1 from nI_clamp (by omega)]
  refine lv_aload_n S.1 S.2.1 dL_law_180 rfl (lv_at hl 3 rfl) ?_
  refine lv_iload_n S.1 S.2.1 dL_law_181 rfl (lv_at hl 0 rfl) ?_
  refine lv_iconst (v := 2) S.1 S.2.1 dL_law_182 (by decide) ?_
  refine lv_iadd S.1 S.2.1 dL_law_183 ?_
  rw [show (nI (7 * n) : Int32) + 2 = nI (7 * n + 2) from nI_add (7 * n) 2]
  refine va_sld S.1 S.2.1 hX hbl hbA hS (vp_in_nI (n := 7 * n + 2) (N := L) (by omega) (by omega)) dL_law_184 ?_
  rw [show (nI (7 * n + 2)).toNatClampNeg = 7 * n + 2 from nI_clamp (by omega)]
  refine lv_aload_n S.1 S.2.1 dL_law_185 rfl (lv_at hl 3 rfl) ?_
  refine lv_iload_n S.1 S.2.1 dL_law_186 rfl (lv_at hl 0 rfl) ?_
  refine lv_iconst (v := 3) S.1 S.2.1 dL_law_187 (by decide) ?_
  refine lv_iadd S.1 S.2.1 dL_law_188 ?_
  rw [show (nI (7 * n) : Int32) + 3 = nI (7 * n + 3) from nI_add (7 * n) 3]
  refine va_sld S.1 S.2.1 hX hbl hbA hS (vp_in_nI (n := 7 * n + 3) (N := L) (by omega) (by omega)) dL_law_189 ?_
  rw [show (nI (7 * n + 3)).toNatClampNeg = 7 * n + 3 from nI_clamp (by omega)]
  refine lv_aload_n S.1 S.2.1 dL_law_190 rfl (lv_at hl 3 rfl) ?_
  refine lv_iload_n S.1 S.2.1 dL_law_191 rfl (lv_at hl 0 rfl) ?_
  refine lv_iconst (v := 4) S.1 S.2.1 dL_law_192 (by decide) ?_
  refine lv_iadd S.1 S.2.1 dL_law_193 ?_
  rw [show (nI (7 * n) : Int32) + 4 = nI (7 * n + 4) from nI_add (7 * n) 4]
  refine va_sld S.1 S.2.1 hX hbl hbA hS (vp_in_nI (n := 7 * n + 4) (N := L) (by omega) (by omega)) dL_law_194 ?_
  rw [show (nI (7 * n + 4)).toNatClampNeg = 7 * n + 4 from nI_clamp (by omega)]
  refine lv_aload_n S.1 S.2.1 dL_law_195 rfl (lv_at hl 3 rfl) ?_
  refine lv_iload_n S.1 S.2.1 dL_law_196 rfl (lv_at hl 0 rfl) ?_
  refine lv_iconst (v := 5) S.1 S.2.1 dL_law_197 (by decide) ?_
  refine lv_iadd S.1 S.2.1 dL_law_198 ?_
  rw [show (nI (7 * n) : Int32) + 5 = nI (7 * n + 5) from nI_add (7 * n) 5]
  refine va_sld S.1 S.2.1 hX hbl hbA hS (vp_in_nI (n := 7 * n + 5) (N := L) (by omega) (by omega)) dL_law_199 ?_
  rw [show (nI (7 * n + 5)).toNatClampNeg = 7 * n + 5 from nI_clamp (by omega)]
  refine lv_aload_n S.1 S.2.1 dL_law_200 rfl (lv_at hl 3 rfl) ?_
  refine lv_iload_n S.1 S.2.1 dL_law_201 rfl (lv_at hl 0 rfl) ?_
  refine lv_bipush (v := 6) S.1 S.2.1 dL_law_202 (by decide) ?_
  refine lv_iadd S.1 S.2.1 dL_law_204 ?_
  rw [show (nI (7 * n) : Int32) + 6 = nI (7 * n + 6) from nI_add (7 * n) 6]
  refine va_sld S.1 S.2.1 hX hbl hbA hS (vp_in_nI (n := 7 * n + 6) (N := L) (by omega) (by omega)) dL_law_205 ?_
  rw [show (nI (7 * n + 6)).toNatClampNeg = 7 * n + 6 from nI_clamp (by omega)]
  refine kw_callV (As := [.int (xs (7 * n + 1)), .int (xs (7 * n + 2)), .int (xs (7 * n + 3)), .int (xs (7 * n + 4)), .int (xs (7 * n + 5)), .int (xs (7 * n + 6))]) (rest := [.int (v)]) S hK hZ hA hW hS (h5 nu2 y mo ma hm2) (cwV 6 S.2.2.2.2 gL_law_X5_leaf rfl rfl rfl (by decide +kernel) ⟨Nat.le_of_ble_eq_true rfl, Nat.le_of_ble_eq_true rfl⟩) hm2.1.1 (by decide) rfl rfl hl.1 rfl (Nat.le_of_ble_eq_true rfl) dL_law_206 ⟨by show _ ≤ 600000; omega, by show _ ≤ 7302250; omega⟩ (fun v9 nu3 y2 H locs hp hW hS => ?_)
  obtain ⟨ev, en3, hm3⟩ := hp
  subst ev
  rw [en3] at hW
  have hz3 := zw_fr hz2 hm3
  have hm4 := mw_rf hm3
  refine W.eq (g2 := F0 m 209 ls [.int (v), .int (v)]) rfl ?_
  refine lv_icmp_eq (tgt := 532) S.1 S.2.1 dL_law_209 (by decide) (fun c1 => ?_) (fun c1 => ?_)
  · skip
    exact kk nu2 y2 e2 t2 _ _ _ _ ls hz3 hF2 hm4 (by omega) (by omega) (by omega) hW hS (lv_sub hl [0, 1, 2, 3] rfl)
  · skip
    exact absurd rfl c1
set_option maxHeartbeats 2000000 in
set_option maxRecDepth 100000 in
theorem law_c2 {p : Program} {l : Launch} {e : Env} {s : State} {m : MethodId} {below : List Frame} {meth : Method} {c : Code} {G : kw_G} {b L o mo : Nat} {ma : Nat → Nat} {xs : Nat → Int32} {Q : State → Prop} (S : CallFix p m c cL_law 4 s #[Value.ref b] wsL_law RL) (hK : kw_K G s) (hZ : kw_Z G (fun q => s.heap.size ≤ q) s s.heap) (hX : va_X b L xs s s.heap) (hbl : b < s.heap.size) {n ce sl : Nat} {nu : Nat → Option Nat} {x : kw_St} {ee : kE} {t : mo_T} {H : Heap} {locs : List Loc} {ls : Array Slot} (hL : L ≤ 3584) (hn : 7 * n + 7 ≤ L) (hce : ce ≤ 38 + 768 * n) (hsl : sl ≤ 9271 + 3072 * n) (hz : zw G nu x o ee t x) (hF : zF ee t) (hm : mw nu x mo ma t x) (hn4 : (tF t 4).toInt ≤ n) (hW : kw_W G (fun q => s.heap.size ≤ q) nu x H) (hS : va_S (fun q => s.heap.size ≤ q) s.heap H locs) (hl : lv_has ls 4 [(3, .int (nI (7 * n))), (2, .ref mo), (1, .ref o), (0, .ref b)])
    (kk : ∀ (nu : Nat → Option Nat) (x : kw_St) (ee : kE) (t : mo_T) (ce2 sl2 : Nat) (H : Heap) (locs : List Loc) (ls : Array Slot), zw G nu x o ee t x → zF ee t → mw nu x mo ma t x → (tF t 4).toInt ≤ n + 1 → ce2 ≤ 38 + 768 * (n + 1) → sl2 ≤ 9271 + 3072 * (n + 1) → kw_W G (fun q => s.heap.size ≤ q) nu x H → va_S (fun q => s.heap.size ≤ q) s.heap H locs → lv_has ls 4 [(3, .int (nI (7 * n))), (2, .ref mo), (1, .ref o), (0, .ref b)] → W p l e room_1 s m #[Value.ref b] below meth c H locs ce2 sl2 Q (F0 m 532 ls [])) : W p l e room_1 s m #[Value.ref b] below meth c H locs ce sl Q (F0 m 214 ls []) := by
  have hbA : ¬ (fun q : Nat => s.heap.size ≤ q) b := Nat.not_le.mpr hbl
  have hA : ∀ r, s.heap.size ≤ r → (fun q : Nat => s.heap.size ≤ q) r := fun _ h => h
  refine lv_aload_n S.1 S.2.1 dL_law_214 rfl (lv_at hl 2 rfl) ?_
  refine lv_aload_n S.1 S.2.1 dL_law_215 rfl (lv_at hl 3 rfl) ?_
  refine lv_iload_n S.1 S.2.1 dL_law_216 rfl (lv_at hl 0 rfl) ?_
  refine lv_iconst (v := 1) S.1 S.2.1 dL_law_217 (by decide) ?_
  refine lv_iadd S.1 S.2.1 dL_law_218 ?_
  rw [show (nI (7 * n) : Int32) + 1 = nI (7 * n + 1) from nI_add (7 * n) 1]
  refine va_sld S.1 S.2.1 hX hbl hbA hS (vp_in_nI (n := 7 * n + 1) (N := L) (by omega) (by omega)) dL_law_219 ?_
  rw [show (nI (7 * n + 1)).toNatClampNeg = 7 * n + 1 from nI_clamp (by omega)]
  refine lv_aload_n S.1 S.2.1 dL_law_220 rfl (lv_at hl 3 rfl) ?_
  refine lv_iload_n S.1 S.2.1 dL_law_221 rfl (lv_at hl 0 rfl) ?_
  refine lv_iconst (v := 2) S.1 S.2.1 dL_law_222 (by decide) ?_
  refine lv_iadd S.1 S.2.1 dL_law_223 ?_
  rw [show (nI (7 * n) : Int32) + 2 = nI (7 * n + 2) from nI_add (7 * n) 2]
  refine va_sld S.1 S.2.1 hX hbl hbA hS (vp_in_nI (n := 7 * n + 2) (N := L) (by omega) (by omega)) dL_law_224 ?_
  rw [show (nI (7 * n + 2)).toNatClampNeg = 7 * n + 2 from nI_clamp (by omega)]
  refine lv_aload_n S.1 S.2.1 dL_law_225 rfl (lv_at hl 3 rfl) ?_
  refine lv_iload_n S.1 S.2.1 dL_law_226 rfl (lv_at hl 0 rfl) ?_
  refine lv_iconst (v := 3) S.1 S.2.1 dL_law_227 (by decide) ?_
  refine lv_iadd S.1 S.2.1 dL_law_228 ?_
  rw [show (nI (7 * n) : Int32) + 3 = nI (7 * n + 3) from nI_add (7 * n) 3]
  refine va_sld S.1 S.2.1 hX hbl hbA hS (vp_in_nI (n := 7 * n + 3) (N := L) (by omega) (by omega)) dL_law_229 ?_
  rw [show (nI (7 * n + 3)).toNatClampNeg = 7 * n + 3 from nI_clamp (by omega)]
  refine lv_aload_n S.1 S.2.1 dL_law_230 rfl (lv_at hl 3 rfl) ?_
  refine lv_iload_n S.1 S.2.1 dL_law_231 rfl (lv_at hl 0 rfl) ?_
  refine lv_iconst (v := 4) S.1 S.2.1 dL_law_232 (by decide) ?_
  refine lv_iadd S.1 S.2.1 dL_law_233 ?_
  rw [show (nI (7 * n) : Int32) + 4 = nI (7 * n + 4) from nI_add (7 * n) 4]
  refine va_sld S.1 S.2.1 hX hbl hbA hS (vp_in_nI (n := 7 * n + 4) (N := L) (by omega) (by omega)) dL_law_234 ?_
  rw [show (nI (7 * n + 4)).toNatClampNeg = 7 * n + 4 from nI_clamp (by omega)]
  refine lv_if_eq (tgt := 242) S.1 S.2.1 dL_law_235 (by decide) (fun c1 => ?_) (fun c1 => ?_)
  · skip
    have hmkc : xs (7 * n + 4) = 0 := by first | assumption | exact Classical.not_not.mp (by assumption)
    refine lv_iconst (v := 0) S.1 S.2.1 dL_law_242 (by decide) ?_
    obtain ⟨mc, ms, v, t2, hmc, hms, h4n, h4, h5⟩ := L_police l G hz hF (xs (7 * n + 1)) (xs (7 * n + 2)) (xs (7 * n + 3)) (0) (Or.inl rfl)
    refine kw_callV (As := [.int (xs (7 * n + 1)), .int (xs (7 * n + 2)), .int (xs (7 * n + 3)), .int (0)]) (rest := []) S hK hZ hA hW hS h4 (cwV 4 S.2.2.2.2 gL_law_X4_police rfl rfl rfl (by decide +kernel) ⟨Nat.le_of_ble_eq_true rfl, Nat.le_of_ble_eq_true rfl⟩) (zk_o hz) (by decide) rfl rfl hl.1 rfl (Nat.le_of_ble_eq_true rfl) dL_law_243 ⟨by show _ ≤ 600000; omega, by show _ ≤ 7302250; omega⟩ (fun v9 nu2 y H locs hp hW hS => ?_)
    obtain ⟨ev, hX2, e2, hz2, hF2⟩ := hp
    subst ev
    have hm2 := mw_fr hm hX2 (fun c q hc h1 h2 => hz2.2.2.2 c q (hX2 c q hc) h1 h2)
    refine W.eq (g2 := F0 m 246 ls [.int (v)]) rfl ?_
    refine lv_aload_n S.1 S.2.1 dL_law_246 rfl (lv_at hl 1 rfl) ?_
    refine lv_aload_n S.1 S.2.1 dL_law_247 rfl (lv_at hl 3 rfl) ?_
    refine lv_iload_n S.1 S.2.1 dL_law_248 rfl (lv_at hl 0 rfl) ?_
    refine lv_iconst (v := 1) S.1 S.2.1 dL_law_249 (by decide) ?_
    refine lv_iadd S.1 S.2.1 dL_law_250 ?_
    rw [show (nI (7 * n) : Int32) + 1 = nI (7 * n + 1) from nI_add (7 * n) 1]
    refine va_sld S.1 S.2.1 hX hbl hbA hS (vp_in_nI (n := 7 * n + 1) (N := L) (by omega) (by omega)) dL_law_251 ?_
    rw [show (nI (7 * n + 1)).toNatClampNeg = 7 * n + 1 from nI_clamp (by omega)]
    refine lv_aload_n S.1 S.2.1 dL_law_252 rfl (lv_at hl 3 rfl) ?_
    refine lv_iload_n S.1 S.2.1 dL_law_253 rfl (lv_at hl 0 rfl) ?_
    refine lv_iconst (v := 2) S.1 S.2.1 dL_law_254 (by decide) ?_
    refine lv_iadd S.1 S.2.1 dL_law_255 ?_
    rw [show (nI (7 * n) : Int32) + 2 = nI (7 * n + 2) from nI_add (7 * n) 2]
    refine va_sld S.1 S.2.1 hX hbl hbA hS (vp_in_nI (n := 7 * n + 2) (N := L) (by omega) (by omega)) dL_law_256 ?_
    rw [show (nI (7 * n + 2)).toNatClampNeg = 7 * n + 2 from nI_clamp (by omega)]
    refine lv_aload_n S.1 S.2.1 dL_law_257 rfl (lv_at hl 3 rfl) ?_
    refine lv_iload_n S.1 S.2.1 dL_law_258 rfl (lv_at hl 0 rfl) ?_
    refine lv_iconst (v := 3) S.1 S.2.1 dL_law_259 (by decide) ?_
    refine lv_iadd S.1 S.2.1 dL_law_260 ?_
    rw [show (nI (7 * n) : Int32) + 3 = nI (7 * n + 3) from nI_add (7 * n) 3]
    refine va_sld S.1 S.2.1 hX hbl hbA hS (vp_in_nI (n := 7 * n + 3) (N := L) (by omega) (by omega)) dL_law_261 ?_
    rw [show (nI (7 * n + 3)).toNatClampNeg = 7 * n + 3 from nI_clamp (by omega)]
    refine lv_aload_n S.1 S.2.1 dL_law_262 rfl (lv_at hl 3 rfl) ?_
    refine lv_iload_n S.1 S.2.1 dL_law_263 rfl (lv_at hl 0 rfl) ?_
    refine lv_iconst (v := 4) S.1 S.2.1 dL_law_264 (by decide) ?_
    refine lv_iadd S.1 S.2.1 dL_law_265 ?_
    rw [show (nI (7 * n) : Int32) + 4 = nI (7 * n + 4) from nI_add (7 * n) 4]
    refine va_sld S.1 S.2.1 hX hbl hbA hS (vp_in_nI (n := 7 * n + 4) (N := L) (by omega) (by omega)) dL_law_266 ?_
    rw [show (nI (7 * n + 4)).toNatClampNeg = 7 * n + 4 from nI_clamp (by omega)]
    refine lv_if_eq (tgt := 274) S.1 S.2.1 dL_law_267 (by decide) (fun c2 => ?_) (fun c2 => ?_)
    · skip
      refine lv_iconst (v := 0) S.1 S.2.1 dL_law_274 (by decide) ?_
      refine kw_callV (As := [.int (xs (7 * n + 1)), .int (xs (7 * n + 2)), .int (xs (7 * n + 3)), .int (0)]) (rest := [.int (v)]) S hK hZ hA hW hS (h5 nu2 y mo ma hm2) (cwV 4 S.2.2.2.2 gL_law_X5_police rfl rfl rfl (by decide +kernel) ⟨Nat.le_of_ble_eq_true rfl, Nat.le_of_ble_eq_true rfl⟩) hm2.1.1 (by decide) rfl rfl hl.1 rfl (Nat.le_of_ble_eq_true rfl) dL_law_275 ⟨by show _ ≤ 600000; omega, by show _ ≤ 7302250; omega⟩ (fun v9 nu3 y2 H locs hp hW hS => ?_)
      obtain ⟨ev, en3, hm3⟩ := hp
      subst ev
      rw [en3] at hW
      have hz3 := zw_fr hz2 hm3
      have hm4 := mw_rf hm3
      refine W.eq (g2 := F0 m 278 ls [.int (v), .int (v)]) rfl ?_
      refine lv_icmp_eq (tgt := 532) S.1 S.2.1 dL_law_278 (by decide) (fun c3 => ?_) (fun c3 => ?_)
      · skip
        exact kk nu2 y2 e2 t2 _ _ _ _ ls hz3 hF2 hm4 (by omega) (by omega) (by omega) hW hS (lv_sub hl [0, 1, 2, 3] rfl)
      · skip
        exact absurd rfl c3
    · skip
      exact absurd hmkc c2
  · skip
    have hmkc : ¬ xs (7 * n + 4) = 0 := by assumption
    refine lv_iconst (v := 1) S.1 S.2.1 dL_law_238 (by decide) ?_
    refine lv_goto (tgt := 243) S.1 S.2.1 dL_law_239 (by decide) ?_
    obtain ⟨mc, ms, v, t2, hmc, hms, h4n, h4, h5⟩ := L_police l G hz hF (xs (7 * n + 1)) (xs (7 * n + 2)) (xs (7 * n + 3)) (1) (Or.inr rfl)
    refine kw_callV (As := [.int (xs (7 * n + 1)), .int (xs (7 * n + 2)), .int (xs (7 * n + 3)), .int (1)]) (rest := []) S hK hZ hA hW hS h4 (cwV 4 S.2.2.2.2 gL_law_X4_police rfl rfl rfl (by decide +kernel) ⟨Nat.le_of_ble_eq_true rfl, Nat.le_of_ble_eq_true rfl⟩) (zk_o hz) (by decide) rfl rfl hl.1 rfl (Nat.le_of_ble_eq_true rfl) dL_law_243 ⟨by show _ ≤ 600000; omega, by show _ ≤ 7302250; omega⟩ (fun v9 nu2 y H locs hp hW hS => ?_)
    obtain ⟨ev, hX2, e2, hz2, hF2⟩ := hp
    subst ev
    have hm2 := mw_fr hm hX2 (fun c q hc h1 h2 => hz2.2.2.2 c q (hX2 c q hc) h1 h2)
    refine W.eq (g2 := F0 m 246 ls [.int (v)]) rfl ?_
    refine lv_aload_n S.1 S.2.1 dL_law_246 rfl (lv_at hl 1 rfl) ?_
    refine lv_aload_n S.1 S.2.1 dL_law_247 rfl (lv_at hl 3 rfl) ?_
    refine lv_iload_n S.1 S.2.1 dL_law_248 rfl (lv_at hl 0 rfl) ?_
    refine lv_iconst (v := 1) S.1 S.2.1 dL_law_249 (by decide) ?_
    refine lv_iadd S.1 S.2.1 dL_law_250 ?_
    rw [show (nI (7 * n) : Int32) + 1 = nI (7 * n + 1) from nI_add (7 * n) 1]
    refine va_sld S.1 S.2.1 hX hbl hbA hS (vp_in_nI (n := 7 * n + 1) (N := L) (by omega) (by omega)) dL_law_251 ?_
    rw [show (nI (7 * n + 1)).toNatClampNeg = 7 * n + 1 from nI_clamp (by omega)]
    refine lv_aload_n S.1 S.2.1 dL_law_252 rfl (lv_at hl 3 rfl) ?_
    refine lv_iload_n S.1 S.2.1 dL_law_253 rfl (lv_at hl 0 rfl) ?_
    refine lv_iconst (v := 2) S.1 S.2.1 dL_law_254 (by decide) ?_
    refine lv_iadd S.1 S.2.1 dL_law_255 ?_
    rw [show (nI (7 * n) : Int32) + 2 = nI (7 * n + 2) from nI_add (7 * n) 2]
    refine va_sld S.1 S.2.1 hX hbl hbA hS (vp_in_nI (n := 7 * n + 2) (N := L) (by omega) (by omega)) dL_law_256 ?_
    rw [show (nI (7 * n + 2)).toNatClampNeg = 7 * n + 2 from nI_clamp (by omega)]
    refine lv_aload_n S.1 S.2.1 dL_law_257 rfl (lv_at hl 3 rfl) ?_
    refine lv_iload_n S.1 S.2.1 dL_law_258 rfl (lv_at hl 0 rfl) ?_
    refine lv_iconst (v := 3) S.1 S.2.1 dL_law_259 (by decide) ?_
    refine lv_iadd S.1 S.2.1 dL_law_260 ?_
    rw [show (nI (7 * n) : Int32) + 3 = nI (7 * n + 3) from nI_add (7 * n) 3]
    refine va_sld S.1 S.2.1 hX hbl hbA hS (vp_in_nI (n := 7 * n + 3) (N := L) (by omega) (by omega)) dL_law_261 ?_
    rw [show (nI (7 * n + 3)).toNatClampNeg = 7 * n + 3 from nI_clamp (by omega)]
    refine lv_aload_n S.1 S.2.1 dL_law_262 rfl (lv_at hl 3 rfl) ?_
    refine lv_iload_n S.1 S.2.1 dL_law_263 rfl (lv_at hl 0 rfl) ?_
    refine lv_iconst (v := 4) S.1 S.2.1 dL_law_264 (by decide) ?_
    refine lv_iadd S.1 S.2.1 dL_law_265 ?_
    rw [show (nI (7 * n) : Int32) + 4 = nI (7 * n + 4) from nI_add (7 * n) 4]
    refine va_sld S.1 S.2.1 hX hbl hbA hS (vp_in_nI (n := 7 * n + 4) (N := L) (by omega) (by omega)) dL_law_266 ?_
    rw [show (nI (7 * n + 4)).toNatClampNeg = 7 * n + 4 from nI_clamp (by omega)]
    refine lv_if_eq (tgt := 274) S.1 S.2.1 dL_law_267 (by decide) (fun c4 => ?_) (fun c4 => ?_)
    · skip
      exact absurd c4 hmkc
    · skip
      refine lv_iconst (v := 1) S.1 S.2.1 dL_law_270 (by decide) ?_
      refine lv_goto (tgt := 275) S.1 S.2.1 dL_law_271 (by decide) ?_
      refine kw_callV (As := [.int (xs (7 * n + 1)), .int (xs (7 * n + 2)), .int (xs (7 * n + 3)), .int (1)]) (rest := [.int (v)]) S hK hZ hA hW hS (h5 nu2 y mo ma hm2) (cwV 4 S.2.2.2.2 gL_law_X5_police rfl rfl rfl (by decide +kernel) ⟨Nat.le_of_ble_eq_true rfl, Nat.le_of_ble_eq_true rfl⟩) hm2.1.1 (by decide) rfl rfl hl.1 rfl (Nat.le_of_ble_eq_true rfl) dL_law_275 ⟨by show _ ≤ 600000; omega, by show _ ≤ 7302250; omega⟩ (fun v9 nu3 y2 H locs hp hW hS => ?_)
      obtain ⟨ev, en3, hm3⟩ := hp
      subst ev
      rw [en3] at hW
      have hz3 := zw_fr hz2 hm3
      have hm4 := mw_rf hm3
      refine W.eq (g2 := F0 m 278 ls [.int (v), .int (v)]) rfl ?_
      refine lv_icmp_eq (tgt := 532) S.1 S.2.1 dL_law_278 (by decide) (fun c5 => ?_) (fun c5 => ?_)
      · skip
        exact kk nu2 y2 e2 t2 _ _ _ _ ls hz3 hF2 hm4 (by omega) (by omega) (by omega) hW hS (lv_sub hl [0, 1, 2, 3] rfl)
      · skip
        exact absurd rfl c5
set_option maxHeartbeats 2000000 in
set_option maxRecDepth 100000 in
theorem law_c3 {p : Program} {l : Launch} {e : Env} {s : State} {m : MethodId} {below : List Frame} {meth : Method} {c : Code} {G : kw_G} {b L o mo : Nat} {ma : Nat → Nat} {xs : Nat → Int32} {Q : State → Prop} (S : CallFix p m c cL_law 4 s #[Value.ref b] wsL_law RL) (hK : kw_K G s) (hZ : kw_Z G (fun q => s.heap.size ≤ q) s s.heap) (hX : va_X b L xs s s.heap) (hbl : b < s.heap.size) {n ce sl : Nat} {nu : Nat → Option Nat} {x : kw_St} {ee : kE} {t : mo_T} {H : Heap} {locs : List Loc} {ls : Array Slot} (hL : L ≤ 3584) (hn : 7 * n + 7 ≤ L) (hce : ce ≤ 38 + 768 * n) (hsl : sl ≤ 9271 + 3072 * n) (hz : zw G nu x o ee t x) (hF : zF ee t) (hm : mw nu x mo ma t x) (hn4 : (tF t 4).toInt ≤ n) (hW : kw_W G (fun q => s.heap.size ≤ q) nu x H) (hS : va_S (fun q => s.heap.size ≤ q) s.heap H locs) (hl : lv_has ls 4 [(3, .int (nI (7 * n))), (2, .ref mo), (1, .ref o), (0, .ref b)])
    (kk : ∀ (nu : Nat → Option Nat) (x : kw_St) (ee : kE) (t : mo_T) (ce2 sl2 : Nat) (H : Heap) (locs : List Loc) (ls : Array Slot), zw G nu x o ee t x → zF ee t → mw nu x mo ma t x → (tF t 4).toInt ≤ n + 1 → ce2 ≤ 38 + 768 * (n + 1) → sl2 ≤ 9271 + 3072 * (n + 1) → kw_W G (fun q => s.heap.size ≤ q) nu x H → va_S (fun q => s.heap.size ≤ q) s.heap H locs → lv_has ls 4 [(3, .int (nI (7 * n))), (2, .ref mo), (1, .ref o), (0, .ref b)] → W p l e room_1 s m #[Value.ref b] below meth c H locs ce2 sl2 Q (F0 m 532 ls [])) : W p l e room_1 s m #[Value.ref b] below meth c H locs ce sl Q (F0 m 283 ls []) := by
  have hbA : ¬ (fun q : Nat => s.heap.size ≤ q) b := Nat.not_le.mpr hbl
  have hA : ∀ r, s.heap.size ≤ r → (fun q : Nat => s.heap.size ≤ q) r := fun _ h => h
  refine lv_aload_n S.1 S.2.1 dL_law_283 rfl (lv_at hl 2 rfl) ?_
  refine lv_aload_n S.1 S.2.1 dL_law_284 rfl (lv_at hl 3 rfl) ?_
  refine lv_iload_n S.1 S.2.1 dL_law_285 rfl (lv_at hl 0 rfl) ?_
  refine lv_iconst (v := 1) S.1 S.2.1 dL_law_286 (by decide) ?_
  refine lv_iadd S.1 S.2.1 dL_law_287 ?_
  rw [show (nI (7 * n) : Int32) + 1 = nI (7 * n + 1) from nI_add (7 * n) 1]
  refine va_sld S.1 S.2.1 hX hbl hbA hS (vp_in_nI (n := 7 * n + 1) (N := L) (by omega) (by omega)) dL_law_288 ?_
  rw [show (nI (7 * n + 1)).toNatClampNeg = 7 * n + 1 from nI_clamp (by omega)]
  refine lv_aload_n S.1 S.2.1 dL_law_289 rfl (lv_at hl 3 rfl) ?_
  refine lv_iload_n S.1 S.2.1 dL_law_290 rfl (lv_at hl 0 rfl) ?_
  refine lv_iconst (v := 2) S.1 S.2.1 dL_law_291 (by decide) ?_
  refine lv_iadd S.1 S.2.1 dL_law_292 ?_
  rw [show (nI (7 * n) : Int32) + 2 = nI (7 * n + 2) from nI_add (7 * n) 2]
  refine va_sld S.1 S.2.1 hX hbl hbA hS (vp_in_nI (n := 7 * n + 2) (N := L) (by omega) (by omega)) dL_law_293 ?_
  rw [show (nI (7 * n + 2)).toNatClampNeg = 7 * n + 2 from nI_clamp (by omega)]
  have hnp : eA ee 6 2 < 512 := by have h8 := (t_np hz.1).1; have h9 := hn4; have h7 := (t_np hz.1).2; rw [h8, nI_toInt (by omega)] at h9; omega
  obtain ⟨mc, ms, v, t2, hmc, hms, h4n, h4, h5⟩ := L_arrive l G hz hF hnp (xs (7 * n + 1)) (xs (7 * n + 2))
  refine kw_callV (As := [.int (xs (7 * n + 1)), .int (xs (7 * n + 2))]) (rest := []) S hK hZ hA hW hS h4 (cwV 2 S.2.2.2.2 gL_law_X4_arrive rfl rfl rfl (by decide +kernel) ⟨Nat.le_of_ble_eq_true rfl, Nat.le_of_ble_eq_true rfl⟩) (zk_o hz) (by decide) rfl rfl hl.1 rfl (Nat.le_of_ble_eq_true rfl) dL_law_294 ⟨by show _ ≤ 600000; omega, by show _ ≤ 7302250; omega⟩ (fun v9 nu2 y H locs hp hW hS => ?_)
  obtain ⟨ev, hX2, e2, hz2, hF2⟩ := hp
  subst ev
  have hm2 := mw_fr hm hX2 (fun c q hc h1 h2 => hz2.2.2.2 c q (hX2 c q hc) h1 h2)
  refine W.eq (g2 := F0 m 297 ls [.int (v)]) rfl ?_
  refine lv_aload_n S.1 S.2.1 dL_law_297 rfl (lv_at hl 1 rfl) ?_
  refine lv_aload_n S.1 S.2.1 dL_law_298 rfl (lv_at hl 3 rfl) ?_
  refine lv_iload_n S.1 S.2.1 dL_law_299 rfl (lv_at hl 0 rfl) ?_
  refine lv_iconst (v := 1) S.1 S.2.1 dL_law_300 (by decide) ?_
  refine lv_iadd S.1 S.2.1 dL_law_301 ?_
  rw [show (nI (7 * n) : Int32) + 1 = nI (7 * n + 1) from nI_add (7 * n) 1]
  refine va_sld S.1 S.2.1 hX hbl hbA hS (vp_in_nI (n := 7 * n + 1) (N := L) (by omega) (by omega)) dL_law_302 ?_
  rw [show (nI (7 * n + 1)).toNatClampNeg = 7 * n + 1 from nI_clamp (by omega)]
  refine lv_aload_n S.1 S.2.1 dL_law_303 rfl (lv_at hl 3 rfl) ?_
  refine lv_iload_n S.1 S.2.1 dL_law_304 rfl (lv_at hl 0 rfl) ?_
  refine lv_iconst (v := 2) S.1 S.2.1 dL_law_305 (by decide) ?_
  refine lv_iadd S.1 S.2.1 dL_law_306 ?_
  rw [show (nI (7 * n) : Int32) + 2 = nI (7 * n + 2) from nI_add (7 * n) 2]
  refine va_sld S.1 S.2.1 hX hbl hbA hS (vp_in_nI (n := 7 * n + 2) (N := L) (by omega) (by omega)) dL_law_307 ?_
  rw [show (nI (7 * n + 2)).toNatClampNeg = 7 * n + 2 from nI_clamp (by omega)]
  refine kw_callV (As := [.int (xs (7 * n + 1)), .int (xs (7 * n + 2))]) (rest := [.int (v)]) S hK hZ hA hW hS (h5 nu2 y mo ma hm2) (cwV 2 S.2.2.2.2 gL_law_X5_arrive rfl rfl rfl (by decide +kernel) ⟨Nat.le_of_ble_eq_true rfl, Nat.le_of_ble_eq_true rfl⟩) hm2.1.1 (by decide) rfl rfl hl.1 rfl (Nat.le_of_ble_eq_true rfl) dL_law_308 ⟨by show _ ≤ 600000; omega, by show _ ≤ 7302250; omega⟩ (fun v9 nu3 y2 H locs hp hW hS => ?_)
  obtain ⟨ev, en3, hm3⟩ := hp
  subst ev
  rw [en3] at hW
  have hz3 := zw_fr hz2 hm3
  have hm4 := mw_rf hm3
  refine W.eq (g2 := F0 m 311 ls [.int (v), .int (v)]) rfl ?_
  refine lv_icmp_eq (tgt := 532) S.1 S.2.1 dL_law_311 (by decide) (fun c1 => ?_) (fun c1 => ?_)
  · skip
    exact kk nu2 y2 e2 t2 _ _ _ _ ls hz3 hF2 hm4 (by omega) (by omega) (by omega) hW hS (lv_sub hl [0, 1, 2, 3] rfl)
  · skip
    exact absurd rfl c1
set_option maxHeartbeats 2000000 in
set_option maxRecDepth 100000 in
theorem law_c4 {p : Program} {l : Launch} {e : Env} {s : State} {m : MethodId} {below : List Frame} {meth : Method} {c : Code} {G : kw_G} {b L o mo : Nat} {ma : Nat → Nat} {xs : Nat → Int32} {Q : State → Prop} (S : CallFix p m c cL_law 4 s #[Value.ref b] wsL_law RL) (hK : kw_K G s) (hZ : kw_Z G (fun q => s.heap.size ≤ q) s s.heap) (hX : va_X b L xs s s.heap) (hbl : b < s.heap.size) {n ce sl : Nat} {nu : Nat → Option Nat} {x : kw_St} {ee : kE} {t : mo_T} {H : Heap} {locs : List Loc} {ls : Array Slot} (hL : L ≤ 3584) (hn : 7 * n + 7 ≤ L) (hce : ce ≤ 38 + 768 * n) (hsl : sl ≤ 9271 + 3072 * n) (hz : zw G nu x o ee t x) (hF : zF ee t) (hm : mw nu x mo ma t x) (hn4 : (tF t 4).toInt ≤ n) (hW : kw_W G (fun q => s.heap.size ≤ q) nu x H) (hS : va_S (fun q => s.heap.size ≤ q) s.heap H locs) (hl : lv_has ls 4 [(3, .int (nI (7 * n))), (2, .ref mo), (1, .ref o), (0, .ref b)])
    (kk : ∀ (nu : Nat → Option Nat) (x : kw_St) (ee : kE) (t : mo_T) (ce2 sl2 : Nat) (H : Heap) (locs : List Loc) (ls : Array Slot), zw G nu x o ee t x → zF ee t → mw nu x mo ma t x → (tF t 4).toInt ≤ n + 1 → ce2 ≤ 38 + 768 * (n + 1) → sl2 ≤ 9271 + 3072 * (n + 1) → kw_W G (fun q => s.heap.size ≤ q) nu x H → va_S (fun q => s.heap.size ≤ q) s.heap H locs → lv_has ls 4 [(3, .int (nI (7 * n))), (2, .ref mo), (1, .ref o), (0, .ref b)] → W p l e room_1 s m #[Value.ref b] below meth c H locs ce2 sl2 Q (F0 m 532 ls [])) : W p l e room_1 s m #[Value.ref b] below meth c H locs ce sl Q (F0 m 316 ls []) := by
  have hbA : ¬ (fun q : Nat => s.heap.size ≤ q) b := Nat.not_le.mpr hbl
  have hA : ∀ r, s.heap.size ≤ r → (fun q : Nat => s.heap.size ≤ q) r := fun _ h => h
  refine lv_aload_n S.1 S.2.1 dL_law_316 rfl (lv_at hl 2 rfl) ?_
  refine lv_aload_n S.1 S.2.1 dL_law_317 rfl (lv_at hl 3 rfl) ?_
  refine lv_iload_n S.1 S.2.1 dL_law_318 rfl (lv_at hl 0 rfl) ?_
  refine lv_iconst (v := 1) S.1 S.2.1 dL_law_319 (by decide) ?_
  refine lv_iadd S.1 S.2.1 dL_law_320 ?_
  rw [show (nI (7 * n) : Int32) + 1 = nI (7 * n + 1) from nI_add (7 * n) 1]
  refine va_sld S.1 S.2.1 hX hbl hbA hS (vp_in_nI (n := 7 * n + 1) (N := L) (by omega) (by omega)) dL_law_321 ?_
  rw [show (nI (7 * n + 1)).toNatClampNeg = 7 * n + 1 from nI_clamp (by omega)]
  obtain ⟨mc, ms, v, t2, hmc, hms, h4n, h4, h5⟩ := L_run l G hz hF (xs (7 * n + 1))
  refine kw_callV (As := [.int (xs (7 * n + 1))]) (rest := []) S hK hZ hA hW hS h4 (cwV 1 S.2.2.2.2 gL_law_X4_run rfl rfl rfl (by decide +kernel) ⟨Nat.le_of_ble_eq_true rfl, Nat.le_of_ble_eq_true rfl⟩) (zk_o hz) (by decide) rfl rfl hl.1 rfl (Nat.le_of_ble_eq_true rfl) dL_law_322 ⟨by show _ ≤ 600000; omega, by show _ ≤ 7302250; omega⟩ (fun v9 nu2 y H locs hp hW hS => ?_)
  obtain ⟨ev, hX2, e2, hz2, hF2⟩ := hp
  subst ev
  have hm2 := mw_fr hm hX2 (fun c q hc h1 h2 => hz2.2.2.2 c q (hX2 c q hc) h1 h2)
  refine W.eq (g2 := F0 m 325 ls [.int (v)]) rfl ?_
  refine lv_aload_n S.1 S.2.1 dL_law_325 rfl (lv_at hl 1 rfl) ?_
  refine lv_aload_n S.1 S.2.1 dL_law_326 rfl (lv_at hl 3 rfl) ?_
  refine lv_iload_n S.1 S.2.1 dL_law_327 rfl (lv_at hl 0 rfl) ?_
  refine lv_iconst (v := 1) S.1 S.2.1 dL_law_328 (by decide) ?_
  refine lv_iadd S.1 S.2.1 dL_law_329 ?_
  rw [show (nI (7 * n) : Int32) + 1 = nI (7 * n + 1) from nI_add (7 * n) 1]
  refine va_sld S.1 S.2.1 hX hbl hbA hS (vp_in_nI (n := 7 * n + 1) (N := L) (by omega) (by omega)) dL_law_330 ?_
  rw [show (nI (7 * n + 1)).toNatClampNeg = 7 * n + 1 from nI_clamp (by omega)]
  refine kw_callV (As := [.int (xs (7 * n + 1))]) (rest := [.int (v)]) S hK hZ hA hW hS (h5 nu2 y mo ma hm2) (cwV 1 S.2.2.2.2 gL_law_X5_run rfl rfl rfl (by decide +kernel) ⟨Nat.le_of_ble_eq_true rfl, Nat.le_of_ble_eq_true rfl⟩) hm2.1.1 (by decide) rfl rfl hl.1 rfl (Nat.le_of_ble_eq_true rfl) dL_law_331 ⟨by show _ ≤ 600000; omega, by show _ ≤ 7302250; omega⟩ (fun v9 nu3 y2 H locs hp hW hS => ?_)
  obtain ⟨ev, en3, hm3⟩ := hp
  subst ev
  rw [en3] at hW
  have hz3 := zw_fr hz2 hm3
  have hm4 := mw_rf hm3
  refine W.eq (g2 := F0 m 334 ls [.int (v), .int (v)]) rfl ?_
  refine lv_icmp_eq (tgt := 532) S.1 S.2.1 dL_law_334 (by decide) (fun c1 => ?_) (fun c1 => ?_)
  · skip
    exact kk nu2 y2 e2 t2 _ _ _ _ ls hz3 hF2 hm4 (by omega) (by omega) (by omega) hW hS (lv_sub hl [0, 1, 2, 3] rfl)
  · skip
    exact absurd rfl c1
set_option maxHeartbeats 2000000 in
set_option maxRecDepth 100000 in
theorem law_c5 {p : Program} {l : Launch} {e : Env} {s : State} {m : MethodId} {below : List Frame} {meth : Method} {c : Code} {G : kw_G} {b L o mo : Nat} {ma : Nat → Nat} {xs : Nat → Int32} {Q : State → Prop} (S : CallFix p m c cL_law 4 s #[Value.ref b] wsL_law RL) (hK : kw_K G s) (hZ : kw_Z G (fun q => s.heap.size ≤ q) s s.heap) (hX : va_X b L xs s s.heap) (hbl : b < s.heap.size) {n ce sl : Nat} {nu : Nat → Option Nat} {x : kw_St} {ee : kE} {t : mo_T} {H : Heap} {locs : List Loc} {ls : Array Slot} (hL : L ≤ 3584) (hn : 7 * n + 7 ≤ L) (hce : ce ≤ 38 + 768 * n) (hsl : sl ≤ 9271 + 3072 * n) (hz : zw G nu x o ee t x) (hF : zF ee t) (hm : mw nu x mo ma t x) (hn4 : (tF t 4).toInt ≤ n) (hW : kw_W G (fun q => s.heap.size ≤ q) nu x H) (hS : va_S (fun q => s.heap.size ≤ q) s.heap H locs) (hl : lv_has ls 4 [(3, .int (nI (7 * n))), (2, .ref mo), (1, .ref o), (0, .ref b)])
    (kk : ∀ (nu : Nat → Option Nat) (x : kw_St) (ee : kE) (t : mo_T) (ce2 sl2 : Nat) (H : Heap) (locs : List Loc) (ls : Array Slot), zw G nu x o ee t x → zF ee t → mw nu x mo ma t x → (tF t 4).toInt ≤ n + 1 → ce2 ≤ 38 + 768 * (n + 1) → sl2 ≤ 9271 + 3072 * (n + 1) → kw_W G (fun q => s.heap.size ≤ q) nu x H → va_S (fun q => s.heap.size ≤ q) s.heap H locs → lv_has ls 4 [(3, .int (nI (7 * n))), (2, .ref mo), (1, .ref o), (0, .ref b)] → W p l e room_1 s m #[Value.ref b] below meth c H locs ce2 sl2 Q (F0 m 532 ls [])) : W p l e room_1 s m #[Value.ref b] below meth c H locs ce sl Q (F0 m 339 ls []) := by
  have hbA : ¬ (fun q : Nat => s.heap.size ≤ q) b := Nat.not_le.mpr hbl
  have hA : ∀ r, s.heap.size ≤ r → (fun q : Nat => s.heap.size ≤ q) r := fun _ h => h
  refine lv_aload_n S.1 S.2.1 dL_law_339 rfl (lv_at hl 2 rfl) ?_
  obtain ⟨mc, ms, v, t2, hmc, hms, h4n, h4, h5⟩ := L_now l G hz hF 
  refine kw_callV (As := []) (rest := []) S hK hZ hA hW hS h4 (cwV 0 S.2.2.2.2 gL_law_X4_now rfl rfl rfl (by decide +kernel) ⟨Nat.le_of_ble_eq_true rfl, Nat.le_of_ble_eq_true rfl⟩) (zk_o hz) (by decide) rfl rfl hl.1 rfl (Nat.le_of_ble_eq_true rfl) dL_law_340 ⟨by show _ ≤ 600000; omega, by show _ ≤ 7302250; omega⟩ (fun v9 nu2 y H locs hp hW hS => ?_)
  obtain ⟨ev, hX2, e2, hz2, hF2⟩ := hp
  subst ev
  have hm2 := mw_fr hm hX2 (fun c q hc h1 h2 => hz2.2.2.2 c q (hX2 c q hc) h1 h2)
  refine W.eq (g2 := F0 m 343 ls [.int (v)]) rfl ?_
  refine lv_aload_n S.1 S.2.1 dL_law_343 rfl (lv_at hl 1 rfl) ?_
  refine kw_callV (As := []) (rest := [.int (v)]) S hK hZ hA hW hS (h5 nu2 y mo ma hm2) (cwV 0 S.2.2.2.2 gL_law_X5_now rfl rfl rfl (by decide +kernel) ⟨Nat.le_of_ble_eq_true rfl, Nat.le_of_ble_eq_true rfl⟩) hm2.1.1 (by decide) rfl rfl hl.1 rfl (Nat.le_of_ble_eq_true rfl) dL_law_344 ⟨by show _ ≤ 600000; omega, by show _ ≤ 7302250; omega⟩ (fun v9 nu3 y2 H locs hp hW hS => ?_)
  obtain ⟨ev, en3, hm3⟩ := hp
  subst ev
  rw [en3] at hW
  have hz3 := zw_fr hz2 hm3
  have hm4 := mw_rf hm3
  refine W.eq (g2 := F0 m 347 ls [.int (v), .int (v)]) rfl ?_
  refine lv_icmp_eq (tgt := 532) S.1 S.2.1 dL_law_347 (by decide) (fun c1 => ?_) (fun c1 => ?_)
  · skip
    exact kk nu2 y2 e2 t2 _ _ _ _ ls hz3 hF2 hm4 (by omega) (by omega) (by omega) hW hS (lv_sub hl [0, 1, 2, 3] rfl)
  · skip
    exact absurd rfl c1
set_option maxHeartbeats 2000000 in
set_option maxRecDepth 100000 in
theorem law_c6 {p : Program} {l : Launch} {e : Env} {s : State} {m : MethodId} {below : List Frame} {meth : Method} {c : Code} {G : kw_G} {b L o mo : Nat} {ma : Nat → Nat} {xs : Nat → Int32} {Q : State → Prop} (S : CallFix p m c cL_law 4 s #[Value.ref b] wsL_law RL) (hK : kw_K G s) (hZ : kw_Z G (fun q => s.heap.size ≤ q) s s.heap) (hX : va_X b L xs s s.heap) (hbl : b < s.heap.size) {n ce sl : Nat} {nu : Nat → Option Nat} {x : kw_St} {ee : kE} {t : mo_T} {H : Heap} {locs : List Loc} {ls : Array Slot} (hL : L ≤ 3584) (hn : 7 * n + 7 ≤ L) (hce : ce ≤ 38 + 768 * n) (hsl : sl ≤ 9271 + 3072 * n) (hz : zw G nu x o ee t x) (hF : zF ee t) (hm : mw nu x mo ma t x) (hn4 : (tF t 4).toInt ≤ n) (hW : kw_W G (fun q => s.heap.size ≤ q) nu x H) (hS : va_S (fun q => s.heap.size ≤ q) s.heap H locs) (hl : lv_has ls 4 [(3, .int (nI (7 * n))), (2, .ref mo), (1, .ref o), (0, .ref b)])
    (kk : ∀ (nu : Nat → Option Nat) (x : kw_St) (ee : kE) (t : mo_T) (ce2 sl2 : Nat) (H : Heap) (locs : List Loc) (ls : Array Slot), zw G nu x o ee t x → zF ee t → mw nu x mo ma t x → (tF t 4).toInt ≤ n + 1 → ce2 ≤ 38 + 768 * (n + 1) → sl2 ≤ 9271 + 3072 * (n + 1) → kw_W G (fun q => s.heap.size ≤ q) nu x H → va_S (fun q => s.heap.size ≤ q) s.heap H locs → lv_has ls 4 [(3, .int (nI (7 * n))), (2, .ref mo), (1, .ref o), (0, .ref b)] → W p l e room_1 s m #[Value.ref b] below meth c H locs ce2 sl2 Q (F0 m 532 ls [])) : W p l e room_1 s m #[Value.ref b] below meth c H locs ce sl Q (F0 m 352 ls []) := by
  have hbA : ¬ (fun q : Nat => s.heap.size ≤ q) b := Nat.not_le.mpr hbl
  have hA : ∀ r, s.heap.size ≤ r → (fun q : Nat => s.heap.size ≤ q) r := fun _ h => h
  refine lv_aload_n S.1 S.2.1 dL_law_352 rfl (lv_at hl 2 rfl) ?_
  refine lv_aload_n S.1 S.2.1 dL_law_353 rfl (lv_at hl 3 rfl) ?_
  refine lv_iload_n S.1 S.2.1 dL_law_354 rfl (lv_at hl 0 rfl) ?_
  refine lv_iconst (v := 1) S.1 S.2.1 dL_law_355 (by decide) ?_
  refine lv_iadd S.1 S.2.1 dL_law_356 ?_
  rw [show (nI (7 * n) : Int32) + 1 = nI (7 * n + 1) from nI_add (7 * n) 1]
  refine va_sld S.1 S.2.1 hX hbl hbA hS (vp_in_nI (n := 7 * n + 1) (N := L) (by omega) (by omega)) dL_law_357 ?_
  rw [show (nI (7 * n + 1)).toNatClampNeg = 7 * n + 1 from nI_clamp (by omega)]
  refine lv_aload_n S.1 S.2.1 dL_law_358 rfl (lv_at hl 3 rfl) ?_
  refine lv_iload_n S.1 S.2.1 dL_law_359 rfl (lv_at hl 0 rfl) ?_
  refine lv_iconst (v := 2) S.1 S.2.1 dL_law_360 (by decide) ?_
  refine lv_iadd S.1 S.2.1 dL_law_361 ?_
  rw [show (nI (7 * n) : Int32) + 2 = nI (7 * n + 2) from nI_add (7 * n) 2]
  refine va_sld S.1 S.2.1 hX hbl hbA hS (vp_in_nI (n := 7 * n + 2) (N := L) (by omega) (by omega)) dL_law_362 ?_
  rw [show (nI (7 * n + 2)).toNatClampNeg = 7 * n + 2 from nI_clamp (by omega)]
  obtain ⟨mc, ms, v, t2, hmc, hms, h4n, h4, h5⟩ := L_packet l G hz hF (xs (7 * n + 1)) (xs (7 * n + 2))
  refine kw_callV (As := [.int (xs (7 * n + 1)), .int (xs (7 * n + 2))]) (rest := []) S hK hZ hA hW hS h4 (cwV 2 S.2.2.2.2 gL_law_X4_packet rfl rfl rfl (by decide +kernel) ⟨Nat.le_of_ble_eq_true rfl, Nat.le_of_ble_eq_true rfl⟩) (zk_o hz) (by decide) rfl rfl hl.1 rfl (Nat.le_of_ble_eq_true rfl) dL_law_363 ⟨by show _ ≤ 600000; omega, by show _ ≤ 7302250; omega⟩ (fun v9 nu2 y H locs hp hW hS => ?_)
  obtain ⟨ev, hX2, e2, hz2, hF2⟩ := hp
  subst ev
  have hm2 := mw_fr hm hX2 (fun c q hc h1 h2 => hz2.2.2.2 c q (hX2 c q hc) h1 h2)
  refine W.eq (g2 := F0 m 366 ls [.int (v)]) rfl ?_
  refine lv_aload_n S.1 S.2.1 dL_law_366 rfl (lv_at hl 1 rfl) ?_
  refine lv_aload_n S.1 S.2.1 dL_law_367 rfl (lv_at hl 3 rfl) ?_
  refine lv_iload_n S.1 S.2.1 dL_law_368 rfl (lv_at hl 0 rfl) ?_
  refine lv_iconst (v := 1) S.1 S.2.1 dL_law_369 (by decide) ?_
  refine lv_iadd S.1 S.2.1 dL_law_370 ?_
  rw [show (nI (7 * n) : Int32) + 1 = nI (7 * n + 1) from nI_add (7 * n) 1]
  refine va_sld S.1 S.2.1 hX hbl hbA hS (vp_in_nI (n := 7 * n + 1) (N := L) (by omega) (by omega)) dL_law_371 ?_
  rw [show (nI (7 * n + 1)).toNatClampNeg = 7 * n + 1 from nI_clamp (by omega)]
  refine lv_aload_n S.1 S.2.1 dL_law_372 rfl (lv_at hl 3 rfl) ?_
  refine lv_iload_n S.1 S.2.1 dL_law_373 rfl (lv_at hl 0 rfl) ?_
  refine lv_iconst (v := 2) S.1 S.2.1 dL_law_374 (by decide) ?_
  refine lv_iadd S.1 S.2.1 dL_law_375 ?_
  rw [show (nI (7 * n) : Int32) + 2 = nI (7 * n + 2) from nI_add (7 * n) 2]
  refine va_sld S.1 S.2.1 hX hbl hbA hS (vp_in_nI (n := 7 * n + 2) (N := L) (by omega) (by omega)) dL_law_376 ?_
  rw [show (nI (7 * n + 2)).toNatClampNeg = 7 * n + 2 from nI_clamp (by omega)]
  refine kw_callV (As := [.int (xs (7 * n + 1)), .int (xs (7 * n + 2))]) (rest := [.int (v)]) S hK hZ hA hW hS (h5 nu2 y mo ma hm2) (cwV 2 S.2.2.2.2 gL_law_X5_packet rfl rfl rfl (by decide +kernel) ⟨Nat.le_of_ble_eq_true rfl, Nat.le_of_ble_eq_true rfl⟩) hm2.1.1 (by decide) rfl rfl hl.1 rfl (Nat.le_of_ble_eq_true rfl) dL_law_377 ⟨by show _ ≤ 600000; omega, by show _ ≤ 7302250; omega⟩ (fun v9 nu3 y2 H locs hp hW hS => ?_)
  obtain ⟨ev, en3, hm3⟩ := hp
  subst ev
  rw [en3] at hW
  have hz3 := zw_fr hz2 hm3
  have hm4 := mw_rf hm3
  refine W.eq (g2 := F0 m 380 ls [.int (v), .int (v)]) rfl ?_
  refine lv_icmp_eq (tgt := 532) S.1 S.2.1 dL_law_380 (by decide) (fun c1 => ?_) (fun c1 => ?_)
  · skip
    exact kk nu2 y2 e2 t2 _ _ _ _ ls hz3 hF2 hm4 (by omega) (by omega) (by omega) hW hS (lv_sub hl [0, 1, 2, 3] rfl)
  · skip
    exact absurd rfl c1
set_option maxHeartbeats 2000000 in
set_option maxRecDepth 100000 in
theorem law_c7 {p : Program} {l : Launch} {e : Env} {s : State} {m : MethodId} {below : List Frame} {meth : Method} {c : Code} {G : kw_G} {b L o mo : Nat} {ma : Nat → Nat} {xs : Nat → Int32} {Q : State → Prop} (S : CallFix p m c cL_law 4 s #[Value.ref b] wsL_law RL) (hK : kw_K G s) (hZ : kw_Z G (fun q => s.heap.size ≤ q) s s.heap) (hX : va_X b L xs s s.heap) (hbl : b < s.heap.size) {n ce sl : Nat} {nu : Nat → Option Nat} {x : kw_St} {ee : kE} {t : mo_T} {H : Heap} {locs : List Loc} {ls : Array Slot} (hL : L ≤ 3584) (hn : 7 * n + 7 ≤ L) (hce : ce ≤ 38 + 768 * n) (hsl : sl ≤ 9271 + 3072 * n) (hz : zw G nu x o ee t x) (hF : zF ee t) (hm : mw nu x mo ma t x) (hn4 : (tF t 4).toInt ≤ n) (hW : kw_W G (fun q => s.heap.size ≤ q) nu x H) (hS : va_S (fun q => s.heap.size ≤ q) s.heap H locs) (hl : lv_has ls 4 [(3, .int (nI (7 * n))), (2, .ref mo), (1, .ref o), (0, .ref b)])
    (kk : ∀ (nu : Nat → Option Nat) (x : kw_St) (ee : kE) (t : mo_T) (ce2 sl2 : Nat) (H : Heap) (locs : List Loc) (ls : Array Slot), zw G nu x o ee t x → zF ee t → mw nu x mo ma t x → (tF t 4).toInt ≤ n + 1 → ce2 ≤ 38 + 768 * (n + 1) → sl2 ≤ 9271 + 3072 * (n + 1) → kw_W G (fun q => s.heap.size ≤ q) nu x H → va_S (fun q => s.heap.size ≤ q) s.heap H locs → lv_has ls 4 [(3, .int (nI (7 * n))), (2, .ref mo), (1, .ref o), (0, .ref b)] → W p l e room_1 s m #[Value.ref b] below meth c H locs ce2 sl2 Q (F0 m 532 ls [])) : W p l e room_1 s m #[Value.ref b] below meth c H locs ce sl Q (F0 m 385 ls []) := by
  have hbA : ¬ (fun q : Nat => s.heap.size ≤ q) b := Nat.not_le.mpr hbl
  have hA : ∀ r, s.heap.size ≤ r → (fun q : Nat => s.heap.size ≤ q) r := fun _ h => h
  refine lv_aload_n S.1 S.2.1 dL_law_385 rfl (lv_at hl 2 rfl) ?_
  refine lv_aload_n S.1 S.2.1 dL_law_386 rfl (lv_at hl 3 rfl) ?_
  refine lv_iload_n S.1 S.2.1 dL_law_387 rfl (lv_at hl 0 rfl) ?_
  refine lv_iconst (v := 1) S.1 S.2.1 dL_law_388 (by decide) ?_
  refine lv_iadd S.1 S.2.1 dL_law_389 ?_
  rw [show (nI (7 * n) : Int32) + 1 = nI (7 * n + 1) from nI_add (7 * n) 1]
  refine va_sld S.1 S.2.1 hX hbl hbA hS (vp_in_nI (n := 7 * n + 1) (N := L) (by omega) (by omega)) dL_law_390 ?_
  rw [show (nI (7 * n + 1)).toNatClampNeg = 7 * n + 1 from nI_clamp (by omega)]
  obtain ⟨mc, ms, v, t2, hmc, hms, h4n, h4, h5⟩ := L_sent l G hz hF (xs (7 * n + 1))
  refine kw_callV (As := [.int (xs (7 * n + 1))]) (rest := []) S hK hZ hA hW hS h4 (cwV 1 S.2.2.2.2 gL_law_X4_sent rfl rfl rfl (by decide +kernel) ⟨Nat.le_of_ble_eq_true rfl, Nat.le_of_ble_eq_true rfl⟩) (zk_o hz) (by decide) rfl rfl hl.1 rfl (Nat.le_of_ble_eq_true rfl) dL_law_391 ⟨by show _ ≤ 600000; omega, by show _ ≤ 7302250; omega⟩ (fun v9 nu2 y H locs hp hW hS => ?_)
  obtain ⟨ev, hX2, e2, hz2, hF2⟩ := hp
  subst ev
  have hm2 := mw_fr hm hX2 (fun c q hc h1 h2 => hz2.2.2.2 c q (hX2 c q hc) h1 h2)
  refine W.eq (g2 := F0 m 394 ls [.int (v)]) rfl ?_
  refine lv_aload_n S.1 S.2.1 dL_law_394 rfl (lv_at hl 1 rfl) ?_
  refine lv_aload_n S.1 S.2.1 dL_law_395 rfl (lv_at hl 3 rfl) ?_
  refine lv_iload_n S.1 S.2.1 dL_law_396 rfl (lv_at hl 0 rfl) ?_
  refine lv_iconst (v := 1) S.1 S.2.1 dL_law_397 (by decide) ?_
  refine lv_iadd S.1 S.2.1 dL_law_398 ?_
  rw [show (nI (7 * n) : Int32) + 1 = nI (7 * n + 1) from nI_add (7 * n) 1]
  refine va_sld S.1 S.2.1 hX hbl hbA hS (vp_in_nI (n := 7 * n + 1) (N := L) (by omega) (by omega)) dL_law_399 ?_
  rw [show (nI (7 * n + 1)).toNatClampNeg = 7 * n + 1 from nI_clamp (by omega)]
  refine kw_callV (As := [.int (xs (7 * n + 1))]) (rest := [.int (v)]) S hK hZ hA hW hS (h5 nu2 y mo ma hm2) (cwV 1 S.2.2.2.2 gL_law_X5_sent rfl rfl rfl (by decide +kernel) ⟨Nat.le_of_ble_eq_true rfl, Nat.le_of_ble_eq_true rfl⟩) hm2.1.1 (by decide) rfl rfl hl.1 rfl (Nat.le_of_ble_eq_true rfl) dL_law_400 ⟨by show _ ≤ 600000; omega, by show _ ≤ 7302250; omega⟩ (fun v9 nu3 y2 H locs hp hW hS => ?_)
  obtain ⟨ev, en3, hm3⟩ := hp
  subst ev
  rw [en3] at hW
  have hz3 := zw_fr hz2 hm3
  have hm4 := mw_rf hm3
  refine W.eq (g2 := F0 m 403 ls [.int (v), .int (v)]) rfl ?_
  refine lv_icmp_eq (tgt := 532) S.1 S.2.1 dL_law_403 (by decide) (fun c1 => ?_) (fun c1 => ?_)
  · skip
    exact kk nu2 y2 e2 t2 _ _ _ _ ls hz3 hF2 hm4 (by omega) (by omega) (by omega) hW hS (lv_sub hl [0, 1, 2, 3] rfl)
  · skip
    exact absurd rfl c1
set_option maxHeartbeats 2000000 in
set_option maxRecDepth 100000 in
theorem law_c8 {p : Program} {l : Launch} {e : Env} {s : State} {m : MethodId} {below : List Frame} {meth : Method} {c : Code} {G : kw_G} {b L o mo : Nat} {ma : Nat → Nat} {xs : Nat → Int32} {Q : State → Prop} (S : CallFix p m c cL_law 4 s #[Value.ref b] wsL_law RL) (hK : kw_K G s) (hZ : kw_Z G (fun q => s.heap.size ≤ q) s s.heap) (hX : va_X b L xs s s.heap) (hbl : b < s.heap.size) {n ce sl : Nat} {nu : Nat → Option Nat} {x : kw_St} {ee : kE} {t : mo_T} {H : Heap} {locs : List Loc} {ls : Array Slot} (hL : L ≤ 3584) (hn : 7 * n + 7 ≤ L) (hce : ce ≤ 38 + 768 * n) (hsl : sl ≤ 9271 + 3072 * n) (hz : zw G nu x o ee t x) (hF : zF ee t) (hm : mw nu x mo ma t x) (hn4 : (tF t 4).toInt ≤ n) (hW : kw_W G (fun q => s.heap.size ≤ q) nu x H) (hS : va_S (fun q => s.heap.size ≤ q) s.heap H locs) (hl : lv_has ls 4 [(3, .int (nI (7 * n))), (2, .ref mo), (1, .ref o), (0, .ref b)])
    (kk : ∀ (nu : Nat → Option Nat) (x : kw_St) (ee : kE) (t : mo_T) (ce2 sl2 : Nat) (H : Heap) (locs : List Loc) (ls : Array Slot), zw G nu x o ee t x → zF ee t → mw nu x mo ma t x → (tF t 4).toInt ≤ n + 1 → ce2 ≤ 38 + 768 * (n + 1) → sl2 ≤ 9271 + 3072 * (n + 1) → kw_W G (fun q => s.heap.size ≤ q) nu x H → va_S (fun q => s.heap.size ≤ q) s.heap H locs → lv_has ls 4 [(3, .int (nI (7 * n))), (2, .ref mo), (1, .ref o), (0, .ref b)] → W p l e room_1 s m #[Value.ref b] below meth c H locs ce2 sl2 Q (F0 m 532 ls [])) : W p l e room_1 s m #[Value.ref b] below meth c H locs ce sl Q (F0 m 408 ls []) := by
  have hbA : ¬ (fun q : Nat => s.heap.size ≤ q) b := Nat.not_le.mpr hbl
  have hA : ∀ r, s.heap.size ≤ r → (fun q : Nat => s.heap.size ≤ q) r := fun _ h => h
  refine lv_aload_n S.1 S.2.1 dL_law_408 rfl (lv_at hl 2 rfl) ?_
  refine lv_aload_n S.1 S.2.1 dL_law_409 rfl (lv_at hl 3 rfl) ?_
  refine lv_iload_n S.1 S.2.1 dL_law_410 rfl (lv_at hl 0 rfl) ?_
  refine lv_iconst (v := 1) S.1 S.2.1 dL_law_411 (by decide) ?_
  refine lv_iadd S.1 S.2.1 dL_law_412 ?_
  rw [show (nI (7 * n) : Int32) + 1 = nI (7 * n + 1) from nI_add (7 * n) 1]
  refine va_sld S.1 S.2.1 hX hbl hbA hS (vp_in_nI (n := 7 * n + 1) (N := L) (by omega) (by omega)) dL_law_413 ?_
  rw [show (nI (7 * n + 1)).toNatClampNeg = 7 * n + 1 from nI_clamp (by omega)]
  refine lv_aload_n S.1 S.2.1 dL_law_414 rfl (lv_at hl 3 rfl) ?_
  refine lv_iload_n S.1 S.2.1 dL_law_415 rfl (lv_at hl 0 rfl) ?_
  refine lv_iconst (v := 2) S.1 S.2.1 dL_law_416 (by decide) ?_
  refine lv_iadd S.1 S.2.1 dL_law_417 ?_
  rw [show (nI (7 * n) : Int32) + 2 = nI (7 * n + 2) from nI_add (7 * n) 2]
  refine va_sld S.1 S.2.1 hX hbl hbA hS (vp_in_nI (n := 7 * n + 2) (N := L) (by omega) (by omega)) dL_law_418 ?_
  rw [show (nI (7 * n + 2)).toNatClampNeg = 7 * n + 2 from nI_clamp (by omega)]
  obtain ⟨mc, ms, v, t2, hmc, hms, h4n, h4, h5⟩ := L_about l G hz hF (xs (7 * n + 1)) (xs (7 * n + 2))
  refine kw_callV (As := [.int (xs (7 * n + 1)), .int (xs (7 * n + 2))]) (rest := []) S hK hZ hA hW hS h4 (cwV 2 S.2.2.2.2 gL_law_X4_about rfl rfl rfl (by decide +kernel) ⟨Nat.le_of_ble_eq_true rfl, Nat.le_of_ble_eq_true rfl⟩) (zk_o hz) (by decide) rfl rfl hl.1 rfl (Nat.le_of_ble_eq_true rfl) dL_law_419 ⟨by show _ ≤ 600000; omega, by show _ ≤ 7302250; omega⟩ (fun v9 nu2 y H locs hp hW hS => ?_)
  obtain ⟨ev, hX2, e2, hz2, hF2⟩ := hp
  subst ev
  have hm2 := mw_fr hm hX2 (fun c q hc h1 h2 => hz2.2.2.2 c q (hX2 c q hc) h1 h2)
  refine W.eq (g2 := F0 m 422 ls [.int (v)]) rfl ?_
  refine lv_aload_n S.1 S.2.1 dL_law_422 rfl (lv_at hl 1 rfl) ?_
  refine lv_aload_n S.1 S.2.1 dL_law_423 rfl (lv_at hl 3 rfl) ?_
  refine lv_iload_n S.1 S.2.1 dL_law_424 rfl (lv_at hl 0 rfl) ?_
  refine lv_iconst (v := 1) S.1 S.2.1 dL_law_425 (by decide) ?_
  refine lv_iadd S.1 S.2.1 dL_law_426 ?_
  rw [show (nI (7 * n) : Int32) + 1 = nI (7 * n + 1) from nI_add (7 * n) 1]
  refine va_sld S.1 S.2.1 hX hbl hbA hS (vp_in_nI (n := 7 * n + 1) (N := L) (by omega) (by omega)) dL_law_427 ?_
  rw [show (nI (7 * n + 1)).toNatClampNeg = 7 * n + 1 from nI_clamp (by omega)]
  refine lv_aload_n S.1 S.2.1 dL_law_428 rfl (lv_at hl 3 rfl) ?_
  refine lv_iload_n S.1 S.2.1 dL_law_429 rfl (lv_at hl 0 rfl) ?_
  refine lv_iconst (v := 2) S.1 S.2.1 dL_law_430 (by decide) ?_
  refine lv_iadd S.1 S.2.1 dL_law_431 ?_
  rw [show (nI (7 * n) : Int32) + 2 = nI (7 * n + 2) from nI_add (7 * n) 2]
  refine va_sld S.1 S.2.1 hX hbl hbA hS (vp_in_nI (n := 7 * n + 2) (N := L) (by omega) (by omega)) dL_law_432 ?_
  rw [show (nI (7 * n + 2)).toNatClampNeg = 7 * n + 2 from nI_clamp (by omega)]
  refine kw_callV (As := [.int (xs (7 * n + 1)), .int (xs (7 * n + 2))]) (rest := [.int (v)]) S hK hZ hA hW hS (h5 nu2 y mo ma hm2) (cwV 2 S.2.2.2.2 gL_law_X5_about rfl rfl rfl (by decide +kernel) ⟨Nat.le_of_ble_eq_true rfl, Nat.le_of_ble_eq_true rfl⟩) hm2.1.1 (by decide) rfl rfl hl.1 rfl (Nat.le_of_ble_eq_true rfl) dL_law_433 ⟨by show _ ≤ 600000; omega, by show _ ≤ 7302250; omega⟩ (fun v9 nu3 y2 H locs hp hW hS => ?_)
  obtain ⟨ev, en3, hm3⟩ := hp
  subst ev
  rw [en3] at hW
  have hz3 := zw_fr hz2 hm3
  have hm4 := mw_rf hm3
  refine W.eq (g2 := F0 m 436 ls [.int (v), .int (v)]) rfl ?_
  refine lv_icmp_eq (tgt := 532) S.1 S.2.1 dL_law_436 (by decide) (fun c1 => ?_) (fun c1 => ?_)
  · skip
    exact kk nu2 y2 e2 t2 _ _ _ _ ls hz3 hF2 hm4 (by omega) (by omega) (by omega) hW hS (lv_sub hl [0, 1, 2, 3] rfl)
  · skip
    exact absurd rfl c1
set_option maxHeartbeats 2000000 in
set_option maxRecDepth 100000 in
theorem law_c9 {p : Program} {l : Launch} {e : Env} {s : State} {m : MethodId} {below : List Frame} {meth : Method} {c : Code} {G : kw_G} {b L o mo : Nat} {ma : Nat → Nat} {xs : Nat → Int32} {Q : State → Prop} (S : CallFix p m c cL_law 4 s #[Value.ref b] wsL_law RL) (hK : kw_K G s) (hZ : kw_Z G (fun q => s.heap.size ≤ q) s s.heap) (hX : va_X b L xs s s.heap) (hbl : b < s.heap.size) {n ce sl : Nat} {nu : Nat → Option Nat} {x : kw_St} {ee : kE} {t : mo_T} {H : Heap} {locs : List Loc} {ls : Array Slot} (hL : L ≤ 3584) (hn : 7 * n + 7 ≤ L) (hce : ce ≤ 38 + 768 * n) (hsl : sl ≤ 9271 + 3072 * n) (hz : zw G nu x o ee t x) (hF : zF ee t) (hm : mw nu x mo ma t x) (hn4 : (tF t 4).toInt ≤ n) (hW : kw_W G (fun q => s.heap.size ≤ q) nu x H) (hS : va_S (fun q => s.heap.size ≤ q) s.heap H locs) (hl : lv_has ls 4 [(3, .int (nI (7 * n))), (2, .ref mo), (1, .ref o), (0, .ref b)])
    (kk : ∀ (nu : Nat → Option Nat) (x : kw_St) (ee : kE) (t : mo_T) (ce2 sl2 : Nat) (H : Heap) (locs : List Loc) (ls : Array Slot), zw G nu x o ee t x → zF ee t → mw nu x mo ma t x → (tF t 4).toInt ≤ n + 1 → ce2 ≤ 38 + 768 * (n + 1) → sl2 ≤ 9271 + 3072 * (n + 1) → kw_W G (fun q => s.heap.size ≤ q) nu x H → va_S (fun q => s.heap.size ≤ q) s.heap H locs → lv_has ls 4 [(3, .int (nI (7 * n))), (2, .ref mo), (1, .ref o), (0, .ref b)] → W p l e room_1 s m #[Value.ref b] below meth c H locs ce2 sl2 Q (F0 m 532 ls [])) : W p l e room_1 s m #[Value.ref b] below meth c H locs ce sl Q (F0 m 441 ls []) := by
  have hbA : ¬ (fun q : Nat => s.heap.size ≤ q) b := Nat.not_le.mpr hbl
  have hA : ∀ r, s.heap.size ≤ r → (fun q : Nat => s.heap.size ≤ q) r := fun _ h => h
  refine lv_aload_n S.1 S.2.1 dL_law_441 rfl (lv_at hl 2 rfl) ?_
  refine lv_aload_n S.1 S.2.1 dL_law_442 rfl (lv_at hl 3 rfl) ?_
  refine lv_iload_n S.1 S.2.1 dL_law_443 rfl (lv_at hl 0 rfl) ?_
  refine lv_iconst (v := 1) S.1 S.2.1 dL_law_444 (by decide) ?_
  refine lv_iadd S.1 S.2.1 dL_law_445 ?_
  rw [show (nI (7 * n) : Int32) + 1 = nI (7 * n + 1) from nI_add (7 * n) 1]
  refine va_sld S.1 S.2.1 hX hbl hbA hS (vp_in_nI (n := 7 * n + 1) (N := L) (by omega) (by omega)) dL_law_446 ?_
  rw [show (nI (7 * n + 1)).toNatClampNeg = 7 * n + 1 from nI_clamp (by omega)]
  refine lv_aload_n S.1 S.2.1 dL_law_447 rfl (lv_at hl 3 rfl) ?_
  refine lv_iload_n S.1 S.2.1 dL_law_448 rfl (lv_at hl 0 rfl) ?_
  refine lv_iconst (v := 2) S.1 S.2.1 dL_law_449 (by decide) ?_
  refine lv_iadd S.1 S.2.1 dL_law_450 ?_
  rw [show (nI (7 * n) : Int32) + 2 = nI (7 * n + 2) from nI_add (7 * n) 2]
  refine va_sld S.1 S.2.1 hX hbl hbA hS (vp_in_nI (n := 7 * n + 2) (N := L) (by omega) (by omega)) dL_law_451 ?_
  rw [show (nI (7 * n + 2)).toNatClampNeg = 7 * n + 2 from nI_clamp (by omega)]
  obtain ⟨mc, ms, v, t2, hmc, hms, h4n, h4, h5⟩ := L_tokens l G hz hF (xs (7 * n + 1)) (xs (7 * n + 2))
  refine kw_callV (As := [.int (xs (7 * n + 1)), .int (xs (7 * n + 2))]) (rest := []) S hK hZ hA hW hS h4 (cwV 2 S.2.2.2.2 gL_law_X4_tokens rfl rfl rfl (by decide +kernel) ⟨Nat.le_of_ble_eq_true rfl, Nat.le_of_ble_eq_true rfl⟩) (zk_o hz) (by decide) rfl rfl hl.1 rfl (Nat.le_of_ble_eq_true rfl) dL_law_452 ⟨by show _ ≤ 600000; omega, by show _ ≤ 7302250; omega⟩ (fun v9 nu2 y H locs hp hW hS => ?_)
  obtain ⟨ev, hX2, e2, hz2, hF2⟩ := hp
  subst ev
  have hm2 := mw_fr hm hX2 (fun c q hc h1 h2 => hz2.2.2.2 c q (hX2 c q hc) h1 h2)
  refine W.eq (g2 := F0 m 455 ls [.long (v)]) rfl ?_
  refine lv_aload_n S.1 S.2.1 dL_law_455 rfl (lv_at hl 1 rfl) ?_
  refine lv_aload_n S.1 S.2.1 dL_law_456 rfl (lv_at hl 3 rfl) ?_
  refine lv_iload_n S.1 S.2.1 dL_law_457 rfl (lv_at hl 0 rfl) ?_
  refine lv_iconst (v := 1) S.1 S.2.1 dL_law_458 (by decide) ?_
  refine lv_iadd S.1 S.2.1 dL_law_459 ?_
  rw [show (nI (7 * n) : Int32) + 1 = nI (7 * n + 1) from nI_add (7 * n) 1]
  refine va_sld S.1 S.2.1 hX hbl hbA hS (vp_in_nI (n := 7 * n + 1) (N := L) (by omega) (by omega)) dL_law_460 ?_
  rw [show (nI (7 * n + 1)).toNatClampNeg = 7 * n + 1 from nI_clamp (by omega)]
  refine lv_aload_n S.1 S.2.1 dL_law_461 rfl (lv_at hl 3 rfl) ?_
  refine lv_iload_n S.1 S.2.1 dL_law_462 rfl (lv_at hl 0 rfl) ?_
  refine lv_iconst (v := 2) S.1 S.2.1 dL_law_463 (by decide) ?_
  refine lv_iadd S.1 S.2.1 dL_law_464 ?_
  rw [show (nI (7 * n) : Int32) + 2 = nI (7 * n + 2) from nI_add (7 * n) 2]
  refine va_sld S.1 S.2.1 hX hbl hbA hS (vp_in_nI (n := 7 * n + 2) (N := L) (by omega) (by omega)) dL_law_465 ?_
  rw [show (nI (7 * n + 2)).toNatClampNeg = 7 * n + 2 from nI_clamp (by omega)]
  refine kw_callV (As := [.int (xs (7 * n + 1)), .int (xs (7 * n + 2))]) (rest := [.long (v)]) S hK hZ hA hW hS (h5 nu2 y mo ma hm2) (cwV 2 S.2.2.2.2 gL_law_X5_tokens rfl rfl rfl (by decide +kernel) ⟨Nat.le_of_ble_eq_true rfl, Nat.le_of_ble_eq_true rfl⟩) hm2.1.1 (by decide) rfl rfl hl.1 rfl (Nat.le_of_ble_eq_true rfl) dL_law_466 ⟨by show _ ≤ 600000; omega, by show _ ≤ 7302250; omega⟩ (fun v9 nu3 y2 H locs hp hW hS => ?_)
  obtain ⟨ev, en3, hm3⟩ := hp
  subst ev
  rw [en3] at hW
  have hz3 := zw_fr hz2 hm3
  have hm4 := mw_rf hm3
  refine W.eq (g2 := F0 m 469 ls [.long (v), .long (v)]) rfl ?_
  refine kx_lc_eq (tgt := 532) S dL_law_469 dL_law_470 (by decide) (fun c1 => ?_) (fun c1 => ?_)
  · skip
    exact kk nu2 y2 e2 t2 _ _ _ _ ls hz3 hF2 hm4 (by omega) (by omega) (by omega) hW hS (lv_sub hl [0, 1, 2, 3] rfl)
  · skip
    exact absurd rfl c1
set_option maxHeartbeats 2000000 in
set_option maxRecDepth 100000 in
theorem law_c10 {p : Program} {l : Launch} {e : Env} {s : State} {m : MethodId} {below : List Frame} {meth : Method} {c : Code} {G : kw_G} {b L o mo : Nat} {ma : Nat → Nat} {xs : Nat → Int32} {Q : State → Prop} (S : CallFix p m c cL_law 4 s #[Value.ref b] wsL_law RL) (hK : kw_K G s) (hZ : kw_Z G (fun q => s.heap.size ≤ q) s s.heap) (hX : va_X b L xs s s.heap) (hbl : b < s.heap.size) {n ce sl : Nat} {nu : Nat → Option Nat} {x : kw_St} {ee : kE} {t : mo_T} {H : Heap} {locs : List Loc} {ls : Array Slot} (hL : L ≤ 3584) (hn : 7 * n + 7 ≤ L) (hce : ce ≤ 38 + 768 * n) (hsl : sl ≤ 9271 + 3072 * n) (hz : zw G nu x o ee t x) (hF : zF ee t) (hm : mw nu x mo ma t x) (hn4 : (tF t 4).toInt ≤ n) (hW : kw_W G (fun q => s.heap.size ≤ q) nu x H) (hS : va_S (fun q => s.heap.size ≤ q) s.heap H locs) (hl : lv_has ls 4 [(3, .int (nI (7 * n))), (2, .ref mo), (1, .ref o), (0, .ref b)])
    (kk : ∀ (nu : Nat → Option Nat) (x : kw_St) (ee : kE) (t : mo_T) (ce2 sl2 : Nat) (H : Heap) (locs : List Loc) (ls : Array Slot), zw G nu x o ee t x → zF ee t → mw nu x mo ma t x → (tF t 4).toInt ≤ n + 1 → ce2 ≤ 38 + 768 * (n + 1) → sl2 ≤ 9271 + 3072 * (n + 1) → kw_W G (fun q => s.heap.size ≤ q) nu x H → va_S (fun q => s.heap.size ≤ q) s.heap H locs → lv_has ls 4 [(3, .int (nI (7 * n))), (2, .ref mo), (1, .ref o), (0, .ref b)] → W p l e room_1 s m #[Value.ref b] below meth c H locs ce2 sl2 Q (F0 m 532 ls [])) : W p l e room_1 s m #[Value.ref b] below meth c H locs ce sl Q (F0 m 475 ls []) := by
  have hbA : ¬ (fun q : Nat => s.heap.size ≤ q) b := Nat.not_le.mpr hbl
  have hA : ∀ r, s.heap.size ≤ r → (fun q : Nat => s.heap.size ≤ q) r := fun _ h => h
  refine lv_aload_n S.1 S.2.1 dL_law_475 rfl (lv_at hl 2 rfl) ?_
  refine lv_aload_n S.1 S.2.1 dL_law_476 rfl (lv_at hl 3 rfl) ?_
  refine lv_iload_n S.1 S.2.1 dL_law_477 rfl (lv_at hl 0 rfl) ?_
  refine lv_iconst (v := 1) S.1 S.2.1 dL_law_478 (by decide) ?_
  refine lv_iadd S.1 S.2.1 dL_law_479 ?_
  rw [show (nI (7 * n) : Int32) + 1 = nI (7 * n + 1) from nI_add (7 * n) 1]
  refine va_sld S.1 S.2.1 hX hbl hbA hS (vp_in_nI (n := 7 * n + 1) (N := L) (by omega) (by omega)) dL_law_480 ?_
  rw [show (nI (7 * n + 1)).toNatClampNeg = 7 * n + 1 from nI_clamp (by omega)]
  refine lv_aload_n S.1 S.2.1 dL_law_481 rfl (lv_at hl 3 rfl) ?_
  refine lv_iload_n S.1 S.2.1 dL_law_482 rfl (lv_at hl 0 rfl) ?_
  refine lv_iconst (v := 2) S.1 S.2.1 dL_law_483 (by decide) ?_
  refine lv_iadd S.1 S.2.1 dL_law_484 ?_
  rw [show (nI (7 * n) : Int32) + 2 = nI (7 * n + 2) from nI_add (7 * n) 2]
  refine va_sld S.1 S.2.1 hX hbl hbA hS (vp_in_nI (n := 7 * n + 2) (N := L) (by omega) (by omega)) dL_law_485 ?_
  rw [show (nI (7 * n + 2)).toNatClampNeg = 7 * n + 2 from nI_clamp (by omega)]
  obtain ⟨mc, ms, v, t2, hmc, hms, h4n, h4, h5⟩ := L_tag l G hz hF (xs (7 * n + 1)) (xs (7 * n + 2))
  refine kw_callV (As := [.int (xs (7 * n + 1)), .int (xs (7 * n + 2))]) (rest := []) S hK hZ hA hW hS h4 (cwV 2 S.2.2.2.2 gL_law_X4_tag rfl rfl rfl (by decide +kernel) ⟨Nat.le_of_ble_eq_true rfl, Nat.le_of_ble_eq_true rfl⟩) (zk_o hz) (by decide) rfl rfl hl.1 rfl (Nat.le_of_ble_eq_true rfl) dL_law_486 ⟨by show _ ≤ 600000; omega, by show _ ≤ 7302250; omega⟩ (fun v9 nu2 y H locs hp hW hS => ?_)
  obtain ⟨ev, hX2, e2, hz2, hF2⟩ := hp
  subst ev
  have hm2 := mw_fr hm hX2 (fun c q hc h1 h2 => hz2.2.2.2 c q (hX2 c q hc) h1 h2)
  refine W.eq (g2 := F0 m 489 ls [.long (v)]) rfl ?_
  refine lv_aload_n S.1 S.2.1 dL_law_489 rfl (lv_at hl 1 rfl) ?_
  refine lv_aload_n S.1 S.2.1 dL_law_490 rfl (lv_at hl 3 rfl) ?_
  refine lv_iload_n S.1 S.2.1 dL_law_491 rfl (lv_at hl 0 rfl) ?_
  refine lv_iconst (v := 1) S.1 S.2.1 dL_law_492 (by decide) ?_
  refine lv_iadd S.1 S.2.1 dL_law_493 ?_
  rw [show (nI (7 * n) : Int32) + 1 = nI (7 * n + 1) from nI_add (7 * n) 1]
  refine va_sld S.1 S.2.1 hX hbl hbA hS (vp_in_nI (n := 7 * n + 1) (N := L) (by omega) (by omega)) dL_law_494 ?_
  rw [show (nI (7 * n + 1)).toNatClampNeg = 7 * n + 1 from nI_clamp (by omega)]
  refine lv_aload_n S.1 S.2.1 dL_law_495 rfl (lv_at hl 3 rfl) ?_
  refine lv_iload_n S.1 S.2.1 dL_law_496 rfl (lv_at hl 0 rfl) ?_
  refine lv_iconst (v := 2) S.1 S.2.1 dL_law_497 (by decide) ?_
  refine lv_iadd S.1 S.2.1 dL_law_498 ?_
  rw [show (nI (7 * n) : Int32) + 2 = nI (7 * n + 2) from nI_add (7 * n) 2]
  refine va_sld S.1 S.2.1 hX hbl hbA hS (vp_in_nI (n := 7 * n + 2) (N := L) (by omega) (by omega)) dL_law_499 ?_
  rw [show (nI (7 * n + 2)).toNatClampNeg = 7 * n + 2 from nI_clamp (by omega)]
  refine kw_callV (As := [.int (xs (7 * n + 1)), .int (xs (7 * n + 2))]) (rest := [.long (v)]) S hK hZ hA hW hS (h5 nu2 y mo ma hm2) (cwV 2 S.2.2.2.2 gL_law_X5_tag rfl rfl rfl (by decide +kernel) ⟨Nat.le_of_ble_eq_true rfl, Nat.le_of_ble_eq_true rfl⟩) hm2.1.1 (by decide) rfl rfl hl.1 rfl (Nat.le_of_ble_eq_true rfl) dL_law_500 ⟨by show _ ≤ 600000; omega, by show _ ≤ 7302250; omega⟩ (fun v9 nu3 y2 H locs hp hW hS => ?_)
  obtain ⟨ev, en3, hm3⟩ := hp
  subst ev
  rw [en3] at hW
  have hz3 := zw_fr hz2 hm3
  have hm4 := mw_rf hm3
  refine W.eq (g2 := F0 m 503 ls [.long (v), .long (v)]) rfl ?_
  refine kx_lc_eq (tgt := 532) S dL_law_503 dL_law_504 (by decide) (fun c1 => ?_) (fun c1 => ?_)
  · skip
    exact kk nu2 y2 e2 t2 _ _ _ _ ls hz3 hF2 hm4 (by omega) (by omega) (by omega) hW hS (lv_sub hl [0, 1, 2, 3] rfl)
  · skip
    exact absurd rfl c1
set_option maxHeartbeats 2000000 in
set_option maxRecDepth 100000 in
theorem law_c11 {p : Program} {l : Launch} {e : Env} {s : State} {m : MethodId} {below : List Frame} {meth : Method} {c : Code} {G : kw_G} {b L o mo : Nat} {ma : Nat → Nat} {xs : Nat → Int32} {Q : State → Prop} (S : CallFix p m c cL_law 4 s #[Value.ref b] wsL_law RL) (hK : kw_K G s) (hZ : kw_Z G (fun q => s.heap.size ≤ q) s s.heap) (hX : va_X b L xs s s.heap) (hbl : b < s.heap.size) {n ce sl : Nat} {nu : Nat → Option Nat} {x : kw_St} {ee : kE} {t : mo_T} {H : Heap} {locs : List Loc} {ls : Array Slot} (hL : L ≤ 3584) (hn : 7 * n + 7 ≤ L) (hce : ce ≤ 38 + 768 * n) (hsl : sl ≤ 9271 + 3072 * n) (hz : zw G nu x o ee t x) (hF : zF ee t) (hm : mw nu x mo ma t x) (hn4 : (tF t 4).toInt ≤ n) (hW : kw_W G (fun q => s.heap.size ≤ q) nu x H) (hS : va_S (fun q => s.heap.size ≤ q) s.heap H locs) (hl : lv_has ls 4 [(3, .int (nI (7 * n))), (2, .ref mo), (1, .ref o), (0, .ref b)])
    (kk : ∀ (nu : Nat → Option Nat) (x : kw_St) (ee : kE) (t : mo_T) (ce2 sl2 : Nat) (H : Heap) (locs : List Loc) (ls : Array Slot), zw G nu x o ee t x → zF ee t → mw nu x mo ma t x → (tF t 4).toInt ≤ n + 1 → ce2 ≤ 38 + 768 * (n + 1) → sl2 ≤ 9271 + 3072 * (n + 1) → kw_W G (fun q => s.heap.size ≤ q) nu x H → va_S (fun q => s.heap.size ≤ q) s.heap H locs → lv_has ls 4 [(3, .int (nI (7 * n))), (2, .ref mo), (1, .ref o), (0, .ref b)] → W p l e room_1 s m #[Value.ref b] below meth c H locs ce2 sl2 Q (F0 m 532 ls [])) : W p l e room_1 s m #[Value.ref b] below meth c H locs ce sl Q (F0 m 509 ls []) := by
  have hbA : ¬ (fun q : Nat => s.heap.size ≤ q) b := Nat.not_le.mpr hbl
  have hA : ∀ r, s.heap.size ≤ r → (fun q : Nat => s.heap.size ≤ q) r := fun _ h => h
  refine lv_aload_n S.1 S.2.1 dL_law_509 rfl (lv_at hl 2 rfl) ?_
  refine lv_aload_n S.1 S.2.1 dL_law_510 rfl (lv_at hl 3 rfl) ?_
  refine lv_iload_n S.1 S.2.1 dL_law_511 rfl (lv_at hl 0 rfl) ?_
  refine lv_iconst (v := 1) S.1 S.2.1 dL_law_512 (by decide) ?_
  refine lv_iadd S.1 S.2.1 dL_law_513 ?_
  rw [show (nI (7 * n) : Int32) + 1 = nI (7 * n + 1) from nI_add (7 * n) 1]
  refine va_sld S.1 S.2.1 hX hbl hbA hS (vp_in_nI (n := 7 * n + 1) (N := L) (by omega) (by omega)) dL_law_514 ?_
  rw [show (nI (7 * n + 1)).toNatClampNeg = 7 * n + 1 from nI_clamp (by omega)]
  obtain ⟨mc, ms, v, t2, hmc, hms, h4n, h4, h5⟩ := L_count l G hz hF (xs (7 * n + 1))
  refine kw_callV (As := [.int (xs (7 * n + 1))]) (rest := []) S hK hZ hA hW hS h4 (cwV 1 S.2.2.2.2 gL_law_X4_count rfl rfl rfl (by decide +kernel) ⟨Nat.le_of_ble_eq_true rfl, Nat.le_of_ble_eq_true rfl⟩) (zk_o hz) (by decide) rfl rfl hl.1 rfl (Nat.le_of_ble_eq_true rfl) dL_law_515 ⟨by show _ ≤ 600000; omega, by show _ ≤ 7302250; omega⟩ (fun v9 nu2 y H locs hp hW hS => ?_)
  obtain ⟨ev, hX2, e2, hz2, hF2⟩ := hp
  subst ev
  have hm2 := mw_fr hm hX2 (fun c q hc h1 h2 => hz2.2.2.2 c q (hX2 c q hc) h1 h2)
  refine W.eq (g2 := F0 m 518 ls [.int (v)]) rfl ?_
  refine lv_aload_n S.1 S.2.1 dL_law_518 rfl (lv_at hl 1 rfl) ?_
  refine lv_aload_n S.1 S.2.1 dL_law_519 rfl (lv_at hl 3 rfl) ?_
  refine lv_iload_n S.1 S.2.1 dL_law_520 rfl (lv_at hl 0 rfl) ?_
  refine lv_iconst (v := 1) S.1 S.2.1 dL_law_521 (by decide) ?_
  refine lv_iadd S.1 S.2.1 dL_law_522 ?_
  rw [show (nI (7 * n) : Int32) + 1 = nI (7 * n + 1) from nI_add (7 * n) 1]
  refine va_sld S.1 S.2.1 hX hbl hbA hS (vp_in_nI (n := 7 * n + 1) (N := L) (by omega) (by omega)) dL_law_523 ?_
  rw [show (nI (7 * n + 1)).toNatClampNeg = 7 * n + 1 from nI_clamp (by omega)]
  refine kw_callV (As := [.int (xs (7 * n + 1))]) (rest := [.int (v)]) S hK hZ hA hW hS (h5 nu2 y mo ma hm2) (cwV 1 S.2.2.2.2 gL_law_X5_count rfl rfl rfl (by decide +kernel) ⟨Nat.le_of_ble_eq_true rfl, Nat.le_of_ble_eq_true rfl⟩) hm2.1.1 (by decide) rfl rfl hl.1 rfl (Nat.le_of_ble_eq_true rfl) dL_law_524 ⟨by show _ ≤ 600000; omega, by show _ ≤ 7302250; omega⟩ (fun v9 nu3 y2 H locs hp hW hS => ?_)
  obtain ⟨ev, en3, hm3⟩ := hp
  subst ev
  rw [en3] at hW
  have hz3 := zw_fr hz2 hm3
  have hm4 := mw_rf hm3
  refine W.eq (g2 := F0 m 527 ls [.int (v), .int (v)]) rfl ?_
  refine lv_icmp_eq (tgt := 532) S.1 S.2.1 dL_law_527 (by decide) (fun c1 => ?_) (fun c1 => ?_)
  · skip
    exact kk nu2 y2 e2 t2 _ _ _ _ ls hz3 hF2 hm4 (by omega) (by omega) (by omega) hW hS (lv_sub hl [0, 1, 2, 3] rfl)
  · skip
    exact absurd rfl c1
