/-! what a fresh object holds, for kw_new -/
set_option maxHeartbeats 1000000 in
theorem kw_dvJx4a65c (y : kw_St) (b : Nat) (hI : ∀ i, kI y i b = 0) (hJ : ∀ i, kJ y i b = 0) (hR : ∀ i, kR y i b = none) : ∀ j, j < 3 → defaultValue (tyJx4a65c j) = vp_V (kw_ob y 0 b) j := by
  intro j hj
  rcases (show j = 0 ∨ j = 1 ∨ j = 2 by omega) with rfl | rfl | rfl <;> simp [vp_V, kw_ob, kw_fl, kw_go, kw_fv, hI, hJ, hR, va_rf, tyJx4a65c, defaultValue]
set_option maxHeartbeats 1000000 in
theorem kw_dvX0 (y : kw_St) (b : Nat) (hI : ∀ i, kI y i b = 0) (hJ : ∀ i, kJ y i b = 0) (hR : ∀ i, kR y i b = none) : ∀ j, j < 3 → defaultValue (tyX0 j) = vp_V (kw_ob y 1 b) j := by
  intro j hj
  rcases (show j = 0 ∨ j = 1 ∨ j = 2 by omega) with rfl | rfl | rfl <;> simp [vp_V, kw_ob, kw_fl, kw_go, kw_fv, hI, hJ, hR, va_rf, tyX0, defaultValue]
set_option maxHeartbeats 1000000 in
theorem kw_dvX1 (y : kw_St) (b : Nat) (hI : ∀ i, kI y i b = 0) (hJ : ∀ i, kJ y i b = 0) (hR : ∀ i, kR y i b = none) : ∀ j, j < 6 → defaultValue (tyX1 j) = vp_V (kw_ob y 2 b) j := by
  intro j hj
  rcases (show j = 0 ∨ j = 1 ∨ j = 2 ∨ j = 3 ∨ j = 4 ∨ j = 5 by omega) with rfl | rfl | rfl | rfl | rfl | rfl <;> simp [vp_V, kw_ob, kw_fl, kw_go, kw_fv, hI, hJ, hR, va_rf, tyX1, defaultValue]
set_option maxHeartbeats 1000000 in
theorem kw_dvX2 (y : kw_St) (b : Nat) (hI : ∀ i, kI y i b = 0) (hJ : ∀ i, kJ y i b = 0) (hR : ∀ i, kR y i b = none) : ∀ j, j < 18 → defaultValue (tyX2 j) = vp_V (kw_ob y 3 b) j := by
  intro j hj
  rcases (show j = 0 ∨ j = 1 ∨ j = 2 ∨ j = 3 ∨ j = 4 ∨ j = 5 ∨ j = 6 ∨ j = 7 ∨ j = 8 ∨ j = 9 ∨ j = 10 ∨ j = 11 ∨ j = 12 ∨ j = 13 ∨ j = 14 ∨ j = 15 ∨ j = 16 ∨ j = 17 by omega) with rfl | rfl | rfl | rfl | rfl | rfl | rfl | rfl | rfl | rfl | rfl | rfl | rfl | rfl | rfl | rfl | rfl | rfl <;> simp [vp_V, kw_ob, kw_fl, kw_go, kw_fv, hI, hJ, hR, va_rf, tyX2, defaultValue]
set_option maxHeartbeats 1000000 in
theorem kw_dvX3 (y : kw_St) (b : Nat) (hI : ∀ i, kI y i b = 0) (hJ : ∀ i, kJ y i b = 0) (hR : ∀ i, kR y i b = none) : ∀ j, j < 9 → defaultValue (tyX3 j) = vp_V (kw_ob y 4 b) j := by
  intro j hj
  rcases (show j = 0 ∨ j = 1 ∨ j = 2 ∨ j = 3 ∨ j = 4 ∨ j = 5 ∨ j = 6 ∨ j = 7 ∨ j = 8 by omega) with rfl | rfl | rfl | rfl | rfl | rfl | rfl | rfl | rfl <;> simp [vp_V, kw_ob, kw_fl, kw_go, kw_fv, hI, hJ, hR, va_rf, tyX3, defaultValue]
set_option maxHeartbeats 1000000 in
theorem kw_dvX4 (y : kw_St) (b : Nat) (hI : ∀ i, kI y i b = 0) (hJ : ∀ i, kJ y i b = 0) (hR : ∀ i, kR y i b = none) : ∀ j, j < 9 → defaultValue (tyX4 j) = vp_V (kw_ob y 5 b) j := by
  intro j hj
  rcases (show j = 0 ∨ j = 1 ∨ j = 2 ∨ j = 3 ∨ j = 4 ∨ j = 5 ∨ j = 6 ∨ j = 7 ∨ j = 8 by omega) with rfl | rfl | rfl | rfl | rfl | rfl | rfl | rfl | rfl <;> simp [vp_V, kw_ob, kw_fl, kw_go, kw_fv, hI, hJ, hR, va_rf, tyX4, defaultValue]
set_option maxHeartbeats 1000000 in
theorem kw_dvX5 (y : kw_St) (b : Nat) (hI : ∀ i, kI y i b = 0) (hJ : ∀ i, kJ y i b = 0) (hR : ∀ i, kR y i b = none) : ∀ j, j < 42 → defaultValue (tyX5 j) = vp_V (kw_ob y 6 b) j := by
  intro j hj
  rcases (show j = 0 ∨ j = 1 ∨ j = 2 ∨ j = 3 ∨ j = 4 ∨ j = 5 ∨ j = 6 ∨ j = 7 ∨ j = 8 ∨ j = 9 ∨ j = 10 ∨ j = 11 ∨ j = 12 ∨ j = 13 ∨ j = 14 ∨ j = 15 ∨ j = 16 ∨ j = 17 ∨ j = 18 ∨ j = 19 ∨ j = 20 ∨ j = 21 ∨ j = 22 ∨ j = 23 ∨ j = 24 ∨ j = 25 ∨ j = 26 ∨ j = 27 ∨ j = 28 ∨ j = 29 ∨ j = 30 ∨ j = 31 ∨ j = 32 ∨ j = 33 ∨ j = 34 ∨ j = 35 ∨ j = 36 ∨ j = 37 ∨ j = 38 ∨ j = 39 ∨ j = 40 ∨ j = 41 by omega) with rfl | rfl | rfl | rfl | rfl | rfl | rfl | rfl | rfl | rfl | rfl | rfl | rfl | rfl | rfl | rfl | rfl | rfl | rfl | rfl | rfl | rfl | rfl | rfl | rfl | rfl | rfl | rfl | rfl | rfl | rfl | rfl | rfl | rfl | rfl | rfl | rfl | rfl | rfl | rfl | rfl | rfl <;> simp [vp_V, kw_ob, kw_fl, kw_go, kw_fv, hI, hJ, hR, va_rf, tyX5, defaultValue]
