set_option maxHeartbeats 8000000 in
set_option maxRecDepth 100000 in
theorem c_X0_init (l : Launch) (D : va_G) (cA : Nat → ClassId) (h0 sz : Nat) : MC l D cA yX0_init wsX0_init { frames := 1, cells := 5, slots := 48, locals := 12 } (h0, .inr (0, [.int 0, .int 0, .int 0, .int 0, .int 0, .null, .null, .null, .null, .null])) sz (WX0 cA h0) (fun _ => True) 5 48 := by
  refine en_C rfl (by decide +kernel) rfl (Nat.le_of_ble_eq_true rfl) ?_
  intro p e s m args below meth c ls0 Q A S hin hK hN hP hD hS hA hl0 hret
  have hl0 : lv_has ls0 1 [(0, .ref h0)] := hl0
  have hiX0 : ∀ w ∈ u_ws RX0 TX0 10, w ∈ wsX0_init := in_wsX0_init_1
  refine lv_aload_n S.1 S.2.1 dX0_init_0 rfl (lv_at hl0 0 rfl) ?_
  refine W.objInit S.1 S.2.1 S.2.2.2.1 (S.2.2.2.2 (.methodLink RX0 3 objectInit) (am_at in_wsX0_init_0 0 rfl)) (S.2.2.2.2 (.instanceMethod objectInit) (am_at in_wsX0_init_0 1 rfl)) (S.2.2.2.2 (.code objectInit ⟨#[0xb1]⟩ 1 none) (am_at in_wsX0_init_0 2 rfl)) rfl (by rw [S.2.2.1]; exact hl0.1) rfl dX0_init_1 (Nat.le_of_ble_eq_true rfl) (Nat.le_of_ble_eq_true rfl) ?_
  refine W.eq (g2 := F0 m 4 ls0 []) rfl ?_
  refine lv_aload_n S.1 S.2.1 dX0_init_4 rfl (lv_at hl0 0 rfl) ?_
  refine lv_bipush (v := (nI 8)) S.1 S.2.1 dX0_init_5 (by decide +kernel) ?_
  refine va_newa (atype := .int) (ty := .int) (N' := 8) (a0 := (8, .inl (fun _ => 0))) S.1 S.2.1 (S.2.2.2.2 (.arrayClass .int) (am_at in_wsX0_init_0 3 rfl)) rfl hK hP hD hS hA (fun _ => vp_cell_i _ _ _) (by decide +kernel) (by decide +kernel) (by decide +kernel) (by decide +kernel) (by decide +kernel) dX0_init_7 (fun q1 cc1 H1 hK1 hP1 hD1 hS1 => ?_)
  obtain rfl : cc1 = cA 0 := k_cl 0 rfl (fun _ _ h => h) hK1
  refine W.widen (k := 1) (n := 8) (by decide) (by omega) ?_
  have hP1 : va_P D vwCl ([(h0, .inr (0, [.int 0, .int 0, .int 0, .int 0, .int 0, .null, .null, .null, .null, .null])), (q1, aI cA 8)]) H1 := hP1
  have hD1 : va_D A ([(h0, .inr (0, [.int 0, .int 0, .int 0, .int 0, .int 0, .null, .null, .null, .null, .null])), (q1, aI cA 8)]) := hD1
  refine va_putF (D := D) (ci := 0) (v := .ref q1) (ty := .array .int) (C := RX0) (T := TX0) (N := 10) S.1 S.2.1 S.2.2.2.2 hiX0 tyX0 tyX0_ok nmX0 S.2.2.2.1 hK hP1 hD1 hS1 0 rfl rfl 5 (by decide) (S.2.2.2.2 (.fieldLink RX0 9 "JourneyRoads$Country" "miles" "[I") (am_at in_wsX0_init_0 4 rfl)) (fun _ h9 => h9) rfl hin rfl (by decide +kernel) rfl rfl (Nat.le_of_ble_eq_true rfl) dX0_init_9 (fun H2 locs2 hP2 hD2 hS2 => ?_)
  have hP2 : va_P D vwCl ([(h0, .inr (0, [.int 0, .int 0, .int 0, .int 0, .int 0, .ref q1, .null, .null, .null, .null])), (q1, aI cA 8)]) H2 := hP2
  have hD2 : va_D A ([(h0, .inr (0, [.int 0, .int 0, .int 0, .int 0, .int 0, .ref q1, .null, .null, .null, .null])), (q1, aI cA 8)]) := hD2
  refine lv_aload_n S.1 S.2.1 dX0_init_12 rfl (lv_at hl0 0 rfl) ?_
  refine lv_bipush (v := (nI 8)) S.1 S.2.1 dX0_init_13 (by decide +kernel) ?_
  refine va_newa (atype := .int) (ty := .int) (N' := 8) (a0 := (8, .inl (fun _ => 0))) S.1 S.2.1 (S.2.2.2.2 (.arrayClass .int) (am_at in_wsX0_init_0 3 rfl)) rfl hK hP2 hD2 hS2 hA (fun _ => vp_cell_i _ _ _) (by decide +kernel) (by decide +kernel) (by decide +kernel) (by decide +kernel) (by decide +kernel) dX0_init_15 (fun q3 cc3 H3 hK3 hP3 hD3 hS3 => ?_)
  obtain rfl : cc3 = cA 0 := k_cl 0 rfl (fun _ _ h => h) hK3
  refine W.widen (k := 2) (n := 16) (by decide) (by omega) ?_
  have hP3 : va_P D vwCl ([(h0, .inr (0, [.int 0, .int 0, .int 0, .int 0, .int 0, .ref q1, .null, .null, .null, .null])), (q1, aI cA 8), (q3, aI cA 8)]) H3 := hP3
  have hD3 : va_D A ([(h0, .inr (0, [.int 0, .int 0, .int 0, .int 0, .int 0, .ref q1, .null, .null, .null, .null])), (q1, aI cA 8), (q3, aI cA 8)]) := hD3
  refine va_putF (D := D) (ci := 0) (v := .ref q3) (ty := .array .int) (C := RX0) (T := TX0) (N := 10) S.1 S.2.1 S.2.2.2.2 hiX0 tyX0 tyX0_ok nmX0 S.2.2.2.1 hK hP3 hD3 hS3 0 rfl rfl 6 (by decide) (S.2.2.2.2 (.fieldLink RX0 15 "JourneyRoads$Country" "work" "[I") (am_at in_wsX0_init_0 5 rfl)) (fun _ h9 => h9) rfl hin rfl (by decide +kernel) rfl rfl (Nat.le_of_ble_eq_true rfl) dX0_init_17 (fun H4 locs4 hP4 hD4 hS4 => ?_)
  have hP4 : va_P D vwCl ([(h0, .inr (0, [.int 0, .int 0, .int 0, .int 0, .int 0, .ref q1, .ref q3, .null, .null, .null])), (q1, aI cA 8), (q3, aI cA 8)]) H4 := hP4
  have hD4 : va_D A ([(h0, .inr (0, [.int 0, .int 0, .int 0, .int 0, .int 0, .ref q1, .ref q3, .null, .null, .null])), (q1, aI cA 8), (q3, aI cA 8)]) := hD4
  refine lv_aload_n S.1 S.2.1 dX0_init_20 rfl (lv_at hl0 0 rfl) ?_
  refine lv_bipush (v := (nI 8)) S.1 S.2.1 dX0_init_21 (by decide +kernel) ?_
  refine va_newa (atype := .int) (ty := .int) (N' := 8) (a0 := (8, .inl (fun _ => 0))) S.1 S.2.1 (S.2.2.2.2 (.arrayClass .int) (am_at in_wsX0_init_0 3 rfl)) rfl hK hP4 hD4 hS4 hA (fun _ => vp_cell_i _ _ _) (by decide +kernel) (by decide +kernel) (by decide +kernel) (by decide +kernel) (by decide +kernel) dX0_init_23 (fun q5 cc5 H5 hK5 hP5 hD5 hS5 => ?_)
  obtain rfl : cc5 = cA 0 := k_cl 0 rfl (fun _ _ h => h) hK5
  refine W.widen (k := 3) (n := 24) (by decide) (by omega) ?_
  have hP5 : va_P D vwCl ([(h0, .inr (0, [.int 0, .int 0, .int 0, .int 0, .int 0, .ref q1, .ref q3, .null, .null, .null])), (q1, aI cA 8), (q3, aI cA 8), (q5, aI cA 8)]) H5 := hP5
  have hD5 : va_D A ([(h0, .inr (0, [.int 0, .int 0, .int 0, .int 0, .int 0, .ref q1, .ref q3, .null, .null, .null])), (q1, aI cA 8), (q3, aI cA 8), (q5, aI cA 8)]) := hD5
  refine va_putF (D := D) (ci := 0) (v := .ref q5) (ty := .array .int) (C := RX0) (T := TX0) (N := 10) S.1 S.2.1 S.2.2.2.2 hiX0 tyX0 tyX0_ok nmX0 S.2.2.2.1 hK hP5 hD5 hS5 0 rfl rfl 7 (by decide) (S.2.2.2.2 (.fieldLink RX0 18 "JourneyRoads$Country" "gain" "[I") (am_at in_wsX0_init_0 6 rfl)) (fun _ h9 => h9) rfl hin rfl (by decide +kernel) rfl rfl (Nat.le_of_ble_eq_true rfl) dX0_init_25 (fun H6 locs6 hP6 hD6 hS6 => ?_)
  have hP6 : va_P D vwCl ([(h0, .inr (0, [.int 0, .int 0, .int 0, .int 0, .int 0, .ref q1, .ref q3, .ref q5, .null, .null])), (q1, aI cA 8), (q3, aI cA 8), (q5, aI cA 8)]) H6 := hP6
  have hD6 : va_D A ([(h0, .inr (0, [.int 0, .int 0, .int 0, .int 0, .int 0, .ref q1, .ref q3, .ref q5, .null, .null])), (q1, aI cA 8), (q3, aI cA 8), (q5, aI cA 8)]) := hD6
  refine lv_aload_n S.1 S.2.1 dX0_init_28 rfl (lv_at hl0 0 rfl) ?_
  refine lv_bipush (v := (nI 12)) S.1 S.2.1 dX0_init_29 (by decide +kernel) ?_
  refine va_newa (atype := .int) (ty := .int) (N' := 12) (a0 := (12, .inl (fun _ => 0))) S.1 S.2.1 (S.2.2.2.2 (.arrayClass .int) (am_at in_wsX0_init_0 3 rfl)) rfl hK hP6 hD6 hS6 hA (fun _ => vp_cell_i _ _ _) (by decide +kernel) (by decide +kernel) (by decide +kernel) (by decide +kernel) (by decide +kernel) dX0_init_31 (fun q7 cc7 H7 hK7 hP7 hD7 hS7 => ?_)
  obtain rfl : cc7 = cA 0 := k_cl 0 rfl (fun _ _ h => h) hK7
  refine W.widen (k := 4) (n := 36) (by decide) (by omega) ?_
  have hP7 : va_P D vwCl ([(h0, .inr (0, [.int 0, .int 0, .int 0, .int 0, .int 0, .ref q1, .ref q3, .ref q5, .null, .null])), (q1, aI cA 8), (q3, aI cA 8), (q5, aI cA 8), (q7, aI cA 12)]) H7 := hP7
  have hD7 : va_D A ([(h0, .inr (0, [.int 0, .int 0, .int 0, .int 0, .int 0, .ref q1, .ref q3, .ref q5, .null, .null])), (q1, aI cA 8), (q3, aI cA 8), (q5, aI cA 8), (q7, aI cA 12)]) := hD7
  refine va_putF (D := D) (ci := 0) (v := .ref q7) (ty := .array .int) (C := RX0) (T := TX0) (N := 10) S.1 S.2.1 S.2.2.2.2 hiX0 tyX0 tyX0_ok nmX0 S.2.2.2.1 hK hP7 hD7 hS7 0 rfl rfl 8 (by decide) (S.2.2.2.2 (.fieldLink RX0 21 "JourneyRoads$Country" "roadA" "[I") (am_at in_wsX0_init_0 7 rfl)) (fun _ h9 => h9) rfl hin rfl (by decide +kernel) rfl rfl (Nat.le_of_ble_eq_true rfl) dX0_init_33 (fun H8 locs8 hP8 hD8 hS8 => ?_)
  have hP8 : va_P D vwCl ([(h0, .inr (0, [.int 0, .int 0, .int 0, .int 0, .int 0, .ref q1, .ref q3, .ref q5, .ref q7, .null])), (q1, aI cA 8), (q3, aI cA 8), (q5, aI cA 8), (q7, aI cA 12)]) H8 := hP8
  have hD8 : va_D A ([(h0, .inr (0, [.int 0, .int 0, .int 0, .int 0, .int 0, .ref q1, .ref q3, .ref q5, .ref q7, .null])), (q1, aI cA 8), (q3, aI cA 8), (q5, aI cA 8), (q7, aI cA 12)]) := hD8
  refine lv_aload_n S.1 S.2.1 dX0_init_36 rfl (lv_at hl0 0 rfl) ?_
  refine lv_bipush (v := (nI 12)) S.1 S.2.1 dX0_init_37 (by decide +kernel) ?_
  refine va_newa (atype := .int) (ty := .int) (N' := 12) (a0 := (12, .inl (fun _ => 0))) S.1 S.2.1 (S.2.2.2.2 (.arrayClass .int) (am_at in_wsX0_init_0 3 rfl)) rfl hK hP8 hD8 hS8 hA (fun _ => vp_cell_i _ _ _) (by decide +kernel) (by decide +kernel) (by decide +kernel) (by decide +kernel) (by decide +kernel) dX0_init_39 (fun q9 cc9 H9 hK9 hP9 hD9 hS9 => ?_)
  obtain rfl : cc9 = cA 0 := k_cl 0 rfl (fun _ _ h => h) hK9
  refine W.widen (k := 5) (n := 48) (by decide) (by omega) ?_
  have hP9 : va_P D vwCl ([(h0, .inr (0, [.int 0, .int 0, .int 0, .int 0, .int 0, .ref q1, .ref q3, .ref q5, .ref q7, .null])), (q1, aI cA 8), (q3, aI cA 8), (q5, aI cA 8), (q7, aI cA 12), (q9, aI cA 12)]) H9 := hP9
  have hD9 : va_D A ([(h0, .inr (0, [.int 0, .int 0, .int 0, .int 0, .int 0, .ref q1, .ref q3, .ref q5, .ref q7, .null])), (q1, aI cA 8), (q3, aI cA 8), (q5, aI cA 8), (q7, aI cA 12), (q9, aI cA 12)]) := hD9
  refine va_putF (D := D) (ci := 0) (v := .ref q9) (ty := .array .int) (C := RX0) (T := TX0) (N := 10) S.1 S.2.1 S.2.2.2.2 hiX0 tyX0 tyX0_ok nmX0 S.2.2.2.1 hK hP9 hD9 hS9 0 rfl rfl 9 (by decide) (S.2.2.2.2 (.fieldLink RX0 24 "JourneyRoads$Country" "roadB" "[I") (am_at in_wsX0_init_0 8 rfl)) (fun _ h9 => h9) rfl hin rfl (by decide +kernel) rfl rfl (Nat.le_of_ble_eq_true rfl) dX0_init_41 (fun H10 locs10 hP10 hD10 hS10 => ?_)
  have hP10 : va_P D vwCl ([(h0, .inr (0, [.int 0, .int 0, .int 0, .int 0, .int 0, .ref q1, .ref q3, .ref q5, .ref q7, .ref q9])), (q1, aI cA 8), (q3, aI cA 8), (q5, aI cA 8), (q7, aI cA 12), (q9, aI cA 12)]) H10 := hP10
  have hD10 : va_D A ([(h0, .inr (0, [.int 0, .int 0, .int 0, .int 0, .int 0, .ref q1, .ref q3, .ref q5, .ref q7, .ref q9])), (q1, aI cA 8), (q3, aI cA 8), (q5, aI cA 8), (q7, aI cA 12), (q9, aI cA 12)]) := hD10
  exact hret 44 _ _ _ (fun i => [h0, q1, q3, q5, q7, q9].getD i 0) dX0_init_44 hP10 hD10 hS10 trivial
