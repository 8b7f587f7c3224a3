set_option maxHeartbeats 8000000 in
set_option maxRecDepth 100000 in
theorem c_X3_init (l : Launch) (D : va_G) (cA : Nat → ClassId) (h0 sz : Nat) : MC l D cA yX3_init wsX3_init { frames := 1, cells := 3, slots := 1490, locals := 12 } (h0, .inr (3, [.null, .null, .null])) sz (WX3 cA h0) (fun _ => True) 3 1490 := by
  refine en_C rfl (by decide +kernel) rfl (Nat.le_of_ble_eq_true rfl) ?_
  intro p e s m args below meth c ls0 Q A S hin hK hN hP hD hS hA hl0 hret
  have hl0 : lv_has ls0 1 [(0, .ref h0)] := hl0
  have hiX3 : ∀ w ∈ u_ws RX3 TX3 3, w ∈ wsX3_init := in_wsX3_init_1
  refine lv_aload_n S.1 S.2.1 dX3_init_0 rfl (lv_at hl0 0 rfl) ?_
  refine W.objInit S.1 S.2.1 S.2.2.2.1 (S.2.2.2.2 (.methodLink RX3 3 objectInit) (am_at in_wsX3_init_0 0 rfl)) (S.2.2.2.2 (.instanceMethod objectInit) (am_at in_wsX3_init_0 1 rfl)) (S.2.2.2.2 (.code objectInit ⟨#[0xb1]⟩ 1 none) (am_at in_wsX3_init_0 2 rfl)) rfl (by rw [S.2.2.1]; exact hl0.1) rfl dX3_init_1 (Nat.le_of_ble_eq_true rfl) (Nat.le_of_ble_eq_true rfl) ?_
  refine W.eq (g2 := F0 m 4 ls0 []) rfl ?_
  refine lv_aload_n S.1 S.2.1 dX3_init_4 rfl (lv_at hl0 0 rfl) ?_
  refine lv_sipush (v := (nI 1480)) S.1 S.2.1 dX3_init_5 (by decide +kernel) ?_
  refine va_newa (atype := .int) (ty := .int) (N' := 1480) (a0 := (1480, .inl (fun _ => 0))) S.1 S.2.1 (S.2.2.2.2 (.arrayClass .int) (am_at in_wsX3_init_0 3 rfl)) rfl hK hP hD hS hA (fun _ => vp_cell_i _ _ _) (by decide +kernel) (by decide +kernel) (by decide +kernel) (by decide +kernel) (by decide +kernel) dX3_init_8 (fun q1 cc1 H1 hK1 hP1 hD1 hS1 => ?_)
  obtain rfl : cc1 = cA 0 := k_cl 0 rfl (fun _ _ h => h) hK1
  refine W.widen (k := 1) (n := 1480) (by decide) (by omega) ?_
  have hP1 : va_P D vwCl ([(h0, .inr (3, [.null, .null, .null])), (q1, aI cA 1480)]) H1 := hP1
  have hD1 : va_D A ([(h0, .inr (3, [.null, .null, .null])), (q1, aI cA 1480)]) := hD1
  refine va_putF (D := D) (ci := 3) (v := .ref q1) (ty := .array .int) (C := RX3) (T := TX3) (N := 3) S.1 S.2.1 S.2.2.2.2 hiX3 tyX3 tyX3_ok nmX3 S.2.2.2.1 hK hP1 hD1 hS1 0 rfl rfl 0 (by decide) (S.2.2.2.2 (.fieldLink RX3 11 "JourneyRoads$Plan" "most" "[I") (am_at in_wsX3_init_0 4 rfl)) (fun _ h9 => h9) rfl hin rfl (by decide +kernel) rfl rfl (Nat.le_of_ble_eq_true rfl) dX3_init_10 (fun H2 locs2 hP2 hD2 hS2 => ?_)
  have hP2 : va_P D vwCl ([(h0, .inr (3, [.ref q1, .null, .null])), (q1, aI cA 1480)]) H2 := hP2
  have hD2 : va_D A ([(h0, .inr (3, [.ref q1, .null, .null])), (q1, aI cA 1480)]) := hD2
  refine lv_aload_n S.1 S.2.1 dX3_init_13 rfl (lv_at hl0 0 rfl) ?_
  refine lv_iconst (v := (nI 5)) S.1 S.2.1 dX3_init_14 (by decide +kernel) ?_
  refine va_newa (atype := .int) (ty := .int) (N' := 5) (a0 := (5, .inl (fun _ => 0))) S.1 S.2.1 (S.2.2.2.2 (.arrayClass .int) (am_at in_wsX3_init_0 3 rfl)) rfl hK hP2 hD2 hS2 hA (fun _ => vp_cell_i _ _ _) (by decide +kernel) (by decide +kernel) (by decide +kernel) (by decide +kernel) (by decide +kernel) dX3_init_15 (fun q3 cc3 H3 hK3 hP3 hD3 hS3 => ?_)
  obtain rfl : cc3 = cA 0 := k_cl 0 rfl (fun _ _ h => h) hK3
  refine W.widen (k := 2) (n := 1485) (by decide) (by omega) ?_
  have hP3 : va_P D vwCl ([(h0, .inr (3, [.ref q1, .null, .null])), (q1, aI cA 1480), (q3, aI cA 5)]) H3 := hP3
  have hD3 : va_D A ([(h0, .inr (3, [.ref q1, .null, .null])), (q1, aI cA 1480), (q3, aI cA 5)]) := hD3
  refine va_putF (D := D) (ci := 3) (v := .ref q3) (ty := .array .int) (C := RX3) (T := TX3) (N := 3) S.1 S.2.1 S.2.2.2.2 hiX3 tyX3 tyX3_ok nmX3 S.2.2.2.1 hK hP3 hD3 hS3 0 rfl rfl 1 (by decide) (S.2.2.2.2 (.fieldLink RX3 15 "JourneyRoads$Plan" "mine" "[I") (am_at in_wsX3_init_0 5 rfl)) (fun _ h9 => h9) rfl hin rfl (by decide +kernel) rfl rfl (Nat.le_of_ble_eq_true rfl) dX3_init_17 (fun H4 locs4 hP4 hD4 hS4 => ?_)
  have hP4 : va_P D vwCl ([(h0, .inr (3, [.ref q1, .ref q3, .null])), (q1, aI cA 1480), (q3, aI cA 5)]) H4 := hP4
  have hD4 : va_D A ([(h0, .inr (3, [.ref q1, .ref q3, .null])), (q1, aI cA 1480), (q3, aI cA 5)]) := hD4
  refine lv_aload_n S.1 S.2.1 dX3_init_20 rfl (lv_at hl0 0 rfl) ?_
  refine lv_iconst (v := (nI 5)) S.1 S.2.1 dX3_init_21 (by decide +kernel) ?_
  refine va_newa (atype := .int) (ty := .int) (N' := 5) (a0 := (5, .inl (fun _ => 0))) S.1 S.2.1 (S.2.2.2.2 (.arrayClass .int) (am_at in_wsX3_init_0 3 rfl)) rfl hK hP4 hD4 hS4 hA (fun _ => vp_cell_i _ _ _) (by decide +kernel) (by decide +kernel) (by decide +kernel) (by decide +kernel) (by decide +kernel) dX3_init_22 (fun q5 cc5 H5 hK5 hP5 hD5 hS5 => ?_)
  obtain rfl : cc5 = cA 0 := k_cl 0 rfl (fun _ _ h => h) hK5
  refine W.widen (k := 3) (n := 1490) (by decide) (by omega) ?_
  have hP5 : va_P D vwCl ([(h0, .inr (3, [.ref q1, .ref q3, .null])), (q1, aI cA 1480), (q3, aI cA 5), (q5, aI cA 5)]) H5 := hP5
  have hD5 : va_D A ([(h0, .inr (3, [.ref q1, .ref q3, .null])), (q1, aI cA 1480), (q3, aI cA 5), (q5, aI cA 5)]) := hD5
  refine va_putF (D := D) (ci := 3) (v := .ref q5) (ty := .array .int) (C := RX3) (T := TX3) (N := 3) S.1 S.2.1 S.2.2.2.2 hiX3 tyX3 tyX3_ok nmX3 S.2.2.2.1 hK hP5 hD5 hS5 0 rfl rfl 2 (by decide) (S.2.2.2.2 (.fieldLink RX3 18 "JourneyRoads$Plan" "others" "[I") (am_at in_wsX3_init_0 6 rfl)) (fun _ h9 => h9) rfl hin rfl (by decide +kernel) rfl rfl (Nat.le_of_ble_eq_true rfl) dX3_init_24 (fun H6 locs6 hP6 hD6 hS6 => ?_)
  have hP6 : va_P D vwCl ([(h0, .inr (3, [.ref q1, .ref q3, .ref q5])), (q1, aI cA 1480), (q3, aI cA 5), (q5, aI cA 5)]) H6 := hP6
  have hD6 : va_D A ([(h0, .inr (3, [.ref q1, .ref q3, .ref q5])), (q1, aI cA 1480), (q3, aI cA 5), (q5, aI cA 5)]) := hD6
  exact hret 27 _ _ _ (fun i => [h0, q1, q3, q5].getD i 0) dX3_init_27 hP6 hD6 hS6 trivial
