set_option maxHeartbeats 8000000 in
set_option maxRecDepth 100000 in
theorem c_X4_init (l : Launch) (D : va_G) (cA : Nat → ClassId) (h0 sz : Nat) : MC l D cA yX4_init wsX4_init { frames := 1, cells := 2, slots := 320, locals := 12 } (h0, .inr (4, [.null, .null])) sz (WX4 cA h0) (fun _ => True) 2 320 := by
  refine en_C rfl (by decide +kernel) rfl (Nat.le_of_ble_eq_true rfl) ?_
  intro p e s m args below meth c ls0 Q A S hin hK hN hP hD hS hA hl0 hret
  have hl0 : lv_has ls0 1 [(0, .ref h0)] := hl0
  have hiX4 : ∀ w ∈ u_ws RX4 TX4 2, w ∈ wsX4_init := in_wsX4_init_1
  refine lv_aload_n S.1 S.2.1 dX4_init_0 rfl (lv_at hl0 0 rfl) ?_
  refine W.objInit S.1 S.2.1 S.2.2.2.1 (S.2.2.2.2 (.methodLink RX4 5 objectInit) (am_at in_wsX4_init_0 0 rfl)) (S.2.2.2.2 (.instanceMethod objectInit) (am_at in_wsX4_init_0 1 rfl)) (S.2.2.2.2 (.code objectInit ⟨#[0xb1]⟩ 1 none) (am_at in_wsX4_init_0 2 rfl)) rfl (by rw [S.2.2.1]; exact hl0.1) rfl dX4_init_1 (Nat.le_of_ble_eq_true rfl) (Nat.le_of_ble_eq_true rfl) ?_
  refine W.eq (g2 := F0 m 4 ls0 []) rfl ?_
  refine lv_aload_n S.1 S.2.1 dX4_init_4 rfl (lv_at hl0 0 rfl) ?_
  refine lv_sipush (v := (nI 160)) S.1 S.2.1 dX4_init_5 (by decide +kernel) ?_
  refine va_newa (atype := .long) (ty := .long) (N' := 160) (a0 := (160, .inr (.inl (fun _ => 0)))) S.1 S.2.1 (S.2.2.2.2 (.arrayClass .long) (am_at in_wsX4_init_0 3 rfl)) rfl hK hP hD hS hA (fun _ => vp_cell_l _ _ _) (by decide +kernel) (by decide +kernel) (by decide +kernel) (by decide +kernel) (by decide +kernel) dX4_init_8 (fun q1 cc1 H1 hK1 hP1 hD1 hS1 => ?_)
  obtain rfl : cc1 = cA 2 := k_cl 2 rfl (fun _ _ h => h) hK1
  refine W.widen (k := 1) (n := 160) (by decide) (by omega) ?_
  have hP1 : va_P D vwCl ([(h0, .inr (4, [.null, .null])), (q1, aL cA 160)]) H1 := hP1
  have hD1 : va_D A ([(h0, .inr (4, [.null, .null])), (q1, aL cA 160)]) := hD1
  refine va_put (D := D) (ci := 4) (v := .ref q1) (ty := .array .long) (C := RX4) (T := TX4) (N := 2) S.1 S.2.1 S.2.2.2.2 hiX4 tyX4 tyX4_ok nmX4 S.2.2.2.1 hK hP1 hD1 hS1 0 rfl rfl 0 (by decide) (S.2.2.2.2 (.fieldLink RX4 11 "JourneyRoads$SealSearch" "now" "[J") (am_at in_wsX4_init_0 4 rfl)) (fun _ h9 => h9) rfl (by decide +kernel) rfl rfl (Nat.le_of_ble_eq_true rfl) dX4_init_10 (fun H2 locs2 hP2 hD2 hS2 => ?_)
  have hP2 : va_P D vwCl ([(h0, .inr (4, [.ref q1, .null])), (q1, aL cA 160)]) H2 := hP2
  have hD2 : va_D A ([(h0, .inr (4, [.ref q1, .null])), (q1, aL cA 160)]) := hD2
  refine lv_aload_n S.1 S.2.1 dX4_init_13 rfl (lv_at hl0 0 rfl) ?_
  refine lv_sipush (v := (nI 160)) S.1 S.2.1 dX4_init_14 (by decide +kernel) ?_
  refine va_newa (atype := .long) (ty := .long) (N' := 160) (a0 := (160, .inr (.inl (fun _ => 0)))) S.1 S.2.1 (S.2.2.2.2 (.arrayClass .long) (am_at in_wsX4_init_0 3 rfl)) rfl hK hP2 hD2 hS2 hA (fun _ => vp_cell_l _ _ _) (by decide +kernel) (by decide +kernel) (by decide +kernel) (by decide +kernel) (by decide +kernel) dX4_init_17 (fun q3 cc3 H3 hK3 hP3 hD3 hS3 => ?_)
  obtain rfl : cc3 = cA 2 := k_cl 2 rfl (fun _ _ h => h) hK3
  refine W.widen (k := 2) (n := 320) (by decide) (by omega) ?_
  have hP3 : va_P D vwCl ([(h0, .inr (4, [.ref q1, .null])), (q1, aL cA 160), (q3, aL cA 160)]) H3 := hP3
  have hD3 : va_D A ([(h0, .inr (4, [.ref q1, .null])), (q1, aL cA 160), (q3, aL cA 160)]) := hD3
  refine va_put (D := D) (ci := 4) (v := .ref q3) (ty := .array .long) (C := RX4) (T := TX4) (N := 2) S.1 S.2.1 S.2.2.2.2 hiX4 tyX4 tyX4_ok nmX4 S.2.2.2.1 hK hP3 hD3 hS3 0 rfl rfl 1 (by decide) (S.2.2.2.2 (.fieldLink RX4 15 "JourneyRoads$SealSearch" "next" "[J") (am_at in_wsX4_init_0 5 rfl)) (fun _ h9 => h9) rfl (by decide +kernel) rfl rfl (Nat.le_of_ble_eq_true rfl) dX4_init_19 (fun H4 locs4 hP4 hD4 hS4 => ?_)
  have hP4 : va_P D vwCl ([(h0, .inr (4, [.ref q1, .ref q3])), (q1, aL cA 160), (q3, aL cA 160)]) H4 := hP4
  have hD4 : va_D A ([(h0, .inr (4, [.ref q1, .ref q3])), (q1, aL cA 160), (q3, aL cA 160)]) := hD4
  exact hret 22 _ _ _ (fun i => [h0, q1, q3].getD i 0) dX4_init_22 hP4 hD4 hS4 trivial
