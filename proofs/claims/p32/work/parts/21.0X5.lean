def WX0 (cA : Nat → ClassId) (h : Nat) (u : Nat → Nat) : va_W := [(h, .inr (0, [.int 0, .int 0, .int 0, .int 0, .int 0, .ref (u 1), .ref (u 2), .ref (u 3), .ref (u 4), .ref (u 5)])), (u 1, aI cA 8), (u 2, aI cA 8), (u 3, aI cA 8), (u 4, aI cA 12), (u 5, aI cA 12)]
def WX3 (cA : Nat → ClassId) (h : Nat) (u : Nat → Nat) : va_W := [(h, .inr (3, [.ref (u 1), .ref (u 2), .ref (u 3)])), (u 1, aI cA 1480), (u 2, aI cA 5), (u 3, aI cA 5)]
def WX4 (cA : Nat → ClassId) (h : Nat) (u : Nat → Nat) : va_W := [(h, .inr (4, [.ref (u 1), .ref (u 2)])), (u 1, aL cA 160), (u 2, aL cA 160)]
def WX5 (cA : Nat → ClassId) (h : Nat) (u : Nat → Nat) : va_W := [(h, .inr (5, [.ref (u 1), .int 0, .int 0, .int (-1), .int 0, .int 0])), (u 1, aC cA 240)]
def WX6 (cA : Nat → ClassId) (h : Nat) (u : Nat → Nat) : va_W := [(h, .inr (6, [.int 0, .ref (u 1), .ref (u 2), .ref (u 3), .ref (u 4), .ref (u 5)])), (u 1, aI cA 8), (u 2, aI cA 8), (u 3, aI cA 8), (u 4, aI cA 245), (u 5, aI cA 245)]
def WX8 (cA : Nat → ClassId) (h : Nat) (u : Nat → Nat) : va_W := [(h, .inr (8, [.ref (u 1), .int 0, .ref (u 2), .ref (u 3), .ref (u 4), .ref (u 5), .int 0, .ref (u 6), .ref (u 7), .int 0, .ref (u 8), .int 0, .ref (u 9), .int 0, .int 0, .int 0, .int (-1), .int 0, .int 0, .ref (u 10), .ref (u 11), .ref (u 12), .ref (u 13)])), (u 1, aI cA 240), (u 2, aI cA 52), (u 3, aI cA 52), (u 4, aI cA 7), (u 5, aI cA 140), (u 6, aI cA 16), (u 7, aZ cA 2), (u 8, aI cA 8), (u 9, aI cA 15), (u 10, aI cA 1480), (u 11, aL cA 256), (u 12, aL cA 256), (u 13, aL cA 49)]
def WX2 (cA : Nat → ClassId) (h : Nat) (u : (Nat → Nat) × (Nat → Option Nat)) : va_W := [(h, .inr (2, [.ref (u.1 0), .int 0])), (u.1 0, aQ cA 20 u.2), (u.1 1, J0), (u.1 2, J0), (u.1 3, J0), (u.1 4, J0), (u.1 5, J0), (u.1 6, J0), (u.1 7, J0), (u.1 8, J0), (u.1 9, J0), (u.1 10, J0), (u.1 11, J0), (u.1 12, J0), (u.1 13, J0), (u.1 14, J0), (u.1 15, J0), (u.1 16, J0), (u.1 17, J0), (u.1 18, J0), (u.1 19, J0), (u.1 20, J0)]
def WX7 (cA : Nat → ClassId) (h : Nat) (u : (Nat → Nat) × (Nat → Nat → Nat) × ((Nat → Nat) × (Nat → Option Nat)) × (Nat → Option Nat)) : va_W := [(h, .inr (7, [.ref (u.1 0), .ref (u.1 1), .ref (u.1 2), .ref (u.1 3), .ref (u.1 4), .ref (u.1 5), .ref (u.1 6), .ref (u.1 7), .ref (u.1 8), .ref (u.1 9), .ref (u.1 10), .ref (u.1 11), .ref (u.1 12), .int 0, .int 0])), (u.1 6, aQ cA 2 u.2.2.2)] ++ ([(u.1 14, J0)] ++ ([(u.1 13, J0)] ++ (WX0 cA (u.1 12) (u.2.1 5) ++ (WX0 cA (u.1 11) (u.2.1 4) ++ ([(u.1 10, aI cA 8)] ++ ([(u.1 9, aI cA 15)] ++ ([(u.1 8, aZ cA 2)] ++ ([(u.1 7, aI cA 2)] ++ (WX6 cA (u.1 5) (u.2.1 3) ++ (WX4 cA (u.1 4) (u.2.1 2) ++ (WX3 cA (u.1 3) (u.2.1 1) ++ (WX2 cA (u.1 2) u.2.2.1 ++ ([(u.1 1, J0)] ++ (WX5 cA (u.1 0) (u.2.1 0) ++ []))))))))))))))
set_option maxHeartbeats 8000000 in
set_option maxRecDepth 100000 in
theorem c_X5_init (l : Launch) (D : va_G) (cA : Nat → ClassId) (h0 sz : Nat) : MC l D cA yX5_init wsX5_init { frames := 1, cells := 1, slots := 240, locals := 12 } (h0, .inr (5, [.null, .int 0, .int 0, .int 0, .int 0, .int 0])) sz (WX5 cA h0) (fun _ => True) 1 240 := by
  refine en_C rfl (by decide +kernel) rfl (Nat.le_of_ble_eq_true rfl) ?_
  intro p e s m args below meth c ls0 Q A S hin hK hN hP hD hS hA hl0 hret
  have hl0 : lv_has ls0 1 [(0, .ref h0)] := hl0
  have hiX5 : ∀ w ∈ u_ws RX5 TX5 6, w ∈ wsX5_init := in_wsX5_init_1
  refine lv_aload_n S.1 S.2.1 dX5_init_0 rfl (lv_at hl0 0 rfl) ?_
  refine W.objInit S.1 S.2.1 S.2.2.2.1 (S.2.2.2.2 (.methodLink RX5 3 objectInit) (am_at in_wsX5_init_0 0 rfl)) (S.2.2.2.2 (.instanceMethod objectInit) (am_at in_wsX5_init_0 1 rfl)) (S.2.2.2.2 (.code objectInit ⟨#[0xb1]⟩ 1 none) (am_at in_wsX5_init_0 2 rfl)) rfl (by rw [S.2.2.1]; exact hl0.1) rfl dX5_init_1 (Nat.le_of_ble_eq_true rfl) (Nat.le_of_ble_eq_true rfl) ?_
  refine W.eq (g2 := F0 m 4 ls0 []) rfl ?_
  refine lv_aload_n S.1 S.2.1 dX5_init_4 rfl (lv_at hl0 0 rfl) ?_
  refine lv_sipush (v := (nI 240)) S.1 S.2.1 dX5_init_5 (by decide +kernel) ?_
  refine va_newa (atype := .char) (ty := .char) (N' := 240) (a0 := (240, .inl (fun _ => 0))) S.1 S.2.1 (S.2.2.2.2 (.arrayClass .char) (am_at in_wsX5_init_0 3 rfl)) rfl hK hP hD hS hA (fun _ => vp_cell_i _ _ _) (by decide +kernel) (by decide +kernel) (by decide +kernel) (by decide +kernel) (by decide +kernel) dX5_init_8 (fun q1 cc1 H1 hK1 hP1 hD1 hS1 => ?_)
  obtain rfl : cc1 = cA 1 := k_cl 1 rfl (fun _ _ h => h) hK1
  refine W.widen (k := 1) (n := 240) (by decide) (by omega) ?_
  have hP1 : va_P D vwCl ([(h0, .inr (5, [.null, .int 0, .int 0, .int 0, .int 0, .int 0])), (q1, aC cA 240)]) H1 := hP1
  have hD1 : va_D A ([(h0, .inr (5, [.null, .int 0, .int 0, .int 0, .int 0, .int 0])), (q1, aC cA 240)]) := hD1
  refine va_putF (D := D) (ci := 5) (v := .ref q1) (ty := .array .char) (C := RX5) (T := TX5) (N := 6) S.1 S.2.1 S.2.2.2.2 hiX5 tyX5 tyX5_ok nmX5 S.2.2.2.1 hK hP1 hD1 hS1 0 rfl rfl 0 (by decide) (S.2.2.2.2 (.fieldLink RX5 9 "JourneyRoads$Text" "letters" "[C") (am_at in_wsX5_init_0 4 rfl)) (fun _ h9 => h9) rfl hin rfl (by decide +kernel) rfl rfl (Nat.le_of_ble_eq_true rfl) dX5_init_10 (fun H2 locs2 hP2 hD2 hS2 => ?_)
  have hP2 : va_P D vwCl ([(h0, .inr (5, [.ref q1, .int 0, .int 0, .int 0, .int 0, .int 0])), (q1, aC cA 240)]) H2 := hP2
  have hD2 : va_D A ([(h0, .inr (5, [.ref q1, .int 0, .int 0, .int 0, .int 0, .int 0])), (q1, aC cA 240)]) := hD2
  refine lv_aload_n S.1 S.2.1 dX5_init_13 rfl (lv_at hl0 0 rfl) ?_
  refine lv_iconst (v := (-1)) S.1 S.2.1 dX5_init_14 (by decide +kernel) ?_
  refine va_put (D := D) (ci := 5) (v := .int (-1)) (ty := .int) (C := RX5) (T := TX5) (N := 6) S.1 S.2.1 S.2.2.2.2 hiX5 tyX5 tyX5_ok nmX5 S.2.2.2.1 hK hP2 hD2 hS2 0 rfl rfl 3 (by decide) (S.2.2.2.2 (.fieldLink RX5 15 "JourneyRoads$Text" "faultAt" "I") (am_at in_wsX5_init_0 5 rfl)) (fun _ h9 => h9) rfl (by decide +kernel) rfl rfl (Nat.le_of_ble_eq_true rfl) dX5_init_15 (fun H3 locs3 hP3 hD3 hS3 => ?_)
  have hP3 : va_P D vwCl ([(h0, .inr (5, [.ref q1, .int 0, .int 0, .int (-1), .int 0, .int 0])), (q1, aC cA 240)]) H3 := hP3
  have hD3 : va_D A ([(h0, .inr (5, [.ref q1, .int 0, .int 0, .int (-1), .int 0, .int 0])), (q1, aC cA 240)]) := hD3
  exact hret 18 _ _ _ (fun i => [h0, q1].getD i 0) dX5_init_18 hP3 hD3 hS3 trivial
