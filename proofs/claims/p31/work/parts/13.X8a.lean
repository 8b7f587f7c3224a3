set_option maxHeartbeats 4000000 in
set_option maxRecDepth 100000 in
theorem c_X8_in (l : Launch) (D : va_G) (cA ad : Nat → Nat) (t : Nat) (hI : rI ad) (F : Nat → va_E) (hW : WT cA ad F) (p1 : Int32) (p2 : Int32) (p3 : Int32) : MP l D cA ad t yX8_in wsX8_in { frames := 0, cells := 0, slots := 0, locals := 0 } [.int p1, .int p2, .int p3] F (fun r => le32 1 r ∧ (r ≠ 0 → p2.toInt ≤ p1.toInt ∧ p1.toInt ≤ p3.toInt) ∧ (r = 0 → p1.toInt < p2.toInt ∨ p3.toInt < p1.toInt)) := by
  refine en_P rfl (by decide +kernel) (Nat.le_of_ble_eq_true rfl) ?_
  intro p e s m args below meth c ls0 Q S hK hZ hP hS hl0 hret
  have hl0 : lv_has ls0 3 [(0, .int p1), (1, .int p2), (2, .int p3)] := hl0
  refine lv_iload_n S.1 S.2.1 dX8_in_0 rfl (lv_at hl0 0 rfl) ?_
  refine lv_iload_n S.1 S.2.1 dX8_in_1 rfl (lv_at hl0 1 rfl) ?_
  refine lv_icmp_lt (tgt := 14) S.1 S.2.1 dX8_in_2 (by decide) (fun c1 => ?_) (fun c1 => ?_)
  · skip
    have k2 := ci_lt rfl rfl c1
    refine lv_iconst (v := (nI 0)) S.1 S.2.1 dX8_in_14 (by decide +kernel) ?_
    exact hret 15 _ _ dX8_in_15 rfl (⟨⟨0, by omega, rfl⟩, fun h => absurd rfl h, fun _ => by omega⟩)
  have k3 := ci_nlt rfl rfl c1
  refine lv_iload_n S.1 S.2.1 dX8_in_5 rfl (lv_at hl0 0 rfl) ?_
  refine lv_iload_n S.1 S.2.1 dX8_in_6 rfl (lv_at hl0 2 rfl) ?_
  refine lv_icmp_gt (tgt := 14) S.1 S.2.1 dX8_in_7 (by decide) (fun c4 => ?_) (fun c4 => ?_)
  · skip
    have k5 := ci_lt rfl rfl c4
    refine lv_iconst (v := (nI 0)) S.1 S.2.1 dX8_in_14 (by decide +kernel) ?_
    exact hret 15 _ _ dX8_in_15 rfl (⟨⟨0, by omega, rfl⟩, fun h => absurd rfl h, fun _ => by omega⟩)
  have k6 := ci_nlt rfl rfl c4
  refine lv_iconst (v := (nI 1)) S.1 S.2.1 dX8_in_10 (by decide +kernel) ?_
  refine lv_goto (tgt := 15) S.1 S.2.1 dX8_in_11 (by decide) ?_
  exact hret 15 _ _ dX8_in_15 rfl (⟨⟨1, by omega, rfl⟩, fun _ => ⟨by omega, by omega⟩, fun h => absurd h (by decide +kernel)⟩)
set_option maxHeartbeats 4000000 in
set_option maxRecDepth 100000 in
theorem c_X8_isTown (l : Launch) (D : va_G) (cA ad : Nat → Nat) (t : Nat) (hI : rI ad) (F : Nat → va_E) (hW : WT cA ad F) (p1 : Int32) : MP l D cA ad t yX8_isTown wsX8_isTown { frames := 1, cells := 0, slots := 0, locals := 22 } [.ref (ad 58), .int p1] F (fun r => le32 1 r ∧ (r ≠ 0 → 0 ≤ p1.toInt ∧ p1.toInt ≤ 7)) := by
  refine en_P rfl (by decide +kernel) (Nat.le_of_ble_eq_true rfl) ?_
  intro p e s m args below meth c ls0 Q S hK hZ hP hS hl0 hret
  have hl0 : lv_has ls0 2 [(0, .ref (ad 58)), (1, .int p1)] := hl0
  have hiX8 : ∀ w ∈ u_ws RX8 TX8 23, w ∈ wsX8_isTown := by decide +kernel
  refine lv_iload_n S.1 S.2.1 dX8_isTown_0 rfl (lv_at hl0 1 rfl) ?_
  refine lv_iconst (v := (nI 0)) S.1 S.2.1 dX8_isTown_1 (by decide +kernel) ?_
  refine lv_aload_n S.1 S.2.1 dX8_isTown_2 rfl (lv_at hl0 0 rfl) ?_
  obtain ⟨ty1, kn1, no1, en1, at1, sa1, sd1, wr1, pl1, va1, hF1, hb1_1, hb1_2, hb1_3, hb1_4, hb1_5, hb1_6⟩ := wt_m hW
  refine r_get S hK hP 58 (by decide) hF1 (C := RX8) (T := TX8) (N := 23) hiX8 rfl 2 (by decide) (by decide +kernel) (v := .ref (ad 60)) rfl dX8_isTown_3 ?_
  refine lv_iconst (v := (nI 2)) S.1 S.2.1 dX8_isTown_6 (by decide +kernel) ?_
  obtain ⟨g2, hF2, hg2⟩ := wt_I hW (show (60, 52) ∈ rLI by decide)
  refine r_iald S hK hP 60 (by decide) hF2 (vp_in_nI (show 2 < 52 by omega) (by omega)) dX8_isTown_7 ?_
  refine lv_topi (fun v4 e4 => ?_)
  obtain ⟨b5, hb5, he5⟩ := (pr_T (by decide) (hg2 2 (by decide))).2.1 rfl
  obtain rfl : v4 = nI b5 := e4.trans he5
  refine lv_iconst (v := (nI 1)) S.1 S.2.1 dX8_isTown_8 (by decide +kernel) ?_
  refine lv_isub S.1 S.2.1 dX8_isTown_9 ?_
  refine lv_topi (fun v6 e6 => ?_)
  have ks6 : v6.toInt = ((b5 : Nat) : Int) - ((1 : Nat) : Int) := by rw [e6]; exact pk_sub_toInt (by omega) (by omega)
  refine r_cSp (As := [.int p1, .int (nI 0), .int v6]) (rest := []) S hK hZ hP hS hl0.1 (c_X8_in l D cA ad t hI F hW p1 (nI 0) v6) (va_cwS 3 S.2.2.2.2 gX8_isTown_X8_in rfl rfl rfl (by decide +kernel) ⟨Nat.le_of_ble_eq_true rfl, Nat.le_of_ble_eq_true rfl⟩) rfl rfl (Nat.le_of_ble_eq_true rfl) ⟨Nat.zero_le _, Nat.zero_le _⟩ dX8_isTown_10 (fun r7 hr7 => ?_)
  obtain ⟨⟨b8, hb8, rfl⟩, hx8, hz8⟩ := hr7
  have ta9 : (p1 : Int32).toInt = p1.toInt := rfl
  have ta10 : ((nI 0) : Int32).toInt = ((0 : Nat) : Int) := (nI_toInt (n := 0) (by omega))
  have ta11 : (v6 : Int32).toInt = v6.toInt := rfl
  have hy8 : b8 ≠ 0 → ((0 : Nat) : Int) ≤ p1.toInt ∧ p1.toInt ≤ v6.toInt := fun q => by have h9 := hx8 (nI_ne0 (by omega) (by omega)); omega
  have hu8 : b8 = 0 → p1.toInt < ((0 : Nat) : Int) ∨ v6.toInt < p1.toInt := fun q => by have h9 := hz8 (by rw [q]; rfl); omega
  exact hret 13 _ _ dX8_isTown_13 (nar_bool (by omega)) (⟨⟨b8, by omega, rfl⟩, fun h => by have hb9 : b8 ≠ 0 := fun q => h (by rw [q]; rfl); omega⟩)
set_option maxHeartbeats 4000000 in
set_option maxRecDepth 100000 in
theorem c_X8_isRoad (l : Launch) (D : va_G) (cA ad : Nat → Nat) (t : Nat) (hI : rI ad) (F : Nat → va_E) (hW : WT cA ad F) (p1 : Int32) : MP l D cA ad t yX8_isRoad wsX8_isRoad { frames := 1, cells := 0, slots := 0, locals := 22 } [.ref (ad 58), .int p1] F (fun r => le32 1 r ∧ (r ≠ 0 → 0 ≤ p1.toInt ∧ p1.toInt ≤ 11)) := by
  refine en_P rfl (by decide +kernel) (Nat.le_of_ble_eq_true rfl) ?_
  intro p e s m args below meth c ls0 Q S hK hZ hP hS hl0 hret
  have hl0 : lv_has ls0 2 [(0, .ref (ad 58)), (1, .int p1)] := hl0
  have hiX8 : ∀ w ∈ u_ws RX8 TX8 23, w ∈ wsX8_isRoad := by decide +kernel
  refine lv_iload_n S.1 S.2.1 dX8_isRoad_0 rfl (lv_at hl0 1 rfl) ?_
  refine lv_iconst (v := (nI 0)) S.1 S.2.1 dX8_isRoad_1 (by decide +kernel) ?_
  refine lv_aload_n S.1 S.2.1 dX8_isRoad_2 rfl (lv_at hl0 0 rfl) ?_
  obtain ⟨ty1, kn1, no1, en1, at1, sa1, sd1, wr1, pl1, va1, hF1, hb1_1, hb1_2, hb1_3, hb1_4, hb1_5, hb1_6⟩ := wt_m hW
  refine r_get S hK hP 58 (by decide) hF1 (C := RX8) (T := TX8) (N := 23) hiX8 rfl 2 (by decide) (by decide +kernel) (v := .ref (ad 60)) rfl dX8_isRoad_3 ?_
  refine lv_iconst (v := (nI 3)) S.1 S.2.1 dX8_isRoad_6 (by decide +kernel) ?_
  obtain ⟨g2, hF2, hg2⟩ := wt_I hW (show (60, 52) ∈ rLI by decide)
  refine r_iald S hK hP 60 (by decide) hF2 (vp_in_nI (show 3 < 52 by omega) (by omega)) dX8_isRoad_7 ?_
  refine lv_topi (fun v4 e4 => ?_)
  obtain ⟨b5, hb5, he5⟩ := (pr_T (by decide) (hg2 3 (by decide))).2.2 rfl
  obtain rfl : v4 = nI b5 := e4.trans he5
  refine lv_iconst (v := (nI 1)) S.1 S.2.1 dX8_isRoad_8 (by decide +kernel) ?_
  refine lv_isub S.1 S.2.1 dX8_isRoad_9 ?_
  refine lv_topi (fun v6 e6 => ?_)
  have ks6 : v6.toInt = ((b5 : Nat) : Int) - ((1 : Nat) : Int) := by rw [e6]; exact pk_sub_toInt (by omega) (by omega)
  refine r_cSp (As := [.int p1, .int (nI 0), .int v6]) (rest := []) S hK hZ hP hS hl0.1 (c_X8_in l D cA ad t hI F hW p1 (nI 0) v6) (va_cwS 3 S.2.2.2.2 gX8_isRoad_X8_in rfl rfl rfl (by decide +kernel) ⟨Nat.le_of_ble_eq_true rfl, Nat.le_of_ble_eq_true rfl⟩) rfl rfl (Nat.le_of_ble_eq_true rfl) ⟨Nat.zero_le _, Nat.zero_le _⟩ dX8_isRoad_10 (fun r7 hr7 => ?_)
  obtain ⟨⟨b8, hb8, rfl⟩, hx8, hz8⟩ := hr7
  have ta9 : (p1 : Int32).toInt = p1.toInt := rfl
  have ta10 : ((nI 0) : Int32).toInt = ((0 : Nat) : Int) := (nI_toInt (n := 0) (by omega))
  have ta11 : (v6 : Int32).toInt = v6.toInt := rfl
  have hy8 : b8 ≠ 0 → ((0 : Nat) : Int) ≤ p1.toInt ∧ p1.toInt ≤ v6.toInt := fun q => by have h9 := hx8 (nI_ne0 (by omega) (by omega)); omega
  have hu8 : b8 = 0 → p1.toInt < ((0 : Nat) : Int) ∨ v6.toInt < p1.toInt := fun q => by have h9 := hz8 (by rw [q]; rfl); omega
  exact hret 13 _ _ dX8_isRoad_13 (nar_bool (by omega)) (⟨⟨b8, by omega, rfl⟩, fun h => by have hb9 : b8 ≠ 0 := fun q => h (by rw [q]; rfl); omega⟩)
set_option maxHeartbeats 4000000 in
set_option maxRecDepth 100000 in
theorem c_X8_ones (l : Launch) (D : va_G) (cA ad : Nat → Nat) (t : Nat) (hI : rI ad) (F : Nat → va_E) (hW : WT cA ad F) (p1 : Int32) : MP l D cA ad t yX8_ones wsX8_ones { frames := 0, cells := 0, slots := 0, locals := 0 } [.int p1] F (fun r => True) := by
  refine en_P rfl (by decide +kernel) (Nat.le_of_ble_eq_true rfl) ?_
  intro p e s m args below meth c ls0 Q S hK hZ hP hS hl0 hret
  have hl0 : lv_has ls0 3 [(0, .int p1)] := hl0
  refine lv_iconst (v := (nI 0)) S.1 S.2.1 dX8_ones_0 (by decide +kernel) ?_
  refine lv_istore_n (lv' := [(1, .int (nI 0)), (0, .int p1)]) S.1 S.2.1 dX8_ones_1 rfl hl0 (by decide) rfl (fun ls1 hl1 => ?_)
  refine lv_iconst (v := (nI 0)) S.1 S.2.1 dX8_ones_2 (by decide +kernel) ?_
  refine lv_istore_n (lv' := [(2, .int (nI 0)), (1, .int (nI 0)), (0, .int p1)]) S.1 S.2.1 dX8_ones_3 rfl hl1 (by decide) rfl (fun ls2 hl2 => ?_)
  have lp3 : ∀ (n3 : Nat) (q23 : Nat) (x3_1 : Int32), q23 ≤ 12 → 12 - q23 < n3 → ∀ (ls : Array Slot), lv_has ls 3 [(2, .int (nI q23)), (1, .int x3_1), (0, .int p1)] → W p l e { frames := 0, cells := 0, slots := 0, locals := 0 } s m args below meth c s.heap [] 0 0 Q (F0 m 4 ls []) := by
    intro n3
    induction n3 with
    | zero =>
      intro q23 x3_1 iv3_0 hm3 ls3 hl3
      exact absurd hm3 (Nat.not_lt_zero _)
    | succ n3 ih3 =>
      intro q23 x3_1 iv3_0 hm3 ls3 hl3
      refine lv_iload_n S.1 S.2.1 dX8_ones_4 rfl (lv_at hl3 0 rfl) ?_
      refine lv_bipush (v := (nI 12)) S.1 S.2.1 dX8_ones_5 (by decide +kernel) ?_
      refine lv_icmp_ge (tgt := 24) S.1 S.2.1 dX8_ones_7 (by decide) (fun c4 => ?_) (fun c4 => ?_)
      · skip
        have k5 := ci_le (nI_toInt (n := 12) (by omega)) (nI_toInt (n := q23) (by omega)) c4
        refine lv_iload_n S.1 S.2.1 dX8_ones_24 rfl (lv_at hl3 1 rfl) ?_
        exact hret 25 _ _ dX8_ones_25 rfl (trivial)
      have k6 := ci_nle (nI_toInt (n := 12) (by omega)) (nI_toInt (n := q23) (by omega)) c4
      refine lv_iload_n S.1 S.2.1 dX8_ones_10 rfl (lv_at hl3 1 rfl) ?_
      refine lv_iload_n S.1 S.2.1 dX8_ones_11 rfl (lv_at hl3 2 rfl) ?_
      refine lv_iload_n S.1 S.2.1 dX8_ones_12 rfl (lv_at hl3 0 rfl) ?_
      refine lv_ishr S.1 S.2.1 dX8_ones_13 ?_
      refine lv_topi (fun v7 e7 => ?_)
      refine lv_iconst (v := (nI 1)) S.1 S.2.1 dX8_ones_14 (by decide +kernel) ?_
      refine lv_iand S.1 S.2.1 dX8_ones_15 ?_
      refine lv_topi (fun v8 e8 => ?_)
      refine lv_iadd S.1 S.2.1 dX8_ones_16 ?_
      refine lv_topi (fun v9 e9 => ?_)
      refine lv_istore_n (lv' := [(1, .int v9), (2, .int (nI q23)), (0, .int p1)]) S.1 S.2.1 dX8_ones_17 rfl hl3 (by decide) rfl (fun ls10 hl10 => ?_)
      refine lv_iinc (v := (nI (q23 + 1))) (lv' := [(2, .int (nI (q23 + 1))), (1, .int v9), (0, .int p1)]) S.1 S.2.1 dX8_ones_18 hl10 (k := 1) rfl (nI_add _ 1) (by decide) rfl (fun ls11 hl11 => ?_)
      refine lv_goto (tgt := 4) S.1 S.2.1 dX8_ones_21 (by decide) ?_
      exact ih3 (q23 + 1) (v9) (by omega) (by omega) ls11 (lv_sub hl11 [0, 1, 2] rfl)
  exact lp3 (12 - (0) + 1) (0) ((nI 0)) (by omega) (by omega) ls2 (lv_sub hl2 [0, 1, 2] rfl)
set_option maxHeartbeats 4000000 in
set_option maxRecDepth 100000 in
theorem c_X8_feed (l : Launch) (D : va_G) (cA ad : Nat → Nat) (t : Nat) (hI : rI ad) (F : Nat → va_E) (hW : WT cA ad F) (p1 : Int32) : MI l D cA ad t yX8_feed wsX8_feed { frames := 1, cells := 0, slots := 0, locals := 22 } [.ref (ad 58), .int p1] F (fun r F' => WT cA ad F' ∧ rFr [58, 59] F F' ∧ (True)) := by
  refine en_I rfl (by decide +kernel) (Nat.le_of_ble_eq_true rfl) ?_
  intro p e s m args below meth c ls0 Q S hK hZ hP hS hl0 hret
  have hl0 : lv_has ls0 2 [(0, .ref (ad 58)), (1, .int p1)] := hl0
  have hFr : rFr [58, 59] F F := rFr.rf
  have hiX8 : ∀ w ∈ u_ws RX8 TX8 23, w ∈ wsX8_feed := by decide +kernel
  refine lv_iload_n S.1 S.2.1 dX8_feed_0 rfl (lv_at hl0 1 rfl) ?_
  refine lv_iconst (v := (nI 0)) S.1 S.2.1 dX8_feed_1 (by decide +kernel) ?_
  refine lv_sipush (v := (nI 255)) S.1 S.2.1 dX8_feed_2 (by decide +kernel) ?_
  refine r_cSp (As := [.int p1, .int (nI 0), .int (nI 255)]) (rest := []) S hK hZ hP hS hl0.1 (c_X8_in l D cA ad t hI F hW p1 (nI 0) (nI 255)) (va_cwS 3 S.2.2.2.2 gX8_feed_X8_in rfl rfl rfl (by decide +kernel) ⟨Nat.le_of_ble_eq_true rfl, Nat.le_of_ble_eq_true rfl⟩) rfl rfl (Nat.le_of_ble_eq_true rfl) ⟨Nat.zero_le _, Nat.zero_le _⟩ dX8_feed_5 (fun r1 hr1 => ?_)
  obtain ⟨⟨b2, hb2, rfl⟩, hx2, hz2⟩ := hr1
  have ta3 : (p1 : Int32).toInt = p1.toInt := rfl
  have ta4 : ((nI 0) : Int32).toInt = ((0 : Nat) : Int) := (nI_toInt (n := 0) (by omega))
  have ta5 : ((nI 255) : Int32).toInt = ((255 : Nat) : Int) := (nI_toInt (n := 255) (by omega))
  have hy2 : b2 ≠ 0 → ((0 : Nat) : Int) ≤ p1.toInt ∧ p1.toInt ≤ ((255 : Nat) : Int) := fun q => by have h9 := hx2 (nI_ne0 (by omega) (by omega)); omega
  have hu2 : b2 = 0 → p1.toInt < ((0 : Nat) : Int) ∨ ((255 : Nat) : Int) < p1.toInt := fun q => by have h9 := hz2 (by rw [q]; rfl); omega
  refine lv_if_ne (tgt := 14) S.1 S.2.1 dX8_feed_8 (by decide) (fun c6 => ?_) (fun c6 => ?_)
  · skip
    have k7 := ci_ne (nI_toInt (n := b2) (by omega)) z_ti c6
    refine lv_aload_n S.1 S.2.1 dX8_feed_14 rfl (lv_at hl0 0 rfl) ?_
    obtain ⟨ty8, kn8, no8, en8, at8, sa8, sd8, wr8, pl8, va8, hF8, hb8_1, hb8_2, hb8_3, hb8_4, hb8_5, hb8_6⟩ := wt_m hW
    refine r_get S hK hP 58 (by decide) hF8 (C := RX8) (T := TX8) (N := 23) hiX8 rfl 1 (by decide) (by decide +kernel) (v := .int (nI ty8)) rfl dX8_feed_15 ?_
    refine lv_sipush (v := (nI 240)) S.1 S.2.1 dX8_feed_18 (by decide +kernel) ?_
    refine lv_icmp_ne (tgt := 27) S.1 S.2.1 dX8_feed_21 (by decide) (fun c9 => ?_) (fun c9 => ?_)
    · skip
      have k10 := ci_ne (nI_toInt (n := ty8) (by omega)) (nI_toInt (n := 240) (by omega)) c9
      refine lv_aload_n S.1 S.2.1 dX8_feed_27 rfl (lv_at hl0 0 rfl) ?_
      refine r_get S hK hP 58 (by decide) hF8 (C := RX8) (T := TX8) (N := 23) hiX8 rfl 0 (by decide) (by decide +kernel) (v := .ref (ad 59)) rfl dX8_feed_28 ?_
      refine lv_aload_n S.1 S.2.1 dX8_feed_31 rfl (lv_at hl0 0 rfl) ?_
      refine r_get S hK hP 58 (by decide) hF8 (C := RX8) (T := TX8) (N := 23) hiX8 rfl 1 (by decide) (by decide +kernel) (v := .int (nI ty8)) rfl dX8_feed_32 ?_
      refine lv_iload_n S.1 S.2.1 dX8_feed_35 rfl (lv_at hl0 1 rfl) ?_
      obtain ⟨g11, hF11, hg11⟩ := wt_I hW (show (59, 240) ∈ rLI by decide)
      refine r_iast S hI hK hP hS 59 (by decide) hF11 (vp_in_nI (show ty8 < 240 by omega) (by omega)) dX8_feed_36 (fun F12 H12 locs12 eF12 hP12 hS12 => ?_)
      have hW12 := hW.up eF12 (ok_I (show (59, 240) ∈ rLI by decide) (okI_up hg11 (pr_of (by decide))))
      have hFr12 := hFr.up eF12 (by simp <;> first | omega | (simp only [isC, isJ] at *; omega))
      refine lv_aload_n S.1 S.2.1 dX8_feed_37 rfl (lv_at hl0 0 rfl) ?_
      refine lv_dup S.1 S.2.1 dX8_feed_38 rfl ?_
      have hF13 := (show F12 58 = F 58 by rw [eF12]; exact va_up_ne _ _ (by decide)).trans hF8
      refine r_get S hK hP12 58 (by decide) hF13 (C := RX8) (T := TX8) (N := 23) hiX8 rfl 1 (by decide) (by decide +kernel) (v := .int (nI ty8)) rfl dX8_feed_39 ?_
      refine lv_iconst (v := (nI 1)) S.1 S.2.1 dX8_feed_42 (by decide +kernel) ?_
      refine lv_iadd S.1 S.2.1 dX8_feed_43 ?_
      refine lv_topi (fun v14 e14 => ?_)
      obtain rfl : v14 = nI (ty8 + 1) := e14.trans (nI_add _ _)
      refine r_put S hI hK hP12 hS12 58 (by decide) hF13 (C := RX8) (T := TX8) (N := 23) hiX8 tyX8_ok nmX8 rfl 1 (by decide) (by decide +kernel) rfl rfl rfl (Nat.le_of_ble_eq_true rfl) dX8_feed_44 (fun F15 H15 locs15 eF15 hP15 hS15 => ?_)
      have hF15 : F15 58 = .inr (8, [.ref (ad 59), .int (nI (ty8 + 1)), .ref (ad 60), .ref (ad 61), .ref (ad 62), .ref (ad 63), .int (nI kn8), .ref (ad 64), .ref (ad 65), .int sd8, .ref (ad 66), .int (nI no8), .ref (ad 67), .int (nI en8), .int (nI at8), .int wr8, .int pl8, .int va8, .int (nI sa8), .ref (ad 68), .ref (ad 69), .ref (ad 70), .ref (ad 71)]) := by rw [eF15]; exact va_up_self _ _ _
      have hW15 := hW12.up eF15 (ok_m ⟨ty8 + 1, kn8, no8, en8, at8, sa8, sd8, wr8, pl8, va8, rfl, by omega, by omega, by omega, by omega, by omega, by omega⟩)
      have hFr15 := hFr12.up eF15 (by simp <;> first | omega | (simp only [isC, isJ] at *; omega))
      refine lv_aload_n S.1 S.2.1 dX8_feed_47 rfl (lv_at hl0 0 rfl) ?_
      refine r_get S hK hP15 58 (by decide) hF15 (C := RX8) (T := TX8) (N := 23) hiX8 rfl 1 (by decide) (by decide +kernel) (v := .int (nI (ty8 + 1))) rfl dX8_feed_48 ?_
      exact hret 51 _ _ _ _ _ dX8_feed_51 rfl hP15 hS15 ⟨hW15, hFr15, trivial⟩
    have k16 := ci_eq (nI_toInt (n := ty8) (by omega)) (nI_toInt (n := 240) (by omega)) c9
    refine lv_ldc (v := (-1000000004)) S.1 S.2.1 S.2.2.2.1 (S.2.2.2.2 (.constant RX8 63 (-1000000004)) (by decide +kernel)) dX8_feed_24 ?_
    exact hret 26 _ _ _ _ _ dX8_feed_26 rfl hP hS ⟨hW, hFr, trivial⟩
  have k17 := ci_eq (nI_toInt (n := b2) (by omega)) z_ti c6
  refine lv_ldc (v := (-1000000002)) S.1 S.2.1 S.2.2.2.1 (S.2.2.2.2 (.constant RX8 59 (-1000000002)) (by decide +kernel)) dX8_feed_11 ?_
  exact hret 13 _ _ _ _ _ dX8_feed_13 rfl hP hS ⟨hW, hFr, trivial⟩
set_option maxHeartbeats 4000000 in
set_option maxRecDepth 100000 in
theorem c_X8_letter (l : Launch) (D : va_G) (cA ad : Nat → Nat) (t : Nat) (hI : rI ad) (F : Nat → va_E) (hW : WT cA ad F) : MI l D cA ad t yX8_letter wsX8_letter { frames := 0, cells := 0, slots := 0, locals := 0 } [.ref (ad 58)] F (fun r F' => WT cA ad F' ∧ rFr [58] F F' ∧ ((r.toInt = -1 ∨ fN (F' 58) 14 < fN (F' 58) 1) ∧ fN (F 58) 14 ≤ fN (F' 58) 14 ∧ fN (F' 58) 1 = fN (F 58) 1)) := by
  refine en_I rfl (by decide +kernel) (Nat.le_of_ble_eq_true rfl) ?_
  intro p e s m args below meth c ls0 Q S hK hZ hP hS hl0 hret
  have hl0 : lv_has ls0 1 [(0, .ref (ad 58))] := hl0
  have hFr : rFr [58] F F := rFr.rf
  have hiX8 : ∀ w ∈ u_ws RX8 TX8 23, w ∈ wsX8_letter := by decide +kernel
  obtain ⟨ty1, kn1, no1, en1, at1, sa1, sd1, wr1, pl1, va1, hF1, hb1_1, hb1_2, hb1_3, hb1_4, hb1_5, hb1_6⟩ := wt_m hW
  have hA2 := fN_of (k := 14) (a := at1) hF1 rfl (by omega)
  have hL2 := fN_of (k := 1) (a := ty1) hF1 rfl (by omega)
  have lp3 : ∀ (n3 : Nat), ∀ (Fl3 : Nat → va_E) (Hl3 : Heap) (lol3 : List Loc), fN (F 58) 14 ≤ fN (Fl3 58) 14 ∧ fN (Fl3 58) 1 = fN (F 58) 1 → 240 - fN (Fl3 58) 14 < n3 → WT cA ad Fl3 → rFr [58] F Fl3 → va_P D vwCl (rW ad Fl3) Hl3 → va_S (rA ad) s.heap Hl3 lol3 → ∀ (ls : Array Slot), lv_has ls 1 [(0, .ref (ad 58))] → W p l e { frames := 0, cells := 0, slots := 0, locals := 0 } s m args below meth c Hl3 lol3 0 0 Q (F0 m 0 ls []) := by
    intro n3
    induction n3 with
    | zero =>
      intro Fl3 Hl3 lol3 ix3_m hm3 hWl3 hFl3 hPl3 hSl3 ls3 hl3
      exact absurd hm3 (Nat.not_lt_zero _)
    | succ n3 ih3 =>
      intro Fl3 Hl3 lol3 ix3_m hm3 hWl3 hFl3 hPl3 hSl3 ls3 hl3
      obtain ⟨ty4, kn4, no4, en4, at4, sa4, sd4, wr4, pl4, va4, hF4, hb4_1, hb4_2, hb4_3, hb4_4, hb4_5, hb4_6⟩ := wt_m hWl3
      have hA5 := fN_of (k := 14) (a := at4) hF4 rfl (by omega)
      have hL5 := fN_of (k := 1) (a := ty4) hF4 rfl (by omega)
      refine lv_aload_n S.1 S.2.1 dX8_letter_0 rfl (lv_at hl3 0 rfl) ?_
      refine r_get S hK hPl3 58 (by decide) hF4 (C := RX8) (T := TX8) (N := 23) hiX8 rfl 14 (by decide) (by decide +kernel) (v := .int (nI at4)) rfl dX8_letter_1 ?_
      refine lv_aload_n S.1 S.2.1 dX8_letter_4 rfl (lv_at hl3 0 rfl) ?_
      refine r_get S hK hPl3 58 (by decide) hF4 (C := RX8) (T := TX8) (N := 23) hiX8 rfl 1 (by decide) (by decide +kernel) (v := .int (nI ty4)) rfl dX8_letter_5 ?_
      refine lv_icmp_ge (tgt := 38) S.1 S.2.1 dX8_letter_8 (by decide) (fun c6 => ?_) (fun c6 => ?_)
      · skip
        have k7 := ci_le (nI_toInt (n := ty4) (by omega)) (nI_toInt (n := at4) (by omega)) c6
        refine lv_aload_n S.1 S.2.1 dX8_letter_38 rfl (lv_at hl3 0 rfl) ?_
        refine r_get S hK hPl3 58 (by decide) hF4 (C := RX8) (T := TX8) (N := 23) hiX8 rfl 14 (by decide) (by decide +kernel) (v := .int (nI at4)) rfl dX8_letter_39 ?_
        refine lv_aload_n S.1 S.2.1 dX8_letter_42 rfl (lv_at hl3 0 rfl) ?_
        refine r_get S hK hPl3 58 (by decide) hF4 (C := RX8) (T := TX8) (N := 23) hiX8 rfl 1 (by decide) (by decide +kernel) (v := .int (nI ty4)) rfl dX8_letter_43 ?_
        refine lv_icmp_ge (tgt := 61) S.1 S.2.1 dX8_letter_46 (by decide) (fun c8 => ?_) (fun c8 => absurd c6 c8)
        have k9 := ci_le (nI_toInt (n := ty4) (by omega)) (nI_toInt (n := at4) (by omega)) c8
        refine lv_iconst (v := (-1)) S.1 S.2.1 dX8_letter_61 (by decide +kernel) ?_
        have hA10 := fN_of (k := 14) (a := at4) hF4 rfl (by omega)
        have hL10 := fN_of (k := 1) (a := ty4) hF4 rfl (by omega)
        exact hret 62 _ _ _ _ _ dX8_letter_62 rfl hPl3 hSl3 ⟨hWl3, hFl3, ⟨Or.inl (by decide +kernel), by omega, by omega⟩⟩
      have k11 := ci_nle (nI_toInt (n := ty4) (by omega)) (nI_toInt (n := at4) (by omega)) c6
      refine lv_aload_n S.1 S.2.1 dX8_letter_11 rfl (lv_at hl3 0 rfl) ?_
      refine r_get S hK hPl3 58 (by decide) hF4 (C := RX8) (T := TX8) (N := 23) hiX8 rfl 0 (by decide) (by decide +kernel) (v := .ref (ad 59)) rfl dX8_letter_12 ?_
      refine lv_aload_n S.1 S.2.1 dX8_letter_15 rfl (lv_at hl3 0 rfl) ?_
      refine r_get S hK hPl3 58 (by decide) hF4 (C := RX8) (T := TX8) (N := 23) hiX8 rfl 14 (by decide) (by decide +kernel) (v := .int (nI at4)) rfl dX8_letter_16 ?_
      obtain ⟨g12, hF12, hg12⟩ := wt_I hWl3 (show (59, 240) ∈ rLI by decide)
      refine r_iald S hK hPl3 59 (by decide) hF12 (vp_in_nI (show at4 < 240 by omega) (by omega)) dX8_letter_19 ?_
      refine lv_topi (fun v14 e14 => ?_)
      refine lv_bipush (v := (nI 32)) S.1 S.2.1 dX8_letter_20 (by decide +kernel) ?_
      refine lv_icmp_ne (tgt := 38) S.1 S.2.1 dX8_letter_22 (by decide) (fun c15 => ?_) (fun c15 => ?_)
      · skip
        have k16 := ci_ne rfl (nI_toInt (n := 32) (by omega)) c15
        refine lv_aload_n S.1 S.2.1 dX8_letter_38 rfl (lv_at hl3 0 rfl) ?_
        refine r_get S hK hPl3 58 (by decide) hF4 (C := RX8) (T := TX8) (N := 23) hiX8 rfl 14 (by decide) (by decide +kernel) (v := .int (nI at4)) rfl dX8_letter_39 ?_
        refine lv_aload_n S.1 S.2.1 dX8_letter_42 rfl (lv_at hl3 0 rfl) ?_
        refine r_get S hK hPl3 58 (by decide) hF4 (C := RX8) (T := TX8) (N := 23) hiX8 rfl 1 (by decide) (by decide +kernel) (v := .int (nI ty4)) rfl dX8_letter_43 ?_
        refine lv_icmp_ge (tgt := 61) S.1 S.2.1 dX8_letter_46 (by decide) (fun c17 => absurd c17 c6) (fun c17 => ?_)
        have k18 := ci_nle (nI_toInt (n := ty4) (by omega)) (nI_toInt (n := at4) (by omega)) c17
        refine lv_aload_n S.1 S.2.1 dX8_letter_49 rfl (lv_at hl3 0 rfl) ?_
        refine r_get S hK hPl3 58 (by decide) hF4 (C := RX8) (T := TX8) (N := 23) hiX8 rfl 0 (by decide) (by decide +kernel) (v := .ref (ad 59)) rfl dX8_letter_50 ?_
        refine lv_aload_n S.1 S.2.1 dX8_letter_53 rfl (lv_at hl3 0 rfl) ?_
        refine r_get S hK hPl3 58 (by decide) hF4 (C := RX8) (T := TX8) (N := 23) hiX8 rfl 14 (by decide) (by decide +kernel) (v := .int (nI at4)) rfl dX8_letter_54 ?_
        refine r_iald S hK hPl3 59 (by decide) hF12 (vp_in_nI (show at4 < 240 by omega) (by omega)) dX8_letter_57 ?_
        refine lv_topi (fun v20 e20 => ?_)
        refine lv_goto (tgt := 62) S.1 S.2.1 dX8_letter_58 (by decide) ?_
        have hA21 := fN_of (k := 14) (a := at4) hF4 rfl (by omega)
        have hL21 := fN_of (k := 1) (a := ty4) hF4 rfl (by omega)
        exact hret 62 _ _ _ _ _ dX8_letter_62 rfl hPl3 hSl3 ⟨hWl3, hFl3, ⟨Or.inr (by omega), by omega, by omega⟩⟩
      have k22 := ci_eq rfl (nI_toInt (n := 32) (by omega)) c15
      refine lv_aload_n S.1 S.2.1 dX8_letter_25 rfl (lv_at hl3 0 rfl) ?_
      refine lv_dup S.1 S.2.1 dX8_letter_26 rfl ?_
      refine r_get S hK hPl3 58 (by decide) hF4 (C := RX8) (T := TX8) (N := 23) hiX8 rfl 14 (by decide) (by decide +kernel) (v := .int (nI at4)) rfl dX8_letter_27 ?_
      refine lv_iconst (v := (nI 1)) S.1 S.2.1 dX8_letter_30 (by decide +kernel) ?_
      refine lv_iadd S.1 S.2.1 dX8_letter_31 ?_
      refine lv_topi (fun v23 e23 => ?_)
      obtain rfl : v23 = nI (at4 + 1) := e23.trans (nI_add _ _)
      refine r_put S hI hK hPl3 hSl3 58 (by decide) hF4 (C := RX8) (T := TX8) (N := 23) hiX8 tyX8_ok nmX8 rfl 14 (by decide) (by decide +kernel) rfl rfl rfl (Nat.le_of_ble_eq_true rfl) dX8_letter_32 (fun F24 H24 locs24 eF24 hP24 hS24 => ?_)
      have hF24 : F24 58 = .inr (8, [.ref (ad 59), .int (nI ty4), .ref (ad 60), .ref (ad 61), .ref (ad 62), .ref (ad 63), .int (nI kn4), .ref (ad 64), .ref (ad 65), .int sd4, .ref (ad 66), .int (nI no4), .ref (ad 67), .int (nI en4), .int (nI (at4 + 1)), .int wr4, .int pl4, .int va4, .int (nI sa4), .ref (ad 68), .ref (ad 69), .ref (ad 70), .ref (ad 71)]) := by rw [eF24]; exact va_up_self _ _ _
      have hW24 := hWl3.up eF24 (ok_m ⟨ty4, kn4, no4, en4, at4 + 1, sa4, sd4, wr4, pl4, va4, rfl, by omega, by omega, by omega, by omega, by omega, by omega⟩)
      have hFr24 := hFl3.up eF24 (by simp <;> first | omega | (simp only [isC, isJ] at *; omega))
      refine lv_goto (tgt := 0) S.1 S.2.1 dX8_letter_35 (by decide) ?_
      have hA25 := fN_of (k := 14) (a := at4 + 1) hF24 rfl (by omega)
      have hL25 := fN_of (k := 1) (a := ty4) hF24 rfl (by omega)
      exact ih3 F24 H24 locs24 (by omega) (by omega) hW24 hFr24 hP24 hS24 ls3 (lv_sub hl3 [0] rfl)
  have hA26 := fN_of (k := 14) (a := at1) hF1 rfl (by omega)
  have hL26 := fN_of (k := 1) (a := ty1) hF1 rfl (by omega)
  exact lp3 (240 - fN (F 58) 14 + 1) F s.heap [] (by omega) (by omega) hW hFr hP hS ls0 (lv_sub hl0 [0] rfl)
set_option maxHeartbeats 4000000 in
set_option maxRecDepth 100000 in
theorem c_X8_isWrong (l : Launch) (D : va_G) (cA ad : Nat → Nat) (t : Nat) (hI : rI ad) (F : Nat → va_E) (hW : WT cA ad F) (p1 : Int32) (w2 : Nat) (hw2 : w2 ≤ 240) : MI l D cA ad t yX8_isWrong wsX8_isWrong { frames := 0, cells := 0, slots := 0, locals := 0 } [.ref (ad 58), .int p1, .int (nI w2)] F (fun r F' => WT cA ad F' ∧ rFr [58] F F' ∧ (r = nI 0 ∧ fN (F' 58) 1 = fN (F 58) 1)) := by
  refine en_I rfl (by decide +kernel) (Nat.le_of_ble_eq_true rfl) ?_
  intro p e s m args below meth c ls0 Q S hK hZ hP hS hl0 hret
  have hl0 : lv_has ls0 3 [(0, .ref (ad 58)), (1, .int p1), (2, .int (nI w2))] := hl0
  have hFr : rFr [58] F F := rFr.rf
  have hiX8 : ∀ w ∈ u_ws RX8 TX8 23, w ∈ wsX8_isWrong := by decide +kernel
  obtain ⟨ty1, kn1, no1, en1, at1, sa1, sd1, wr1, pl1, va1, hF1, hb1_1, hb1_2, hb1_3, hb1_4, hb1_5, hb1_6⟩ := wt_m hW
  have hA2 := fN_of (k := 14) (a := at1) hF1 rfl (by omega)
  have hL2 := fN_of (k := 1) (a := ty1) hF1 rfl (by omega)
  refine lv_aload_n S.1 S.2.1 dX8_isWrong_0 rfl (lv_at hl0 0 rfl) ?_
  refine lv_iload_n S.1 S.2.1 dX8_isWrong_1 rfl (lv_at hl0 1 rfl) ?_
  refine r_put S hI hK hP hS 58 (by decide) hF1 (C := RX8) (T := TX8) (N := 23) hiX8 tyX8_ok nmX8 rfl 15 (by decide) (by decide +kernel) rfl rfl rfl (Nat.le_of_ble_eq_true rfl) dX8_isWrong_2 (fun F3 H3 locs3 eF3 hP3 hS3 => ?_)
  have hF3 : F3 58 = .inr (8, [.ref (ad 59), .int (nI ty1), .ref (ad 60), .ref (ad 61), .ref (ad 62), .ref (ad 63), .int (nI kn1), .ref (ad 64), .ref (ad 65), .int sd1, .ref (ad 66), .int (nI no1), .ref (ad 67), .int (nI en1), .int (nI at1), .int p1, .int pl1, .int va1, .int (nI sa1), .ref (ad 68), .ref (ad 69), .ref (ad 70), .ref (ad 71)]) := by rw [eF3]; exact va_up_self _ _ _
  have hW3 := hW.up eF3 (ok_m ⟨ty1, kn1, no1, en1, at1, sa1, sd1, p1, pl1, va1, rfl, by omega, by omega, by omega, by omega, by omega, by omega⟩)
  have hFr3 := hFr.up eF3 (by simp <;> first | omega | (simp only [isC, isJ] at *; omega))
  refine lv_aload_n S.1 S.2.1 dX8_isWrong_5 rfl (lv_at hl0 0 rfl) ?_
  refine lv_iload_n S.1 S.2.1 dX8_isWrong_6 rfl (lv_at hl0 2 rfl) ?_
  refine r_put S hI hK hP3 hS3 58 (by decide) hF3 (C := RX8) (T := TX8) (N := 23) hiX8 tyX8_ok nmX8 rfl 14 (by decide) (by decide +kernel) rfl rfl rfl (Nat.le_of_ble_eq_true rfl) dX8_isWrong_7 (fun F4 H4 locs4 eF4 hP4 hS4 => ?_)
  have hF4 : F4 58 = .inr (8, [.ref (ad 59), .int (nI ty1), .ref (ad 60), .ref (ad 61), .ref (ad 62), .ref (ad 63), .int (nI kn1), .ref (ad 64), .ref (ad 65), .int sd1, .ref (ad 66), .int (nI no1), .ref (ad 67), .int (nI en1), .int (nI w2), .int p1, .int pl1, .int va1, .int (nI sa1), .ref (ad 68), .ref (ad 69), .ref (ad 70), .ref (ad 71)]) := by rw [eF4]; exact va_up_self _ _ _
  have hW4 := hW3.up eF4 (ok_m ⟨ty1, kn1, no1, en1, w2, sa1, sd1, p1, pl1, va1, rfl, by omega, by omega, by omega, by omega, by omega, by omega⟩)
  have hFr4 := hFr3.up eF4 (by simp <;> first | omega | (simp only [isC, isJ] at *; omega))
  refine lv_iconst (v := (nI 0)) S.1 S.2.1 dX8_isWrong_10 (by decide +kernel) ?_
  have hA5 := fN_of (k := 14) (a := w2) hF4 rfl (by omega)
  have hL5 := fN_of (k := 1) (a := ty1) hF4 rfl (by omega)
  exact hret 11 _ _ _ _ _ dX8_isWrong_11 rfl hP4 hS4 ⟨hW4, hFr4, ⟨rfl, by omega⟩⟩
set_option maxHeartbeats 4000000 in
set_option maxRecDepth 100000 in
theorem c_X8_number (l : Launch) (D : va_G) (cA ad : Nat → Nat) (t : Nat) (hI : rI ad) (F : Nat → va_E) (hW : WT cA ad F) (p1 : Int32) (p2 : Int32) : MI l D cA ad t yX8_number wsX8_number { frames := 1, cells := 0, slots := 0, locals := 22 } [.ref (ad 58), .int p1, .int p2] F (fun r F' => WT cA ad F' ∧ rFr [58] F F' ∧ (le32 1 r ∧ fN (F' 58) 1 = fN (F 58) 1 ∧ (r ≠ 0 → fN (F 58) 14 ≤ fN (F' 58) 14) ∧ (r ≠ 0 → p1.toInt ≤ (fI (F' 58) 17).toInt ∧ (fI (F' 58) 17).toInt ≤ p2.toInt))) := by
  refine en_I rfl (by decide +kernel) (Nat.le_of_ble_eq_true rfl) ?_
  intro p e s m args below meth c ls0 Q S hK hZ hP hS hl0 hret
  have hl0 : lv_has ls0 5 [(0, .ref (ad 58)), (1, .int p1), (2, .int p2)] := hl0
  have hFr : rFr [58] F F := rFr.rf
  have hiX8 : ∀ w ∈ u_ws RX8 TX8 23, w ∈ wsX8_number := by decide +kernel
  obtain ⟨ty1, kn1, no1, en1, at1, sa1, sd1, wr1, pl1, va1, hF1, hb1_1, hb1_2, hb1_3, hb1_4, hb1_5, hb1_6⟩ := wt_m hW
  have hA2 := fN_of (k := 14) (a := at1) hF1 rfl (by omega)
  have hL2 := fN_of (k := 1) (a := ty1) hF1 rfl (by omega)
  refine lv_aload_n S.1 S.2.1 dX8_number_0 rfl (lv_at hl0 0 rfl) ?_
  have hA3 := fN_of (k := 14) (a := at1) hF1 rfl (by omega)
  have hL3 := fN_of (k := 1) (a := ty1) hF1 rfl (by omega)
  refine r_cVi (As := []) (rest := []) S hK hZ hP hS hl0.1 58 (by decide) hF1 (C := RX8) rfl (c_X8_letter l D cA ad t hI F hW ) (cwV 0 S.2.2.2.2 gX8_number_X8_letter rfl rfl rfl (by decide +kernel) ⟨Nat.le_of_ble_eq_true rfl, Nat.le_of_ble_eq_true rfl⟩) rfl rfl (Nat.le_of_ble_eq_true rfl) ⟨Nat.zero_le _, Nat.zero_le _⟩ dX8_number_1 (fun r4 F4 H4 locs4 hr4 hP4 hS4 => ?_)
  obtain ⟨hW4, hFc4, hr4⟩ := hr4
  have hFr4 := hFr.tr hFc4 (by simp <;> first | omega | (simp only [isC, isJ] at *; omega))
  obtain ⟨hx5, hy5, hz5⟩ := hr4
  obtain ⟨ty6, kn6, no6, en6, at6, sa6, sd6, wr6, pl6, va6, hF6, hb6_1, hb6_2, hb6_3, hb6_4, hb6_5, hb6_6⟩ := wt_m hW4
  have hA7 := fN_of (k := 14) (a := at6) hF6 rfl (by omega)
  have hL7 := fN_of (k := 1) (a := ty6) hF6 rfl (by omega)
  refine lv_istore_n (lv' := [(3, .int r4), (0, .ref (ad 58)), (1, .int p1), (2, .int p2)]) S.1 S.2.1 dX8_number_4 rfl hl0 (by decide) rfl (fun ls8 hl8 => ?_)
  refine lv_aload_n S.1 S.2.1 dX8_number_5 rfl (lv_at hl8 1 rfl) ?_
  refine lv_aload_n S.1 S.2.1 dX8_number_6 rfl (lv_at hl8 1 rfl) ?_
  refine r_get S hK hP4 58 (by decide) hF6 (C := RX8) (T := TX8) (N := 23) hiX8 rfl 14 (by decide) (by decide +kernel) (v := .int (nI at6)) rfl dX8_number_7 ?_
  refine r_put S hI hK hP4 hS4 58 (by decide) hF6 (C := RX8) (T := TX8) (N := 23) hiX8 tyX8_ok nmX8 rfl 18 (by decide) (by decide +kernel) rfl rfl rfl (Nat.le_of_ble_eq_true rfl) dX8_number_10 (fun F9 H9 locs9 eF9 hP9 hS9 => ?_)
  have hF9 : F9 58 = .inr (8, [.ref (ad 59), .int (nI ty6), .ref (ad 60), .ref (ad 61), .ref (ad 62), .ref (ad 63), .int (nI kn6), .ref (ad 64), .ref (ad 65), .int sd6, .ref (ad 66), .int (nI no6), .ref (ad 67), .int (nI en6), .int (nI at6), .int wr6, .int pl6, .int va6, .int (nI at6), .ref (ad 68), .ref (ad 69), .ref (ad 70), .ref (ad 71)]) := by rw [eF9]; exact va_up_self _ _ _
  have hW9 := hW4.up eF9 (ok_m ⟨ty6, kn6, no6, en6, at6, at6, sd6, wr6, pl6, va6, rfl, by omega, by omega, by omega, by omega, by omega, by omega⟩)
  have hFr9 := hFr4.up eF9 (by simp <;> first | omega | (simp only [isC, isJ] at *; omega))
  refine lv_iload_n S.1 S.2.1 dX8_number_13 rfl (lv_at hl8 0 rfl) ?_
  refine lv_bipush (v := (nI 48)) S.1 S.2.1 dX8_number_14 (by decide +kernel) ?_
  refine lv_bipush (v := (nI 57)) S.1 S.2.1 dX8_number_16 (by decide +kernel) ?_
  refine r_cSp (As := [.int r4, .int (nI 48), .int (nI 57)]) (rest := []) S hK hZ hP9 hS9 hl8.1 (c_X8_in l D cA ad t hI F9 hW9 r4 (nI 48) (nI 57)) (va_cwS 3 S.2.2.2.2 gX8_number_X8_in rfl rfl rfl (by decide +kernel) ⟨Nat.le_of_ble_eq_true rfl, Nat.le_of_ble_eq_true rfl⟩) rfl rfl (Nat.le_of_ble_eq_true rfl) ⟨Nat.zero_le _, Nat.zero_le _⟩ dX8_number_18 (fun r10 hr10 => ?_)
  obtain ⟨⟨b11, hb11, rfl⟩, hx11, hz11⟩ := hr10
  have ta12 : (r4 : Int32).toInt = r4.toInt := rfl
  have ta13 : ((nI 48) : Int32).toInt = ((48 : Nat) : Int) := (nI_toInt (n := 48) (by omega))
  have ta14 : ((nI 57) : Int32).toInt = ((57 : Nat) : Int) := (nI_toInt (n := 57) (by omega))
  have hy11 : b11 ≠ 0 → ((48 : Nat) : Int) ≤ r4.toInt ∧ r4.toInt ≤ ((57 : Nat) : Int) := fun q => by have h9 := hx11 (nI_ne0 (by omega) (by omega)); omega
  have hu11 : b11 = 0 → r4.toInt < ((48 : Nat) : Int) ∨ ((57 : Nat) : Int) < r4.toInt := fun q => by have h9 := hz11 (by rw [q]; rfl); omega
  refine lv_if_ne (tgt := 34) S.1 S.2.1 dX8_number_21 (by decide) (fun c15 => ?_) (fun c15 => ?_)
  · skip
    have k16 := ci_ne (nI_toInt (n := b11) (by omega)) z_ti c15
    refine lv_iconst (v := (nI 0)) S.1 S.2.1 dX8_number_34 (by decide +kernel) ?_
    refine lv_istore (lv' := [(4, .int (nI 0)), (3, .int r4), (0, .ref (ad 58)), (1, .int p1), (2, .int p2)]) S.1 S.2.1 dX8_number_35 hl8 (by decide) rfl (fun ls17 hl17 => ?_)
    refine lv_aload_n S.1 S.2.1 dX8_number_37 rfl (lv_at hl17 2 rfl) ?_
    refine lv_iconst (v := (nI 0)) S.1 S.2.1 dX8_number_38 (by decide +kernel) ?_
    refine r_put S hI hK hP9 hS9 58 (by decide) hF9 (C := RX8) (T := TX8) (N := 23) hiX8 tyX8_ok nmX8 rfl 17 (by decide) (by decide +kernel) rfl rfl rfl (Nat.le_of_ble_eq_true rfl) dX8_number_39 (fun F18 H18 locs18 eF18 hP18 hS18 => ?_)
    have hF18 : F18 58 = .inr (8, [.ref (ad 59), .int (nI ty6), .ref (ad 60), .ref (ad 61), .ref (ad 62), .ref (ad 63), .int (nI kn6), .ref (ad 64), .ref (ad 65), .int sd6, .ref (ad 66), .int (nI no6), .ref (ad 67), .int (nI en6), .int (nI at6), .int wr6, .int pl6, .int (nI 0), .int (nI at6), .ref (ad 68), .ref (ad 69), .ref (ad 70), .ref (ad 71)]) := by rw [eF18]; exact va_up_self _ _ _
    have hW18 := hW9.up eF18 (ok_m ⟨ty6, kn6, no6, en6, at6, at6, sd6, wr6, pl6, (nI 0), rfl, by omega, by omega, by omega, by omega, by omega, by omega⟩)
    have hFr18 := hFr9.up eF18 (by simp <;> first | omega | (simp only [isC, isJ] at *; omega))
    have lp19 : ∀ (n19 : Nat) (x19_4 : Int32), ∀ (Fl19 : Nat → va_E) (Hl19 : Heap) (lol19 : List Loc), fN (F 58) 14 ≤ fN (Fl19 58) 14 ∧ fN (Fl19 58) 1 = fN (F 58) 1 → 240 - fN (Fl19 58) 14 < n19 → WT cA ad Fl19 → rFr [58] F Fl19 → va_P D vwCl (rW ad Fl19) Hl19 → va_S (rA ad) s.heap Hl19 lol19 → ∀ (ls : Array Slot), lv_has ls 5 [(4, .int x19_4), (3, .int r4), (0, .ref (ad 58)), (1, .int p1), (2, .int p2)] → W p l e { frames := 1, cells := 0, slots := 0, locals := 22 } s m args below meth c Hl19 lol19 0 0 Q (F0 m 42 ls []) := by
      intro n19
      induction n19 with
      | zero =>
        intro x19_4 Fl19 Hl19 lol19 ix19_m hm19 hWl19 hFl19 hPl19 hSl19 ls19 hl19
        exact absurd hm19 (Nat.not_lt_zero _)
      | succ n19 ih19 =>
        intro x19_4 Fl19 Hl19 lol19 ix19_m hm19 hWl19 hFl19 hPl19 hSl19 ls19 hl19
        obtain ⟨ty20, kn20, no20, en20, at20, sa20, sd20, wr20, pl20, va20, hF20, hb20_1, hb20_2, hb20_3, hb20_4, hb20_5, hb20_6⟩ := wt_m hWl19
        have hA21 := fN_of (k := 14) (a := at20) hF20 rfl (by omega)
        have hL21 := fN_of (k := 1) (a := ty20) hF20 rfl (by omega)
        refine lv_aload_n S.1 S.2.1 dX8_number_42 rfl (lv_at hl19 2 rfl) ?_
        refine r_get S hK hPl19 58 (by decide) hF20 (C := RX8) (T := TX8) (N := 23) hiX8 rfl 14 (by decide) (by decide +kernel) (v := .int (nI at20)) rfl dX8_number_43 ?_
        refine lv_aload_n S.1 S.2.1 dX8_number_46 rfl (lv_at hl19 2 rfl) ?_
        refine r_get S hK hPl19 58 (by decide) hF20 (C := RX8) (T := TX8) (N := 23) hiX8 rfl 1 (by decide) (by decide +kernel) (v := .int (nI ty20)) rfl dX8_number_47 ?_
        refine lv_icmp_ge (tgt := 125) S.1 S.2.1 dX8_number_50 (by decide) (fun c22 => ?_) (fun c22 => ?_)
        · skip
          have k23 := ci_le (nI_toInt (n := ty20) (by omega)) (nI_toInt (n := at20) (by omega)) c22
          refine lv_iload S.1 S.2.1 dX8_number_125 (lv_at hl19 0 rfl) ?_
          refine lv_iconst (v := (nI 5)) S.1 S.2.1 dX8_number_127 (by decide +kernel) ?_
          refine lv_icmp_ge (tgt := 143) S.1 S.2.1 dX8_number_128 (by decide) (fun c24 => ?_) (fun c24 => ?_)
          · skip
            have k25 := ci_le (nI_toInt (n := 5) (by omega)) rfl c24
            refine lv_aload_n S.1 S.2.1 dX8_number_143 rfl (lv_at hl19 2 rfl) ?_
            refine lv_iconst (v := (nI 2)) S.1 S.2.1 dX8_number_144 (by decide +kernel) ?_
            refine lv_aload_n S.1 S.2.1 dX8_number_145 rfl (lv_at hl19 2 rfl) ?_
            refine r_get S hK hPl19 58 (by decide) hF20 (C := RX8) (T := TX8) (N := 23) hiX8 rfl 18 (by decide) (by decide +kernel) (v := .int (nI sa20)) rfl dX8_number_146 ?_
            have hA26 := fN_of (k := 14) (a := at20) hF20 rfl (by omega)
            have hL26 := fN_of (k := 1) (a := ty20) hF20 rfl (by omega)
            refine r_cVi (As := [.int (nI 2), .int (nI sa20)]) (rest := []) S hK hZ hPl19 hSl19 hl19.1 58 (by decide) hF20 (C := RX8) rfl (c_X8_isWrong l D cA ad t hI Fl19 hWl19 (nI 2) (sa20) (by omega)) (cwV 2 S.2.2.2.2 gX8_number_X8_isWrong rfl rfl rfl (by decide +kernel) ⟨Nat.le_of_ble_eq_true rfl, Nat.le_of_ble_eq_true rfl⟩) rfl rfl (Nat.le_of_ble_eq_true rfl) ⟨Nat.zero_le _, Nat.zero_le _⟩ dX8_number_149 (fun r27 F27 H27 locs27 hr27 hP27 hS27 => ?_)
            obtain ⟨hW27, hFc27, hr27⟩ := hr27
            have hFr27 := hFl19.tr hFc27 (by simp <;> first | omega | (simp only [isC, isJ] at *; omega))
            obtain ⟨rfl, hz28⟩ := hr27
            obtain ⟨ty29, kn29, no29, en29, at29, sa29, sd29, wr29, pl29, va29, hF29, hb29_1, hb29_2, hb29_3, hb29_4, hb29_5, hb29_6⟩ := wt_m hW27
            have hA30 := fN_of (k := 14) (a := at29) hF29 rfl (by omega)
            have hL30 := fN_of (k := 1) (a := ty29) hF29 rfl (by omega)
            refine lv_if_eq (tgt := 159) S.1 S.2.1 dX8_number_152 (by decide) (fun c31 => ?_) (fun c31 => absurd (by decide +kernel) c31)
            have k32 := ci_eq (nI_toInt (n := 0) (by omega)) z_ti c31
            refine lv_iconst (v := (nI 0)) S.1 S.2.1 dX8_number_159 (by decide +kernel) ?_
            have hA33 := fN_of (k := 14) (a := at29) hF29 rfl (by omega)
            have hL33 := fN_of (k := 1) (a := ty29) hF29 rfl (by omega)
            exact hret 160 _ _ _ _ _ dX8_number_160 rfl hP27 hS27 ⟨hW27, hFr27, ⟨⟨0, by omega, rfl⟩, by omega, fun h => absurd rfl h, fun h => absurd rfl h⟩⟩
          have k34 := ci_nle (nI_toInt (n := 5) (by omega)) rfl c24
          refine lv_aload_n S.1 S.2.1 dX8_number_131 rfl (lv_at hl19 2 rfl) ?_
          refine r_get S hK hPl19 58 (by decide) hF20 (C := RX8) (T := TX8) (N := 23) hiX8 rfl 17 (by decide) (by decide +kernel) (v := .int va20) rfl dX8_number_132 ?_
          refine lv_iload_n S.1 S.2.1 dX8_number_135 rfl (lv_at hl19 3 rfl) ?_
          refine lv_iload_n S.1 S.2.1 dX8_number_136 rfl (lv_at hl19 4 rfl) ?_
          refine r_cSp (As := [.int va20, .int p1, .int p2]) (rest := []) S hK hZ hPl19 hSl19 hl19.1 (c_X8_in l D cA ad t hI Fl19 hWl19 va20 p1 p2) (va_cwS 3 S.2.2.2.2 gX8_number_X8_in rfl rfl rfl (by decide +kernel) ⟨Nat.le_of_ble_eq_true rfl, Nat.le_of_ble_eq_true rfl⟩) rfl rfl (Nat.le_of_ble_eq_true rfl) ⟨Nat.zero_le _, Nat.zero_le _⟩ dX8_number_137 (fun r35 hr35 => ?_)
          obtain ⟨⟨b36, hb36, rfl⟩, hx36, hz36⟩ := hr35
          have ta37 : (va20 : Int32).toInt = va20.toInt := rfl
          have ta38 : (p1 : Int32).toInt = p1.toInt := rfl
          have ta39 : (p2 : Int32).toInt = p2.toInt := rfl
          have hy36 : b36 ≠ 0 → p1.toInt ≤ va20.toInt ∧ va20.toInt ≤ p2.toInt := fun q => by have h9 := hx36 (nI_ne0 (by omega) (by omega)); omega
          have hu36 : b36 = 0 → va20.toInt < p1.toInt ∨ p2.toInt < va20.toInt := fun q => by have h9 := hz36 (by rw [q]; rfl); omega
          refine lv_if_ne (tgt := 155) S.1 S.2.1 dX8_number_140 (by decide) (fun c40 => ?_) (fun c40 => ?_)
          · skip
            have k41 := ci_ne (nI_toInt (n := b36) (by omega)) z_ti c40
            refine lv_iconst (v := (nI 1)) S.1 S.2.1 dX8_number_155 (by decide +kernel) ?_
            refine lv_goto (tgt := 160) S.1 S.2.1 dX8_number_156 (by decide) ?_
            have hA42 := fN_of (k := 14) (a := at20) hF20 rfl (by omega)
            have hL42 := fN_of (k := 1) (a := ty20) hF20 rfl (by omega)
            exact hret 160 _ _ _ _ _ dX8_number_160 rfl hPl19 hSl19 ⟨hWl19, hFl19, ⟨⟨1, by omega, rfl⟩, by omega, fun _ => by omega, fun _ => by rw [show fI (Fl19 58) 17 = va20 by unfold fI; rw [hF20]; rfl]; exact ⟨by omega, by omega⟩⟩⟩
          have k43 := ci_eq (nI_toInt (n := b36) (by omega)) z_ti c40
          refine lv_aload_n S.1 S.2.1 dX8_number_143 rfl (lv_at hl19 2 rfl) ?_
          refine lv_iconst (v := (nI 2)) S.1 S.2.1 dX8_number_144 (by decide +kernel) ?_
          refine lv_aload_n S.1 S.2.1 dX8_number_145 rfl (lv_at hl19 2 rfl) ?_
          refine r_get S hK hPl19 58 (by decide) hF20 (C := RX8) (T := TX8) (N := 23) hiX8 rfl 18 (by decide) (by decide +kernel) (v := .int (nI sa20)) rfl dX8_number_146 ?_
          have hA44 := fN_of (k := 14) (a := at20) hF20 rfl (by omega)
          have hL44 := fN_of (k := 1) (a := ty20) hF20 rfl (by omega)
          refine r_cVi (As := [.int (nI 2), .int (nI sa20)]) (rest := []) S hK hZ hPl19 hSl19 hl19.1 58 (by decide) hF20 (C := RX8) rfl (c_X8_isWrong l D cA ad t hI Fl19 hWl19 (nI 2) (sa20) (by omega)) (cwV 2 S.2.2.2.2 gX8_number_X8_isWrong rfl rfl rfl (by decide +kernel) ⟨Nat.le_of_ble_eq_true rfl, Nat.le_of_ble_eq_true rfl⟩) rfl rfl (Nat.le_of_ble_eq_true rfl) ⟨Nat.zero_le _, Nat.zero_le _⟩ dX8_number_149 (fun r45 F45 H45 locs45 hr45 hP45 hS45 => ?_)
          obtain ⟨hW45, hFc45, hr45⟩ := hr45
          have hFr45 := hFl19.tr hFc45 (by simp <;> first | omega | (simp only [isC, isJ] at *; omega))
          obtain ⟨rfl, hz46⟩ := hr45
          obtain ⟨ty47, kn47, no47, en47, at47, sa47, sd47, wr47, pl47, va47, hF47, hb47_1, hb47_2, hb47_3, hb47_4, hb47_5, hb47_6⟩ := wt_m hW45
          have hA48 := fN_of (k := 14) (a := at47) hF47 rfl (by omega)
          have hL48 := fN_of (k := 1) (a := ty47) hF47 rfl (by omega)
          refine lv_if_eq (tgt := 159) S.1 S.2.1 dX8_number_152 (by decide) (fun c49 => ?_) (fun c49 => absurd (by decide +kernel) c49)
          have k50 := ci_eq (nI_toInt (n := 0) (by omega)) z_ti c49
          refine lv_iconst (v := (nI 0)) S.1 S.2.1 dX8_number_159 (by decide +kernel) ?_
          have hA51 := fN_of (k := 14) (a := at47) hF47 rfl (by omega)
          have hL51 := fN_of (k := 1) (a := ty47) hF47 rfl (by omega)
          exact hret 160 _ _ _ _ _ dX8_number_160 rfl hP45 hS45 ⟨hW45, hFr45, ⟨⟨0, by omega, rfl⟩, by omega, fun h => absurd rfl h, fun h => absurd rfl h⟩⟩
        have k52 := ci_nle (nI_toInt (n := ty20) (by omega)) (nI_toInt (n := at20) (by omega)) c22
        refine lv_aload_n S.1 S.2.1 dX8_number_53 rfl (lv_at hl19 2 rfl) ?_
        refine r_get S hK hPl19 58 (by decide) hF20 (C := RX8) (T := TX8) (N := 23) hiX8 rfl 0 (by decide) (by decide +kernel) (v := .ref (ad 59)) rfl dX8_number_54 ?_
        refine lv_aload_n S.1 S.2.1 dX8_number_57 rfl (lv_at hl19 2 rfl) ?_
        refine r_get S hK hPl19 58 (by decide) hF20 (C := RX8) (T := TX8) (N := 23) hiX8 rfl 14 (by decide) (by decide +kernel) (v := .int (nI at20)) rfl dX8_number_58 ?_
        obtain ⟨g53, hF53, hg53⟩ := wt_I hWl19 (show (59, 240) ∈ rLI by decide)
        refine r_iald S hK hPl19 59 (by decide) hF53 (vp_in_nI (show at20 < 240 by omega) (by omega)) dX8_number_61 ?_
        refine lv_topi (fun v55 e55 => ?_)
        refine lv_bipush (v := (nI 48)) S.1 S.2.1 dX8_number_62 (by decide +kernel) ?_
        refine lv_bipush (v := (nI 57)) S.1 S.2.1 dX8_number_64 (by decide +kernel) ?_
        refine r_cSp (As := [.int v55, .int (nI 48), .int (nI 57)]) (rest := []) S hK hZ hPl19 hSl19 hl19.1 (c_X8_in l D cA ad t hI Fl19 hWl19 v55 (nI 48) (nI 57)) (va_cwS 3 S.2.2.2.2 gX8_number_X8_in rfl rfl rfl (by decide +kernel) ⟨Nat.le_of_ble_eq_true rfl, Nat.le_of_ble_eq_true rfl⟩) rfl rfl (Nat.le_of_ble_eq_true rfl) ⟨Nat.zero_le _, Nat.zero_le _⟩ dX8_number_66 (fun r56 hr56 => ?_)
        obtain ⟨⟨b57, hb57, rfl⟩, hx57, hz57⟩ := hr56
        have ta58 : (v55 : Int32).toInt = v55.toInt := rfl
        have ta59 : ((nI 48) : Int32).toInt = ((48 : Nat) : Int) := (nI_toInt (n := 48) (by omega))
        have ta60 : ((nI 57) : Int32).toInt = ((57 : Nat) : Int) := (nI_toInt (n := 57) (by omega))
        have hy57 : b57 ≠ 0 → ((48 : Nat) : Int) ≤ v55.toInt ∧ v55.toInt ≤ ((57 : Nat) : Int) := fun q => by have h9 := hx57 (nI_ne0 (by omega) (by omega)); omega
        have hu57 : b57 = 0 → v55.toInt < ((48 : Nat) : Int) ∨ ((57 : Nat) : Int) < v55.toInt := fun q => by have h9 := hz57 (by rw [q]; rfl); omega
        refine lv_if_eq (tgt := 125) S.1 S.2.1 dX8_number_69 (by decide) (fun c61 => ?_) (fun c61 => ?_)
        · skip
          have k62 := ci_eq (nI_toInt (n := b57) (by omega)) z_ti c61
          refine lv_iload S.1 S.2.1 dX8_number_125 (lv_at hl19 0 rfl) ?_
          refine lv_iconst (v := (nI 5)) S.1 S.2.1 dX8_number_127 (by decide +kernel) ?_
          refine lv_icmp_ge (tgt := 143) S.1 S.2.1 dX8_number_128 (by decide) (fun c63 => ?_) (fun c63 => ?_)
          · skip
            have k64 := ci_le (nI_toInt (n := 5) (by omega)) rfl c63
            refine lv_aload_n S.1 S.2.1 dX8_number_143 rfl (lv_at hl19 2 rfl) ?_
            refine lv_iconst (v := (nI 2)) S.1 S.2.1 dX8_number_144 (by decide +kernel) ?_
            refine lv_aload_n S.1 S.2.1 dX8_number_145 rfl (lv_at hl19 2 rfl) ?_
            refine r_get S hK hPl19 58 (by decide) hF20 (C := RX8) (T := TX8) (N := 23) hiX8 rfl 18 (by decide) (by decide +kernel) (v := .int (nI sa20)) rfl dX8_number_146 ?_
            have hA65 := fN_of (k := 14) (a := at20) hF20 rfl (by omega)
            have hL65 := fN_of (k := 1) (a := ty20) hF20 rfl (by omega)
            refine r_cVi (As := [.int (nI 2), .int (nI sa20)]) (rest := []) S hK hZ hPl19 hSl19 hl19.1 58 (by decide) hF20 (C := RX8) rfl (c_X8_isWrong l D cA ad t hI Fl19 hWl19 (nI 2) (sa20) (by omega)) (cwV 2 S.2.2.2.2 gX8_number_X8_isWrong rfl rfl rfl (by decide +kernel) ⟨Nat.le_of_ble_eq_true rfl, Nat.le_of_ble_eq_true rfl⟩) rfl rfl (Nat.le_of_ble_eq_true rfl) ⟨Nat.zero_le _, Nat.zero_le _⟩ dX8_number_149 (fun r66 F66 H66 locs66 hr66 hP66 hS66 => ?_)
            obtain ⟨hW66, hFc66, hr66⟩ := hr66
            have hFr66 := hFl19.tr hFc66 (by simp <;> first | omega | (simp only [isC, isJ] at *; omega))
            obtain ⟨rfl, hz67⟩ := hr66
            obtain ⟨ty68, kn68, no68, en68, at68, sa68, sd68, wr68, pl68, va68, hF68, hb68_1, hb68_2, hb68_3, hb68_4, hb68_5, hb68_6⟩ := wt_m hW66
            have hA69 := fN_of (k := 14) (a := at68) hF68 rfl (by omega)
            have hL69 := fN_of (k := 1) (a := ty68) hF68 rfl (by omega)
            refine lv_if_eq (tgt := 159) S.1 S.2.1 dX8_number_152 (by decide) (fun c70 => ?_) (fun c70 => absurd (by decide +kernel) c70)
            have k71 := ci_eq (nI_toInt (n := 0) (by omega)) z_ti c70
            refine lv_iconst (v := (nI 0)) S.1 S.2.1 dX8_number_159 (by decide +kernel) ?_
            have hA72 := fN_of (k := 14) (a := at68) hF68 rfl (by omega)
            have hL72 := fN_of (k := 1) (a := ty68) hF68 rfl (by omega)
            exact hret 160 _ _ _ _ _ dX8_number_160 rfl hP66 hS66 ⟨hW66, hFr66, ⟨⟨0, by omega, rfl⟩, by omega, fun h => absurd rfl h, fun h => absurd rfl h⟩⟩
          have k73 := ci_nle (nI_toInt (n := 5) (by omega)) rfl c63
          refine lv_aload_n S.1 S.2.1 dX8_number_131 rfl (lv_at hl19 2 rfl) ?_
          refine r_get S hK hPl19 58 (by decide) hF20 (C := RX8) (T := TX8) (N := 23) hiX8 rfl 17 (by decide) (by decide +kernel) (v := .int va20) rfl dX8_number_132 ?_
          refine lv_iload_n S.1 S.2.1 dX8_number_135 rfl (lv_at hl19 3 rfl) ?_
          refine lv_iload_n S.1 S.2.1 dX8_number_136 rfl (lv_at hl19 4 rfl) ?_
          refine r_cSp (As := [.int va20, .int p1, .int p2]) (rest := []) S hK hZ hPl19 hSl19 hl19.1 (c_X8_in l D cA ad t hI Fl19 hWl19 va20 p1 p2) (va_cwS 3 S.2.2.2.2 gX8_number_X8_in rfl rfl rfl (by decide +kernel) ⟨Nat.le_of_ble_eq_true rfl, Nat.le_of_ble_eq_true rfl⟩) rfl rfl (Nat.le_of_ble_eq_true rfl) ⟨Nat.zero_le _, Nat.zero_le _⟩ dX8_number_137 (fun r74 hr74 => ?_)
          obtain ⟨⟨b75, hb75, rfl⟩, hx75, hz75⟩ := hr74
          have ta76 : (va20 : Int32).toInt = va20.toInt := rfl
          have ta77 : (p1 : Int32).toInt = p1.toInt := rfl
          have ta78 : (p2 : Int32).toInt = p2.toInt := rfl
          have hy75 : b75 ≠ 0 → p1.toInt ≤ va20.toInt ∧ va20.toInt ≤ p2.toInt := fun q => by have h9 := hx75 (nI_ne0 (by omega) (by omega)); omega
          have hu75 : b75 = 0 → va20.toInt < p1.toInt ∨ p2.toInt < va20.toInt := fun q => by have h9 := hz75 (by rw [q]; rfl); omega
          refine lv_if_ne (tgt := 155) S.1 S.2.1 dX8_number_140 (by decide) (fun c79 => ?_) (fun c79 => ?_)
          · skip
            have k80 := ci_ne (nI_toInt (n := b75) (by omega)) z_ti c79
            refine lv_iconst (v := (nI 1)) S.1 S.2.1 dX8_number_155 (by decide +kernel) ?_
            refine lv_goto (tgt := 160) S.1 S.2.1 dX8_number_156 (by decide) ?_
            have hA81 := fN_of (k := 14) (a := at20) hF20 rfl (by omega)
            have hL81 := fN_of (k := 1) (a := ty20) hF20 rfl (by omega)
            exact hret 160 _ _ _ _ _ dX8_number_160 rfl hPl19 hSl19 ⟨hWl19, hFl19, ⟨⟨1, by omega, rfl⟩, by omega, fun _ => by omega, fun _ => by rw [show fI (Fl19 58) 17 = va20 by unfold fI; rw [hF20]; rfl]; exact ⟨by omega, by omega⟩⟩⟩
          have k82 := ci_eq (nI_toInt (n := b75) (by omega)) z_ti c79
          refine lv_aload_n S.1 S.2.1 dX8_number_143 rfl (lv_at hl19 2 rfl) ?_
          refine lv_iconst (v := (nI 2)) S.1 S.2.1 dX8_number_144 (by decide +kernel) ?_
          refine lv_aload_n S.1 S.2.1 dX8_number_145 rfl (lv_at hl19 2 rfl) ?_
          refine r_get S hK hPl19 58 (by decide) hF20 (C := RX8) (T := TX8) (N := 23) hiX8 rfl 18 (by decide) (by decide +kernel) (v := .int (nI sa20)) rfl dX8_number_146 ?_
          have hA83 := fN_of (k := 14) (a := at20) hF20 rfl (by omega)
          have hL83 := fN_of (k := 1) (a := ty20) hF20 rfl (by omega)
          refine r_cVi (As := [.int (nI 2), .int (nI sa20)]) (rest := []) S hK hZ hPl19 hSl19 hl19.1 58 (by decide) hF20 (C := RX8) rfl (c_X8_isWrong l D cA ad t hI Fl19 hWl19 (nI 2) (sa20) (by omega)) (cwV 2 S.2.2.2.2 gX8_number_X8_isWrong rfl rfl rfl (by decide +kernel) ⟨Nat.le_of_ble_eq_true rfl, Nat.le_of_ble_eq_true rfl⟩) rfl rfl (Nat.le_of_ble_eq_true rfl) ⟨Nat.zero_le _, Nat.zero_le _⟩ dX8_number_149 (fun r84 F84 H84 locs84 hr84 hP84 hS84 => ?_)
          obtain ⟨hW84, hFc84, hr84⟩ := hr84
          have hFr84 := hFl19.tr hFc84 (by simp <;> first | omega | (simp only [isC, isJ] at *; omega))
          obtain ⟨rfl, hz85⟩ := hr84
          obtain ⟨ty86, kn86, no86, en86, at86, sa86, sd86, wr86, pl86, va86, hF86, hb86_1, hb86_2, hb86_3, hb86_4, hb86_5, hb86_6⟩ := wt_m hW84
          have hA87 := fN_of (k := 14) (a := at86) hF86 rfl (by omega)
          have hL87 := fN_of (k := 1) (a := ty86) hF86 rfl (by omega)
          refine lv_if_eq (tgt := 159) S.1 S.2.1 dX8_number_152 (by decide) (fun c88 => ?_) (fun c88 => absurd (by decide +kernel) c88)
          have k89 := ci_eq (nI_toInt (n := 0) (by omega)) z_ti c88
          refine lv_iconst (v := (nI 0)) S.1 S.2.1 dX8_number_159 (by decide +kernel) ?_
          have hA90 := fN_of (k := 14) (a := at86) hF86 rfl (by omega)
          have hL90 := fN_of (k := 1) (a := ty86) hF86 rfl (by omega)
          exact hret 160 _ _ _ _ _ dX8_number_160 rfl hP84 hS84 ⟨hW84, hFr84, ⟨⟨0, by omega, rfl⟩, by omega, fun h => absurd rfl h, fun h => absurd rfl h⟩⟩
        have k91 := ci_ne (nI_toInt (n := b57) (by omega)) z_ti c61
        refine lv_aload_n S.1 S.2.1 dX8_number_72 rfl (lv_at hl19 2 rfl) ?_
        refine lv_iload S.1 S.2.1 dX8_number_73 (lv_at hl19 0 rfl) ?_
        refine lv_iconst (v := (nI 4)) S.1 S.2.1 dX8_number_75 (by decide +kernel) ?_
        refine lv_icmp_ge (tgt := 102) S.1 S.2.1 dX8_number_76 (by decide) (fun c92 => ?_) (fun c92 => ?_)
        · skip
          have k93 := ci_le (nI_toInt (n := 4) (by omega)) rfl c92
          refine lv_aload_n S.1 S.2.1 dX8_number_102 rfl (lv_at hl19 2 rfl) ?_
          refine r_get S hK hPl19 58 (by decide) hF20 (C := RX8) (T := TX8) (N := 23) hiX8 rfl 17 (by decide) (by decide +kernel) (v := .int va20) rfl dX8_number_103 ?_
          refine r_put S hI hK hPl19 hSl19 58 (by decide) hF20 (C := RX8) (T := TX8) (N := 23) hiX8 tyX8_ok nmX8 rfl 17 (by decide) (by decide +kernel) rfl rfl rfl (Nat.le_of_ble_eq_true rfl) dX8_number_106 (fun F94 H94 locs94 eF94 hP94 hS94 => ?_)
          have hF94 : F94 58 = .inr (8, [.ref (ad 59), .int (nI ty20), .ref (ad 60), .ref (ad 61), .ref (ad 62), .ref (ad 63), .int (nI kn20), .ref (ad 64), .ref (ad 65), .int sd20, .ref (ad 66), .int (nI no20), .ref (ad 67), .int (nI en20), .int (nI at20), .int wr20, .int pl20, .int va20, .int (nI sa20), .ref (ad 68), .ref (ad 69), .ref (ad 70), .ref (ad 71)]) := by rw [eF94]; exact va_up_self _ _ _
          have hW94 := hWl19.up eF94 (ok_m ⟨ty20, kn20, no20, en20, at20, sa20, sd20, wr20, pl20, va20, rfl, by omega, by omega, by omega, by omega, by omega, by omega⟩)
          have hFr94 := hFl19.up eF94 (by simp <;> first | omega | (simp only [isC, isJ] at *; omega))
          obtain ⟨v95, e95⟩ : ∃ y : Int32, y = x19_4 + Int32.ofInt (1) := ⟨_, rfl⟩
          refine lv_iinc (v := v95) (lv' := [(4, .int v95), (3, .int r4), (0, .ref (ad 58)), (1, .int p1), (2, .int p2)]) S.1 S.2.1 dX8_number_109 hl19 (k := 0) rfl e95.symm (by decide) rfl (fun ls95 hl95 => ?_)
          refine lv_aload_n S.1 S.2.1 dX8_number_112 rfl (lv_at hl95 2 rfl) ?_
          refine lv_dup S.1 S.2.1 dX8_number_113 rfl ?_
          refine r_get S hK hP94 58 (by decide) hF94 (C := RX8) (T := TX8) (N := 23) hiX8 rfl 14 (by decide) (by decide +kernel) (v := .int (nI at20)) rfl dX8_number_114 ?_
          refine lv_iconst (v := (nI 1)) S.1 S.2.1 dX8_number_117 (by decide +kernel) ?_
          refine lv_iadd S.1 S.2.1 dX8_number_118 ?_
          refine lv_topi (fun v96 e96 => ?_)
          obtain rfl : v96 = nI (at20 + 1) := e96.trans (nI_add _ _)
          refine r_put S hI hK hP94 hS94 58 (by decide) hF94 (C := RX8) (T := TX8) (N := 23) hiX8 tyX8_ok nmX8 rfl 14 (by decide) (by decide +kernel) rfl rfl rfl (Nat.le_of_ble_eq_true rfl) dX8_number_119 (fun F97 H97 locs97 eF97 hP97 hS97 => ?_)
          have hF97 : F97 58 = .inr (8, [.ref (ad 59), .int (nI ty20), .ref (ad 60), .ref (ad 61), .ref (ad 62), .ref (ad 63), .int (nI kn20), .ref (ad 64), .ref (ad 65), .int sd20, .ref (ad 66), .int (nI no20), .ref (ad 67), .int (nI en20), .int (nI (at20 + 1)), .int wr20, .int pl20, .int va20, .int (nI sa20), .ref (ad 68), .ref (ad 69), .ref (ad 70), .ref (ad 71)]) := by rw [eF97]; exact va_up_self _ _ _
          have hW97 := hW94.up eF97 (ok_m ⟨ty20, kn20, no20, en20, at20 + 1, sa20, sd20, wr20, pl20, va20, rfl, by omega, by omega, by omega, by omega, by omega, by omega⟩)
          have hFr97 := hFr94.up eF97 (by simp <;> first | omega | (simp only [isC, isJ] at *; omega))
          refine lv_goto (tgt := 42) S.1 S.2.1 dX8_number_122 (by decide) ?_
          have hA98 := fN_of (k := 14) (a := at20 + 1) hF97 rfl (by omega)
          have hL98 := fN_of (k := 1) (a := ty20) hF97 rfl (by omega)
          exact ih19 (v95) F97 H97 locs97 (by omega) (by omega) hW97 hFr97 hP97 hS97 ls95 (lv_sub hl95 [0, 1, 2, 3, 4] rfl)
        have k99 := ci_nle (nI_toInt (n := 4) (by omega)) rfl c92
        refine lv_bipush (v := (nI 10)) S.1 S.2.1 dX8_number_79 (by decide +kernel) ?_
        refine lv_aload_n S.1 S.2.1 dX8_number_81 rfl (lv_at hl19 2 rfl) ?_
        refine r_get S hK hPl19 58 (by decide) hF20 (C := RX8) (T := TX8) (N := 23) hiX8 rfl 17 (by decide) (by decide +kernel) (v := .int va20) rfl dX8_number_82 ?_
        refine lv_imul S.1 S.2.1 dX8_number_85 ?_
        refine lv_topi (fun v100 e100 => ?_)
        refine lv_aload_n S.1 S.2.1 dX8_number_86 rfl (lv_at hl19 2 rfl) ?_
        refine r_get S hK hPl19 58 (by decide) hF20 (C := RX8) (T := TX8) (N := 23) hiX8 rfl 0 (by decide) (by decide +kernel) (v := .ref (ad 59)) rfl dX8_number_87 ?_
        refine lv_aload_n S.1 S.2.1 dX8_number_90 rfl (lv_at hl19 2 rfl) ?_
        refine r_get S hK hPl19 58 (by decide) hF20 (C := RX8) (T := TX8) (N := 23) hiX8 rfl 14 (by decide) (by decide +kernel) (v := .int (nI at20)) rfl dX8_number_91 ?_
        refine r_iald S hK hPl19 59 (by decide) hF53 (vp_in_nI (show at20 < 240 by omega) (by omega)) dX8_number_94 ?_
        refine lv_topi (fun v102 e102 => ?_)
        refine lv_iadd S.1 S.2.1 dX8_number_95 ?_
        refine lv_topi (fun v103 e103 => ?_)
        refine lv_bipush (v := (nI 48)) S.1 S.2.1 dX8_number_96 (by decide +kernel) ?_
        refine lv_isub S.1 S.2.1 dX8_number_98 ?_
        refine lv_topi (fun v104 e104 => ?_)
        refine lv_goto (tgt := 106) S.1 S.2.1 dX8_number_99 (by decide) ?_
        refine r_put S hI hK hPl19 hSl19 58 (by decide) hF20 (C := RX8) (T := TX8) (N := 23) hiX8 tyX8_ok nmX8 rfl 17 (by decide) (by decide +kernel) rfl rfl rfl (Nat.le_of_ble_eq_true rfl) dX8_number_106 (fun F105 H105 locs105 eF105 hP105 hS105 => ?_)
        have hF105 : F105 58 = .inr (8, [.ref (ad 59), .int (nI ty20), .ref (ad 60), .ref (ad 61), .ref (ad 62), .ref (ad 63), .int (nI kn20), .ref (ad 64), .ref (ad 65), .int sd20, .ref (ad 66), .int (nI no20), .ref (ad 67), .int (nI en20), .int (nI at20), .int wr20, .int pl20, .int v104, .int (nI sa20), .ref (ad 68), .ref (ad 69), .ref (ad 70), .ref (ad 71)]) := by rw [eF105]; exact va_up_self _ _ _
        have hW105 := hWl19.up eF105 (ok_m ⟨ty20, kn20, no20, en20, at20, sa20, sd20, wr20, pl20, v104, rfl, by omega, by omega, by omega, by omega, by omega, by omega⟩)
        have hFr105 := hFl19.up eF105 (by simp <;> first | omega | (simp only [isC, isJ] at *; omega))
        obtain ⟨v106, e106⟩ : ∃ y : Int32, y = x19_4 + Int32.ofInt (1) := ⟨_, rfl⟩
        refine lv_iinc (v := v106) (lv' := [(4, .int v106), (3, .int r4), (0, .ref (ad 58)), (1, .int p1), (2, .int p2)]) S.1 S.2.1 dX8_number_109 hl19 (k := 0) rfl e106.symm (by decide) rfl (fun ls106 hl106 => ?_)
        refine lv_aload_n S.1 S.2.1 dX8_number_112 rfl (lv_at hl106 2 rfl) ?_
        refine lv_dup S.1 S.2.1 dX8_number_113 rfl ?_
        refine r_get S hK hP105 58 (by decide) hF105 (C := RX8) (T := TX8) (N := 23) hiX8 rfl 14 (by decide) (by decide +kernel) (v := .int (nI at20)) rfl dX8_number_114 ?_
        refine lv_iconst (v := (nI 1)) S.1 S.2.1 dX8_number_117 (by decide +kernel) ?_
        refine lv_iadd S.1 S.2.1 dX8_number_118 ?_
        refine lv_topi (fun v107 e107 => ?_)
        obtain rfl : v107 = nI (at20 + 1) := e107.trans (nI_add _ _)
        refine r_put S hI hK hP105 hS105 58 (by decide) hF105 (C := RX8) (T := TX8) (N := 23) hiX8 tyX8_ok nmX8 rfl 14 (by decide) (by decide +kernel) rfl rfl rfl (Nat.le_of_ble_eq_true rfl) dX8_number_119 (fun F108 H108 locs108 eF108 hP108 hS108 => ?_)
        have hF108 : F108 58 = .inr (8, [.ref (ad 59), .int (nI ty20), .ref (ad 60), .ref (ad 61), .ref (ad 62), .ref (ad 63), .int (nI kn20), .ref (ad 64), .ref (ad 65), .int sd20, .ref (ad 66), .int (nI no20), .ref (ad 67), .int (nI en20), .int (nI (at20 + 1)), .int wr20, .int pl20, .int v104, .int (nI sa20), .ref (ad 68), .ref (ad 69), .ref (ad 70), .ref (ad 71)]) := by rw [eF108]; exact va_up_self _ _ _
        have hW108 := hW105.up eF108 (ok_m ⟨ty20, kn20, no20, en20, at20 + 1, sa20, sd20, wr20, pl20, v104, rfl, by omega, by omega, by omega, by omega, by omega, by omega⟩)
        have hFr108 := hFr105.up eF108 (by simp <;> first | omega | (simp only [isC, isJ] at *; omega))
        refine lv_goto (tgt := 42) S.1 S.2.1 dX8_number_122 (by decide) ?_
        have hA109 := fN_of (k := 14) (a := at20 + 1) hF108 rfl (by omega)
        have hL109 := fN_of (k := 1) (a := ty20) hF108 rfl (by omega)
        exact ih19 (v106) F108 H108 locs108 (by omega) (by omega) hW108 hFr108 hP108 hS108 ls106 (lv_sub hl106 [0, 1, 2, 3, 4] rfl)
    have hA110 := fN_of (k := 14) (a := at6) hF18 rfl (by omega)
    have hL110 := fN_of (k := 1) (a := ty6) hF18 rfl (by omega)
    exact lp19 (240 - fN (F18 58) 14 + 1) ((nI 0)) F18 H18 locs18 (by omega) (by omega) hW18 hFr18 hP18 hS18 ls17 (lv_sub hl17 [0, 1, 2, 3, 4] rfl)
  have k111 := ci_eq (nI_toInt (n := b11) (by omega)) z_ti c15
  refine lv_aload_n S.1 S.2.1 dX8_number_24 rfl (lv_at hl8 1 rfl) ?_
  refine lv_iconst (v := (nI 1)) S.1 S.2.1 dX8_number_25 (by decide +kernel) ?_
  refine lv_aload_n S.1 S.2.1 dX8_number_26 rfl (lv_at hl8 1 rfl) ?_
  refine r_get S hK hP9 58 (by decide) hF9 (C := RX8) (T := TX8) (N := 23) hiX8 rfl 14 (by decide) (by decide +kernel) (v := .int (nI at6)) rfl dX8_number_27 ?_
  have hA112 := fN_of (k := 14) (a := at6) hF9 rfl (by omega)
  have hL112 := fN_of (k := 1) (a := ty6) hF9 rfl (by omega)
  refine r_cVi (As := [.int (nI 1), .int (nI at6)]) (rest := []) S hK hZ hP9 hS9 hl8.1 58 (by decide) hF9 (C := RX8) rfl (c_X8_isWrong l D cA ad t hI F9 hW9 (nI 1) (at6) (by omega)) (cwV 2 S.2.2.2.2 gX8_number_X8_isWrong rfl rfl rfl (by decide +kernel) ⟨Nat.le_of_ble_eq_true rfl, Nat.le_of_ble_eq_true rfl⟩) rfl rfl (Nat.le_of_ble_eq_true rfl) ⟨Nat.zero_le _, Nat.zero_le _⟩ dX8_number_30 (fun r113 F113 H113 locs113 hr113 hP113 hS113 => ?_)
  obtain ⟨hW113, hFc113, hr113⟩ := hr113
  have hFr113 := hFr9.tr hFc113 (by simp <;> first | omega | (simp only [isC, isJ] at *; omega))
  obtain ⟨rfl, hz114⟩ := hr113
  obtain ⟨ty115, kn115, no115, en115, at115, sa115, sd115, wr115, pl115, va115, hF115, hb115_1, hb115_2, hb115_3, hb115_4, hb115_5, hb115_6⟩ := wt_m hW113
  have hA116 := fN_of (k := 14) (a := at115) hF115 rfl (by omega)
  have hL116 := fN_of (k := 1) (a := ty115) hF115 rfl (by omega)
  have hA117 := fN_of (k := 14) (a := at115) hF115 rfl (by omega)
  have hL117 := fN_of (k := 1) (a := ty115) hF115 rfl (by omega)
  exact hret 33 _ _ _ _ _ dX8_number_33 rfl hP113 hS113 ⟨hW113, hFr113, ⟨⟨0, by omega, rfl⟩, by omega, fun h => absurd rfl h, fun h => absurd rfl h⟩⟩
set_option maxHeartbeats 4000000 in
set_option maxRecDepth 100000 in
theorem c_X8_ends (l : Launch) (D : va_G) (cA ad : Nat → Nat) (t : Nat) (hI : rI ad) (F : Nat → va_E) (hW : WT cA ad F) : MI l D cA ad t yX8_ends wsX8_ends { frames := 1, cells := 0, slots := 0, locals := 22 } [.ref (ad 58)] F (fun r F' => WT cA ad F' ∧ rFr [58] F F' ∧ (le32 1 r ∧ fN (F' 58) 1 = fN (F 58) 1 ∧ (r ≠ 0 → fN (F 58) 14 ≤ fN (F' 58) 14))) := by
  refine en_I rfl (by decide +kernel) (Nat.le_of_ble_eq_true rfl) ?_
  intro p e s m args below meth c ls0 Q S hK hZ hP hS hl0 hret
  have hl0 : lv_has ls0 1 [(0, .ref (ad 58))] := hl0
  have hFr : rFr [58] F F := rFr.rf
  have hiX8 : ∀ w ∈ u_ws RX8 TX8 23, w ∈ wsX8_ends := by decide +kernel
  obtain ⟨ty1, kn1, no1, en1, at1, sa1, sd1, wr1, pl1, va1, hF1, hb1_1, hb1_2, hb1_3, hb1_4, hb1_5, hb1_6⟩ := wt_m hW
  have hA2 := fN_of (k := 14) (a := at1) hF1 rfl (by omega)
  have hL2 := fN_of (k := 1) (a := ty1) hF1 rfl (by omega)
  refine lv_aload_n S.1 S.2.1 dX8_ends_0 rfl (lv_at hl0 0 rfl) ?_
  have hA3 := fN_of (k := 14) (a := at1) hF1 rfl (by omega)
  have hL3 := fN_of (k := 1) (a := ty1) hF1 rfl (by omega)
  refine r_cVi (As := []) (rest := []) S hK hZ hP hS hl0.1 58 (by decide) hF1 (C := RX8) rfl (c_X8_letter l D cA ad t hI F hW ) (cwV 0 S.2.2.2.2 gX8_ends_X8_letter rfl rfl rfl (by decide +kernel) ⟨Nat.le_of_ble_eq_true rfl, Nat.le_of_ble_eq_true rfl⟩) rfl rfl (Nat.le_of_ble_eq_true rfl) ⟨Nat.zero_le _, Nat.zero_le _⟩ dX8_ends_1 (fun r4 F4 H4 locs4 hr4 hP4 hS4 => ?_)
  obtain ⟨hW4, hFc4, hr4⟩ := hr4
  have hFr4 := hFr.tr hFc4 (by simp <;> first | omega | (simp only [isC, isJ] at *; omega))
  obtain ⟨hx5, hy5, hz5⟩ := hr4
  obtain ⟨ty6, kn6, no6, en6, at6, sa6, sd6, wr6, pl6, va6, hF6, hb6_1, hb6_2, hb6_3, hb6_4, hb6_5, hb6_6⟩ := wt_m hW4
  have hA7 := fN_of (k := 14) (a := at6) hF6 rfl (by omega)
  have hL7 := fN_of (k := 1) (a := ty6) hF6 rfl (by omega)
  refine lv_bipush (v := (nI 59)) S.1 S.2.1 dX8_ends_4 (by decide +kernel) ?_
  refine lv_icmp_eq (tgt := 19) S.1 S.2.1 dX8_ends_6 (by decide) (fun c8 => ?_) (fun c8 => ?_)
  · skip
    have k9 := ci_eq rfl (nI_toInt (n := 59) (by omega)) c8
    refine lv_aload_n S.1 S.2.1 dX8_ends_19 rfl (lv_at hl0 0 rfl) ?_
    refine lv_dup S.1 S.2.1 dX8_ends_20 rfl ?_
    refine r_get S hK hP4 58 (by decide) hF6 (C := RX8) (T := TX8) (N := 23) hiX8 rfl 14 (by decide) (by decide +kernel) (v := .int (nI at6)) rfl dX8_ends_21 ?_
    refine lv_iconst (v := (nI 1)) S.1 S.2.1 dX8_ends_24 (by decide +kernel) ?_
    refine lv_iadd S.1 S.2.1 dX8_ends_25 ?_
    refine lv_topi (fun v10 e10 => ?_)
    obtain rfl : v10 = nI (at6 + 1) := e10.trans (nI_add _ _)
    refine r_put S hI hK hP4 hS4 58 (by decide) hF6 (C := RX8) (T := TX8) (N := 23) hiX8 tyX8_ok nmX8 rfl 14 (by decide) (by decide +kernel) rfl rfl rfl (Nat.le_of_ble_eq_true rfl) dX8_ends_26 (fun F11 H11 locs11 eF11 hP11 hS11 => ?_)
    have hF11 : F11 58 = .inr (8, [.ref (ad 59), .int (nI ty6), .ref (ad 60), .ref (ad 61), .ref (ad 62), .ref (ad 63), .int (nI kn6), .ref (ad 64), .ref (ad 65), .int sd6, .ref (ad 66), .int (nI no6), .ref (ad 67), .int (nI en6), .int (nI (at6 + 1)), .int wr6, .int pl6, .int va6, .int (nI sa6), .ref (ad 68), .ref (ad 69), .ref (ad 70), .ref (ad 71)]) := by rw [eF11]; exact va_up_self _ _ _
    have hW11 := hW4.up eF11 (ok_m ⟨ty6, kn6, no6, en6, at6 + 1, sa6, sd6, wr6, pl6, va6, rfl, by omega, by omega, by omega, by omega, by omega, by omega⟩)
    have hFr11 := hFr4.up eF11 (by simp <;> first | omega | (simp only [isC, isJ] at *; omega))
    refine lv_iconst (v := (nI 1)) S.1 S.2.1 dX8_ends_29 (by decide +kernel) ?_
    have hA12 := fN_of (k := 14) (a := at6 + 1) hF11 rfl (by omega)
    have hL12 := fN_of (k := 1) (a := ty6) hF11 rfl (by omega)
    exact hret 30 _ _ _ _ _ dX8_ends_30 rfl hP11 hS11 ⟨hW11, hFr11, ⟨⟨1, by omega, rfl⟩, by omega, fun _ => by omega⟩⟩
  have k13 := ci_ne rfl (nI_toInt (n := 59) (by omega)) c8
  refine lv_aload_n S.1 S.2.1 dX8_ends_9 rfl (lv_at hl0 0 rfl) ?_
  refine lv_iconst (v := (nI 1)) S.1 S.2.1 dX8_ends_10 (by decide +kernel) ?_
  refine lv_aload_n S.1 S.2.1 dX8_ends_11 rfl (lv_at hl0 0 rfl) ?_
  refine r_get S hK hP4 58 (by decide) hF6 (C := RX8) (T := TX8) (N := 23) hiX8 rfl 14 (by decide) (by decide +kernel) (v := .int (nI at6)) rfl dX8_ends_12 ?_
  have hA14 := fN_of (k := 14) (a := at6) hF6 rfl (by omega)
  have hL14 := fN_of (k := 1) (a := ty6) hF6 rfl (by omega)
  refine r_cVi (As := [.int (nI 1), .int (nI at6)]) (rest := []) S hK hZ hP4 hS4 hl0.1 58 (by decide) hF6 (C := RX8) rfl (c_X8_isWrong l D cA ad t hI F4 hW4 (nI 1) (at6) (by omega)) (cwV 2 S.2.2.2.2 gX8_ends_X8_isWrong rfl rfl rfl (by decide +kernel) ⟨Nat.le_of_ble_eq_true rfl, Nat.le_of_ble_eq_true rfl⟩) rfl rfl (Nat.le_of_ble_eq_true rfl) ⟨Nat.zero_le _, Nat.zero_le _⟩ dX8_ends_15 (fun r15 F15 H15 locs15 hr15 hP15 hS15 => ?_)
  obtain ⟨hW15, hFc15, hr15⟩ := hr15
  have hFr15 := hFr4.tr hFc15 (by simp <;> first | omega | (simp only [isC, isJ] at *; omega))
  obtain ⟨rfl, hz16⟩ := hr15
  obtain ⟨ty17, kn17, no17, en17, at17, sa17, sd17, wr17, pl17, va17, hF17, hb17_1, hb17_2, hb17_3, hb17_4, hb17_5, hb17_6⟩ := wt_m hW15
  have hA18 := fN_of (k := 14) (a := at17) hF17 rfl (by omega)
  have hL18 := fN_of (k := 1) (a := ty17) hF17 rfl (by omega)
  have hA19 := fN_of (k := 14) (a := at17) hF17 rfl (by omega)
  have hL19 := fN_of (k := 1) (a := ty17) hF17 rfl (by omega)
  exact hret 18 _ _ _ _ _ dX8_ends_18 rfl hP15 hS15 ⟨hW15, hFr15, ⟨⟨0, by omega, rfl⟩, by omega, fun h => absurd rfl h⟩⟩
set_option maxHeartbeats 4000000 in
set_option maxRecDepth 100000 in
theorem c_X8_readsStay (l : Launch) (D : va_G) (cA ad : Nat → Nat) (t : Nat) (hI : rI ad) (F : Nat → va_E) (hW : WT cA ad F) : MI l D cA ad t yX8_readsStay wsX8_readsStay { frames := 2, cells := 0, slots := 0, locals := 46 } [.ref (ad 58)] F (fun r F' => WT cA ad F' ∧ rFr [58, 61] F F' ∧ (le32 1 r ∧ fN (F' 58) 1 = fN (F 58) 1 ∧ (r ≠ 0 → fN (F 58) 14 ≤ fN (F' 58) 14))) := by
  refine en_I rfl (by decide +kernel) (Nat.le_of_ble_eq_true rfl) ?_
  intro p e s m args below meth c ls0 Q S hK hZ hP hS hl0 hret
  have hl0 : lv_has ls0 1 [(0, .ref (ad 58))] := hl0
  have hFr : rFr [58, 61] F F := rFr.rf
  have hiX8 : ∀ w ∈ u_ws RX8 TX8 23, w ∈ wsX8_readsStay := by decide +kernel
  obtain ⟨ty1, kn1, no1, en1, at1, sa1, sd1, wr1, pl1, va1, hF1, hb1_1, hb1_2, hb1_3, hb1_4, hb1_5, hb1_6⟩ := wt_m hW
  have hA2 := fN_of (k := 14) (a := at1) hF1 rfl (by omega)
  have hL2 := fN_of (k := 1) (a := ty1) hF1 rfl (by omega)
  refine lv_aload_n S.1 S.2.1 dX8_readsStay_0 rfl (lv_at hl0 0 rfl) ?_
  refine lv_iconst (v := (nI 1)) S.1 S.2.1 dX8_readsStay_1 (by decide +kernel) ?_
  refine lv_iconst (v := (nI 4)) S.1 S.2.1 dX8_readsStay_2 (by decide +kernel) ?_
  have hA3 := fN_of (k := 14) (a := at1) hF1 rfl (by omega)
  have hL3 := fN_of (k := 1) (a := ty1) hF1 rfl (by omega)
  refine r_cVi (As := [.int (nI 1), .int (nI 4)]) (rest := []) S hK hZ hP hS hl0.1 58 (by decide) hF1 (C := RX8) rfl (c_X8_number l D cA ad t hI F hW (nI 1) (nI 4)) (cwV 2 S.2.2.2.2 gX8_readsStay_X8_number rfl rfl rfl (by decide +kernel) ⟨Nat.le_of_ble_eq_true rfl, Nat.le_of_ble_eq_true rfl⟩) rfl rfl (Nat.le_of_ble_eq_true rfl) ⟨Nat.zero_le _, Nat.zero_le _⟩ dX8_readsStay_3 (fun r4 F4 H4 locs4 hr4 hP4 hS4 => ?_)
  obtain ⟨hW4, hFc4, hr4⟩ := hr4
  have hFr4 := hFr.tr hFc4 (by simp <;> first | omega | (simp only [isC, isJ] at *; omega))
  obtain ⟨⟨b5, hb5, rfl⟩, hz5, hx5, hv5⟩ := hr4
  obtain ⟨ty6, kn6, no6, en6, at6, sa6, sd6, wr6, pl6, va6, hF6, hb6_1, hb6_2, hb6_3, hb6_4, hb6_5, hb6_6⟩ := wt_m hW4
  have hA7 := fN_of (k := 14) (a := at6) hF6 rfl (by omega)
  have hL7 := fN_of (k := 1) (a := ty6) hF6 rfl (by omega)
  have ta8 : ((nI 1) : Int32).toInt = ((1 : Nat) : Int) := (nI_toInt (n := 1) (by omega))
  have ta9 : ((nI 4) : Int32).toInt = ((4 : Nat) : Int) := (nI_toInt (n := 4) (by omega))
  have hy5 : b5 ≠ 0 → _ := fun q => hx5 (nI_ne0 (by omega) (by omega))
  have hw5 : b5 ≠ 0 → ((1 : Nat) : Int) ≤ va6.toInt ∧ va6.toInt ≤ ((4 : Nat) : Int) := fun q => by have h9 := hv5 (nI_ne0 (by omega) (by omega)); rw [show fI (F4 58) 17 = va6 by unfold fI; rw [hF6]; rfl] at h9; omega
  refine lv_if_ne (tgt := 11) S.1 S.2.1 dX8_readsStay_6 (by decide) (fun c10 => ?_) (fun c10 => ?_)
  · skip
    have k11 := ci_ne (nI_toInt (n := b5) (by omega)) z_ti c10
    refine lv_aload_n S.1 S.2.1 dX8_readsStay_11 rfl (lv_at hl0 0 rfl) ?_
    refine r_get S hK hP4 58 (by decide) hF6 (C := RX8) (T := TX8) (N := 23) hiX8 rfl 3 (by decide) (by decide +kernel) (v := .ref (ad 61)) rfl dX8_readsStay_12 ?_
    refine lv_iconst (v := (nI 0)) S.1 S.2.1 dX8_readsStay_15 (by decide +kernel) ?_
    refine lv_aload_n S.1 S.2.1 dX8_readsStay_16 rfl (lv_at hl0 0 rfl) ?_
    refine r_get S hK hP4 58 (by decide) hF6 (C := RX8) (T := TX8) (N := 23) hiX8 rfl 17 (by decide) (by decide +kernel) (v := .int va6) rfl dX8_readsStay_17 ?_
    obtain ⟨g12, hF12, hg12⟩ := wt_I hW4 (show (61, 52) ∈ rLI by decide)
    refine r_iast S hI hK hP4 hS4 61 (by decide) hF12 (vp_in_nI (show 0 < 52 by omega) (by omega)) dX8_readsStay_20 (fun F13 H13 locs13 eF13 hP13 hS13 => ?_)
    have hW13 := hW4.up eF13 (ok_I (show (61, 52) ∈ rLI by decide) (okI_up hg12 (by rw [nI_clamp (by omega)]; exact to_T (by decide) (okT_0 (nI_of_le (by omega) (by omega))))))
    have hFr13 := hFr4.up eF13 (by simp <;> first | omega | (simp only [isC, isJ] at *; omega))
    obtain ⟨gg13, eg13⟩ : ∃ g9, g9 = upd g12 (nI 0).toNatClampNeg va6 := ⟨_, rfl⟩
    have hF13 : F13 61 = .inl (cA 0, 52, .inl gg13) := by rw [eF13, eg13]; exact va_up_self _ _ _
    have hg13 : ∀ j, j < 52 → rPr 61 j (gg13 j) := by rw [eg13]; exact pr_up hg12 (by rw [nI_clamp (by omega)]; exact to_T (by decide) (okT_0 (nI_of_le (by omega) (by omega))))
    refine lv_aload_n S.1 S.2.1 dX8_readsStay_21 rfl (lv_at hl0 0 rfl) ?_
    refine lv_iconst (v := (nI 0)) S.1 S.2.1 dX8_readsStay_22 (by decide +kernel) ?_
    refine lv_bipush (v := (nI 11)) S.1 S.2.1 dX8_readsStay_23 (by decide +kernel) ?_
    have hF14 := (show F13 58 = F4 58 by rw [eF13]; exact va_up_ne _ _ (by decide)).trans hF6
    have hA15 := fN_of (k := 14) (a := at6) hF14 rfl (by omega)
    have hL15 := fN_of (k := 1) (a := ty6) hF14 rfl (by omega)
    refine r_cVi (As := [.int (nI 0), .int (nI 11)]) (rest := []) S hK hZ hP13 hS13 hl0.1 58 (by decide) hF14 (C := RX8) rfl (c_X8_number l D cA ad t hI F13 hW13 (nI 0) (nI 11)) (cwV 2 S.2.2.2.2 gX8_readsStay_X8_number rfl rfl rfl (by decide +kernel) ⟨Nat.le_of_ble_eq_true rfl, Nat.le_of_ble_eq_true rfl⟩) rfl rfl (Nat.le_of_ble_eq_true rfl) ⟨Nat.zero_le _, Nat.zero_le _⟩ dX8_readsStay_25 (fun r16 F16 H16 locs16 hr16 hP16 hS16 => ?_)
    obtain ⟨hW16, hFc16, hr16⟩ := hr16
    have hFr16 := hFr13.tr hFc16 (by simp <;> first | omega | (simp only [isC, isJ] at *; omega))
    obtain ⟨⟨b17, hb17, rfl⟩, hz17, hx17, hv17⟩ := hr16
    obtain ⟨ty18, kn18, no18, en18, at18, sa18, sd18, wr18, pl18, va18, hF18, hb18_1, hb18_2, hb18_3, hb18_4, hb18_5, hb18_6⟩ := wt_m hW16
    have hA19 := fN_of (k := 14) (a := at18) hF18 rfl (by omega)
    have hL19 := fN_of (k := 1) (a := ty18) hF18 rfl (by omega)
    have ta20 : ((nI 0) : Int32).toInt = ((0 : Nat) : Int) := (nI_toInt (n := 0) (by omega))
    have ta21 : ((nI 11) : Int32).toInt = ((11 : Nat) : Int) := (nI_toInt (n := 11) (by omega))
    have hy17 : b17 ≠ 0 → _ := fun q => hx17 (nI_ne0 (by omega) (by omega))
    have hw17 : b17 ≠ 0 → ((0 : Nat) : Int) ≤ va18.toInt ∧ va18.toInt ≤ ((11 : Nat) : Int) := fun q => by have h9 := hv17 (nI_ne0 (by omega) (by omega)); rw [show fI (F16 58) 17 = va18 by unfold fI; rw [hF18]; rfl] at h9; omega
    refine lv_if_ne (tgt := 33) S.1 S.2.1 dX8_readsStay_28 (by decide) (fun c22 => ?_) (fun c22 => ?_)
    · skip
      have k23 := ci_ne (nI_toInt (n := b17) (by omega)) z_ti c22
      refine lv_aload_n S.1 S.2.1 dX8_readsStay_33 rfl (lv_at hl0 0 rfl) ?_
      refine r_get S hK hP16 58 (by decide) hF18 (C := RX8) (T := TX8) (N := 23) hiX8 rfl 3 (by decide) (by decide +kernel) (v := .ref (ad 61)) rfl dX8_readsStay_34 ?_
      refine lv_iconst (v := (nI 1)) S.1 S.2.1 dX8_readsStay_37 (by decide +kernel) ?_
      refine lv_aload_n S.1 S.2.1 dX8_readsStay_38 rfl (lv_at hl0 0 rfl) ?_
      refine r_get S hK hP16 58 (by decide) hF18 (C := RX8) (T := TX8) (N := 23) hiX8 rfl 17 (by decide) (by decide +kernel) (v := .int va18) rfl dX8_readsStay_39 ?_
      have hF24 := (hFc16 61 (by decide)).trans hF13
      refine r_iast S hI hK hP16 hS16 61 (by decide) hF24 (vp_in_nI (show 1 < 52 by omega) (by omega)) dX8_readsStay_42 (fun F25 H25 locs25 eF25 hP25 hS25 => ?_)
      have hW25 := hW16.up eF25 (ok_I (show (61, 52) ∈ rLI by decide) (okI_up hg13 (by rw [nI_clamp (by omega)]; exact to_T (by decide) (okT_o (by decide) (by decide) (by decide)))))
      have hFr25 := hFr16.up eF25 (by simp <;> first | omega | (simp only [isC, isJ] at *; omega))
      obtain ⟨gg25, eg25⟩ : ∃ g9, g9 = upd gg13 (nI 1).toNatClampNeg va18 := ⟨_, rfl⟩
      have hF25 : F25 61 = .inl (cA 0, 52, .inl gg25) := by rw [eF25, eg25]; exact va_up_self _ _ _
      have hg25 : ∀ j, j < 52 → rPr 61 j (gg25 j) := by rw [eg25]; exact pr_up hg13 (by rw [nI_clamp (by omega)]; exact to_T (by decide) (okT_o (by decide) (by decide) (by decide)))
      refine lv_aload_n S.1 S.2.1 dX8_readsStay_43 rfl (lv_at hl0 0 rfl) ?_
      have hF26 := (show F25 58 = F16 58 by rw [eF25]; exact va_up_ne _ _ (by decide)).trans hF18
      have hA27 := fN_of (k := 14) (a := at18) hF26 rfl (by omega)
      have hL27 := fN_of (k := 1) (a := ty18) hF26 rfl (by omega)
      refine r_cVi (As := []) (rest := []) S hK hZ hP25 hS25 hl0.1 58 (by decide) hF26 (C := RX8) rfl (c_X8_ends l D cA ad t hI F25 hW25 ) (cwV 0 S.2.2.2.2 gX8_readsStay_X8_ends rfl rfl rfl (by decide +kernel) ⟨Nat.le_of_ble_eq_true rfl, Nat.le_of_ble_eq_true rfl⟩) rfl rfl (Nat.le_of_ble_eq_true rfl) ⟨Nat.zero_le _, Nat.zero_le _⟩ dX8_readsStay_44 (fun r28 F28 H28 locs28 hr28 hP28 hS28 => ?_)
      obtain ⟨hW28, hFc28, hr28⟩ := hr28
      have hFr28 := hFr25.tr hFc28 (by simp <;> first | omega | (simp only [isC, isJ] at *; omega))
      obtain ⟨⟨b29, hb29, rfl⟩, hz29, hx29⟩ := hr28
      obtain ⟨ty30, kn30, no30, en30, at30, sa30, sd30, wr30, pl30, va30, hF30, hb30_1, hb30_2, hb30_3, hb30_4, hb30_5, hb30_6⟩ := wt_m hW28
      have hA31 := fN_of (k := 14) (a := at30) hF30 rfl (by omega)
      have hL31 := fN_of (k := 1) (a := ty30) hF30 rfl (by omega)
      have hy29 : b29 ≠ 0 → _ := fun q => hx29 (nI_ne0 (by omega) (by omega))
      have hA32 := fN_of (k := 14) (a := at30) hF30 rfl (by omega)
      have hL32 := fN_of (k := 1) (a := ty30) hF30 rfl (by omega)
      exact hret 47 _ _ _ _ _ dX8_readsStay_47 (nar_bool (by omega)) hP28 hS28 ⟨hW28, hFr28, ⟨⟨b29, by omega, rfl⟩, by omega, fun h => by have hb9 : b29 ≠ 0 := fun q => h (by rw [q]; rfl); omega⟩⟩
    have k33 := ci_eq (nI_toInt (n := b17) (by omega)) z_ti c22
    refine lv_iconst (v := (nI 0)) S.1 S.2.1 dX8_readsStay_31 (by decide +kernel) ?_
    have hA34 := fN_of (k := 14) (a := at18) hF18 rfl (by omega)
    have hL34 := fN_of (k := 1) (a := ty18) hF18 rfl (by omega)
    exact hret 32 _ _ _ _ _ dX8_readsStay_32 rfl hP16 hS16 ⟨hW16, hFr16, ⟨⟨0, by omega, rfl⟩, by omega, fun h => absurd rfl h⟩⟩
  have k35 := ci_eq (nI_toInt (n := b5) (by omega)) z_ti c10
  refine lv_iconst (v := (nI 0)) S.1 S.2.1 dX8_readsStay_9 (by decide +kernel) ?_
  have hA36 := fN_of (k := 14) (a := at6) hF6 rfl (by omega)
  have hL36 := fN_of (k := 1) (a := ty6) hF6 rfl (by omega)
  exact hret 10 _ _ _ _ _ dX8_readsStay_10 rfl hP4 hS4 ⟨hW4, hFr4, ⟨⟨0, by omega, rfl⟩, by omega, fun h => absurd rfl h⟩⟩
set_option maxHeartbeats 4000000 in
set_option maxRecDepth 100000 in
theorem c_X8_readsTown (l : Launch) (D : va_G) (cA ad : Nat → Nat) (t : Nat) (hI : rI ad) (F : Nat → va_E) (hW : WT cA ad F) (hT : aN (F 61) 2 < 8) : MI l D cA ad t yX8_readsTown wsX8_readsTown { frames := 2, cells := 0, slots := 0, locals := 46 } [.ref (ad 58)] F (fun r F' => WT cA ad F' ∧ rFr [58, 61] F F' ∧ (le32 1 r ∧ fN (F' 58) 1 = fN (F 58) 1 ∧ (r ≠ 0 → fN (F 58) 14 ≤ fN (F' 58) 14))) := by
  refine en_I rfl (by decide +kernel) (Nat.le_of_ble_eq_true rfl) ?_
  intro p e s m args below meth c ls0 Q S hK hZ hP hS hl0 hret
  have hl0 : lv_has ls0 2 [(0, .ref (ad 58))] := hl0
  have hFr : rFr [58, 61] F F := rFr.rf
  have hiX8 : ∀ w ∈ u_ws RX8 TX8 23, w ∈ wsX8_readsTown := by decide +kernel
  obtain ⟨ty1, kn1, no1, en1, at1, sa1, sd1, wr1, pl1, va1, hF1, hb1_1, hb1_2, hb1_3, hb1_4, hb1_5, hb1_6⟩ := wt_m hW
  have hA2 := fN_of (k := 14) (a := at1) hF1 rfl (by omega)
  have hL2 := fN_of (k := 1) (a := ty1) hF1 rfl (by omega)
  obtain ⟨g3, hF3, hg3⟩ := wt_I hW (show (61, 52) ∈ rLI by decide)
  obtain ⟨b4, hb4, he4⟩ := (pr_T (by decide) (hg3 2 (by decide))).2.1 rfl
  have hN5 := aN_of (j := 2) hF3 he4 (by omega)
  refine lv_aload_n S.1 S.2.1 dX8_readsTown_0 rfl (lv_at hl0 0 rfl) ?_
  refine r_get S hK hP 58 (by decide) hF1 (C := RX8) (T := TX8) (N := 23) hiX8 rfl 3 (by decide) (by decide +kernel) (v := .ref (ad 61)) rfl dX8_readsTown_1 ?_
  refine lv_iconst (v := (nI 2)) S.1 S.2.1 dX8_readsTown_4 (by decide +kernel) ?_
  refine r_iald S hK hP 61 (by decide) hF3 (vp_in_nI (show 2 < 52 by omega) (by omega)) dX8_readsTown_5 ?_
  refine lv_topi (fun v7 e7 => ?_)
  obtain rfl : v7 = nI b4 := e7.trans he4
  refine lv_istore_n (lv' := [(1, .int (nI b4)), (0, .ref (ad 58))]) S.1 S.2.1 dX8_readsTown_6 rfl hl0 (by decide) rfl (fun ls8 hl8 => ?_)
  refine lv_aload_n S.1 S.2.1 dX8_readsTown_7 rfl (lv_at hl8 1 rfl) ?_
  refine lv_iconst (v := (nI 0)) S.1 S.2.1 dX8_readsTown_8 (by decide +kernel) ?_
  refine lv_sipush (v := (nI 999)) S.1 S.2.1 dX8_readsTown_9 (by decide +kernel) ?_
  have hA9 := fN_of (k := 14) (a := at1) hF1 rfl (by omega)
  have hL9 := fN_of (k := 1) (a := ty1) hF1 rfl (by omega)
  refine r_cVi (As := [.int (nI 0), .int (nI 999)]) (rest := []) S hK hZ hP hS hl8.1 58 (by decide) hF1 (C := RX8) rfl (c_X8_number l D cA ad t hI F hW (nI 0) (nI 999)) (cwV 2 S.2.2.2.2 gX8_readsTown_X8_number rfl rfl rfl (by decide +kernel) ⟨Nat.le_of_ble_eq_true rfl, Nat.le_of_ble_eq_true rfl⟩) rfl rfl (Nat.le_of_ble_eq_true rfl) ⟨Nat.zero_le _, Nat.zero_le _⟩ dX8_readsTown_12 (fun r10 F10 H10 locs10 hr10 hP10 hS10 => ?_)
  obtain ⟨hW10, hFc10, hr10⟩ := hr10
  have hFr10 := hFr.tr hFc10 (by simp <;> first | omega | (simp only [isC, isJ] at *; omega))
  obtain ⟨⟨b11, hb11, rfl⟩, hz11, hx11, hv11⟩ := hr10
  obtain ⟨ty12, kn12, no12, en12, at12, sa12, sd12, wr12, pl12, va12, hF12, hb12_1, hb12_2, hb12_3, hb12_4, hb12_5, hb12_6⟩ := wt_m hW10
  have hA13 := fN_of (k := 14) (a := at12) hF12 rfl (by omega)
  have hL13 := fN_of (k := 1) (a := ty12) hF12 rfl (by omega)
  have ta14 : ((nI 0) : Int32).toInt = ((0 : Nat) : Int) := (nI_toInt (n := 0) (by omega))
  have ta15 : ((nI 999) : Int32).toInt = ((999 : Nat) : Int) := (nI_toInt (n := 999) (by omega))
  have hy11 : b11 ≠ 0 → _ := fun q => hx11 (nI_ne0 (by omega) (by omega))
  have hw11 : b11 ≠ 0 → ((0 : Nat) : Int) ≤ va12.toInt ∧ va12.toInt ≤ ((999 : Nat) : Int) := fun q => by have h9 := hv11 (nI_ne0 (by omega) (by omega)); rw [show fI (F10 58) 17 = va12 by unfold fI; rw [hF12]; rfl] at h9; omega
  refine lv_if_ne (tgt := 20) S.1 S.2.1 dX8_readsTown_15 (by decide) (fun c16 => ?_) (fun c16 => ?_)
  · skip
    have k17 := ci_ne (nI_toInt (n := b11) (by omega)) z_ti c16
    refine lv_aload_n S.1 S.2.1 dX8_readsTown_20 rfl (lv_at hl8 1 rfl) ?_
    refine r_get S hK hP10 58 (by decide) hF12 (C := RX8) (T := TX8) (N := 23) hiX8 rfl 3 (by decide) (by decide +kernel) (v := .ref (ad 61)) rfl dX8_readsTown_21 ?_
    refine lv_iconst (v := (nI 4)) S.1 S.2.1 dX8_readsTown_24 (by decide +kernel) ?_
    refine lv_iload_n S.1 S.2.1 dX8_readsTown_25 rfl (lv_at hl8 0 rfl) ?_
    refine lv_iadd S.1 S.2.1 dX8_readsTown_26 ?_
    refine lv_topi (fun v18 e18 => ?_)
    obtain rfl : v18 = nI (4 + b4) := e18.trans (nI_add _ _)
    refine lv_aload_n S.1 S.2.1 dX8_readsTown_27 rfl (lv_at hl8 1 rfl) ?_
    refine r_get S hK hP10 58 (by decide) hF12 (C := RX8) (T := TX8) (N := 23) hiX8 rfl 17 (by decide) (by decide +kernel) (v := .int va12) rfl dX8_readsTown_28 ?_
    have hF19 := (hFc10 61 (by decide)).trans hF3
    refine r_iast S hI hK hP10 hS10 61 (by decide) hF19 (vp_in_nI (show 4 + b4 < 52 by omega) (by omega)) dX8_readsTown_31 (fun F20 H20 locs20 eF20 hP20 hS20 => ?_)
    have hW20 := hW10.up eF20 (ok_I (show (61, 52) ∈ rLI by decide) (okI_up hg3 (by rw [nI_clamp (by omega)]; exact to_T (by decide) (okT_o (by omega) (by omega) (by omega)))))
    have hFr20 := hFr10.up eF20 (by simp <;> first | omega | (simp only [isC, isJ] at *; omega))
    obtain ⟨gg20, eg20⟩ : ∃ g9, g9 = upd g3 (nI (4 + b4)).toNatClampNeg va12 := ⟨_, rfl⟩
    have hF20 : F20 61 = .inl (cA 0, 52, .inl gg20) := by rw [eF20, eg20]; exact va_up_self _ _ _
    have hg20 : ∀ j, j < 52 → rPr 61 j (gg20 j) := by rw [eg20]; exact pr_up hg3 (by rw [nI_clamp (by omega)]; exact to_T (by decide) (okT_o (by omega) (by omega) (by omega)))
    have he21 : gg20 2 = nI b4 := by rw [eg20, pk_un (by rw [nI_clamp (by omega)]; omega)]; exact he4
    refine lv_aload_n S.1 S.2.1 dX8_readsTown_32 rfl (lv_at hl8 1 rfl) ?_
    refine lv_iconst (v := (nI 0)) S.1 S.2.1 dX8_readsTown_33 (by decide +kernel) ?_
    refine lv_sipush (v := (nI 4095)) S.1 S.2.1 dX8_readsTown_34 (by decide +kernel) ?_
    have hF22 := (show F20 58 = F10 58 by rw [eF20]; exact va_up_ne _ _ (by decide)).trans hF12
    have hA23 := fN_of (k := 14) (a := at12) hF22 rfl (by omega)
    have hL23 := fN_of (k := 1) (a := ty12) hF22 rfl (by omega)
    refine r_cVi (As := [.int (nI 0), .int (nI 4095)]) (rest := []) S hK hZ hP20 hS20 hl8.1 58 (by decide) hF22 (C := RX8) rfl (c_X8_number l D cA ad t hI F20 hW20 (nI 0) (nI 4095)) (cwV 2 S.2.2.2.2 gX8_readsTown_X8_number rfl rfl rfl (by decide +kernel) ⟨Nat.le_of_ble_eq_true rfl, Nat.le_of_ble_eq_true rfl⟩) rfl rfl (Nat.le_of_ble_eq_true rfl) ⟨Nat.zero_le _, Nat.zero_le _⟩ dX8_readsTown_37 (fun r24 F24 H24 locs24 hr24 hP24 hS24 => ?_)
    obtain ⟨hW24, hFc24, hr24⟩ := hr24
    have hFr24 := hFr20.tr hFc24 (by simp <;> first | omega | (simp only [isC, isJ] at *; omega))
    obtain ⟨⟨b25, hb25, rfl⟩, hz25, hx25, hv25⟩ := hr24
    obtain ⟨ty26, kn26, no26, en26, at26, sa26, sd26, wr26, pl26, va26, hF26, hb26_1, hb26_2, hb26_3, hb26_4, hb26_5, hb26_6⟩ := wt_m hW24
    have hA27 := fN_of (k := 14) (a := at26) hF26 rfl (by omega)
    have hL27 := fN_of (k := 1) (a := ty26) hF26 rfl (by omega)
    have ta28 : ((nI 0) : Int32).toInt = ((0 : Nat) : Int) := (nI_toInt (n := 0) (by omega))
    have ta29 : ((nI 4095) : Int32).toInt = ((4095 : Nat) : Int) := (nI_toInt (n := 4095) (by omega))
    have hy25 : b25 ≠ 0 → _ := fun q => hx25 (nI_ne0 (by omega) (by omega))
    have hw25 : b25 ≠ 0 → ((0 : Nat) : Int) ≤ va26.toInt ∧ va26.toInt ≤ ((4095 : Nat) : Int) := fun q => by have h9 := hv25 (nI_ne0 (by omega) (by omega)); rw [show fI (F24 58) 17 = va26 by unfold fI; rw [hF26]; rfl] at h9; omega
    refine lv_if_ne (tgt := 45) S.1 S.2.1 dX8_readsTown_40 (by decide) (fun c30 => ?_) (fun c30 => ?_)
    · skip
      have k31 := ci_ne (nI_toInt (n := b25) (by omega)) z_ti c30
      refine lv_aload_n S.1 S.2.1 dX8_readsTown_45 rfl (lv_at hl8 1 rfl) ?_
      refine r_get S hK hP24 58 (by decide) hF26 (C := RX8) (T := TX8) (N := 23) hiX8 rfl 3 (by decide) (by decide +kernel) (v := .ref (ad 61)) rfl dX8_readsTown_46 ?_
      refine lv_bipush (v := (nI 12)) S.1 S.2.1 dX8_readsTown_49 (by decide +kernel) ?_
      refine lv_iload_n S.1 S.2.1 dX8_readsTown_51 rfl (lv_at hl8 0 rfl) ?_
      refine lv_iadd S.1 S.2.1 dX8_readsTown_52 ?_
      refine lv_topi (fun v32 e32 => ?_)
      obtain rfl : v32 = nI (12 + b4) := e32.trans (nI_add _ _)
      refine lv_aload_n S.1 S.2.1 dX8_readsTown_53 rfl (lv_at hl8 1 rfl) ?_
      refine r_get S hK hP24 58 (by decide) hF26 (C := RX8) (T := TX8) (N := 23) hiX8 rfl 17 (by decide) (by decide +kernel) (v := .int va26) rfl dX8_readsTown_54 ?_
      have hF33 := (hFc24 61 (by decide)).trans hF20
      refine r_iast S hI hK hP24 hS24 61 (by decide) hF33 (vp_in_nI (show 12 + b4 < 52 by omega) (by omega)) dX8_readsTown_57 (fun F34 H34 locs34 eF34 hP34 hS34 => ?_)
      have hW34 := hW24.up eF34 (ok_I (show (61, 52) ∈ rLI by decide) (okI_up hg20 (by rw [nI_clamp (by omega)]; exact to_T (by decide) (okT_o (by omega) (by omega) (by omega)))))
      have hFr34 := hFr24.up eF34 (by simp <;> first | omega | (simp only [isC, isJ] at *; omega))
      obtain ⟨gg34, eg34⟩ : ∃ g9, g9 = upd gg20 (nI (12 + b4)).toNatClampNeg va26 := ⟨_, rfl⟩
      have hF34 : F34 61 = .inl (cA 0, 52, .inl gg34) := by rw [eF34, eg34]; exact va_up_self _ _ _
      have hg34 : ∀ j, j < 52 → rPr 61 j (gg34 j) := by rw [eg34]; exact pr_up hg20 (by rw [nI_clamp (by omega)]; exact to_T (by decide) (okT_o (by omega) (by omega) (by omega)))
      have he35 : gg34 2 = nI b4 := by rw [eg34, pk_un (by rw [nI_clamp (by omega)]; omega)]; exact he21
      refine lv_aload_n S.1 S.2.1 dX8_readsTown_58 rfl (lv_at hl8 1 rfl) ?_
      refine lv_iconst (v := (nI 0)) S.1 S.2.1 dX8_readsTown_59 (by decide +kernel) ?_
      refine lv_bipush (v := (nI 20)) S.1 S.2.1 dX8_readsTown_60 (by decide +kernel) ?_
      have hF36 := (show F34 58 = F24 58 by rw [eF34]; exact va_up_ne _ _ (by decide)).trans hF26
      have hA37 := fN_of (k := 14) (a := at26) hF36 rfl (by omega)
      have hL37 := fN_of (k := 1) (a := ty26) hF36 rfl (by omega)
      refine r_cVi (As := [.int (nI 0), .int (nI 20)]) (rest := []) S hK hZ hP34 hS34 hl8.1 58 (by decide) hF36 (C := RX8) rfl (c_X8_number l D cA ad t hI F34 hW34 (nI 0) (nI 20)) (cwV 2 S.2.2.2.2 gX8_readsTown_X8_number rfl rfl rfl (by decide +kernel) ⟨Nat.le_of_ble_eq_true rfl, Nat.le_of_ble_eq_true rfl⟩) rfl rfl (Nat.le_of_ble_eq_true rfl) ⟨Nat.zero_le _, Nat.zero_le _⟩ dX8_readsTown_62 (fun r38 F38 H38 locs38 hr38 hP38 hS38 => ?_)
      obtain ⟨hW38, hFc38, hr38⟩ := hr38
      have hFr38 := hFr34.tr hFc38 (by simp <;> first | omega | (simp only [isC, isJ] at *; omega))
      obtain ⟨⟨b39, hb39, rfl⟩, hz39, hx39, hv39⟩ := hr38
      obtain ⟨ty40, kn40, no40, en40, at40, sa40, sd40, wr40, pl40, va40, hF40, hb40_1, hb40_2, hb40_3, hb40_4, hb40_5, hb40_6⟩ := wt_m hW38
      have hA41 := fN_of (k := 14) (a := at40) hF40 rfl (by omega)
      have hL41 := fN_of (k := 1) (a := ty40) hF40 rfl (by omega)
      have ta42 : ((nI 0) : Int32).toInt = ((0 : Nat) : Int) := (nI_toInt (n := 0) (by omega))
      have ta43 : ((nI 20) : Int32).toInt = ((20 : Nat) : Int) := (nI_toInt (n := 20) (by omega))
      have hy39 : b39 ≠ 0 → _ := fun q => hx39 (nI_ne0 (by omega) (by omega))
      have hw39 : b39 ≠ 0 → ((0 : Nat) : Int) ≤ va40.toInt ∧ va40.toInt ≤ ((20 : Nat) : Int) := fun q => by have h9 := hv39 (nI_ne0 (by omega) (by omega)); rw [show fI (F38 58) 17 = va40 by unfold fI; rw [hF40]; rfl] at h9; omega
      refine lv_if_ne (tgt := 70) S.1 S.2.1 dX8_readsTown_65 (by decide) (fun c44 => ?_) (fun c44 => ?_)
      · skip
        have k45 := ci_ne (nI_toInt (n := b39) (by omega)) z_ti c44
        refine lv_aload_n S.1 S.2.1 dX8_readsTown_70 rfl (lv_at hl8 1 rfl) ?_
        refine r_get S hK hP38 58 (by decide) hF40 (C := RX8) (T := TX8) (N := 23) hiX8 rfl 3 (by decide) (by decide +kernel) (v := .ref (ad 61)) rfl dX8_readsTown_71 ?_
        refine lv_bipush (v := (nI 20)) S.1 S.2.1 dX8_readsTown_74 (by decide +kernel) ?_
        refine lv_iload_n S.1 S.2.1 dX8_readsTown_76 rfl (lv_at hl8 0 rfl) ?_
        refine lv_iadd S.1 S.2.1 dX8_readsTown_77 ?_
        refine lv_topi (fun v46 e46 => ?_)
        obtain rfl : v46 = nI (20 + b4) := e46.trans (nI_add _ _)
        refine lv_aload_n S.1 S.2.1 dX8_readsTown_78 rfl (lv_at hl8 1 rfl) ?_
        refine r_get S hK hP38 58 (by decide) hF40 (C := RX8) (T := TX8) (N := 23) hiX8 rfl 17 (by decide) (by decide +kernel) (v := .int va40) rfl dX8_readsTown_79 ?_
        have hF47 := (hFc38 61 (by decide)).trans hF34
        refine r_iast S hI hK hP38 hS38 61 (by decide) hF47 (vp_in_nI (show 20 + b4 < 52 by omega) (by omega)) dX8_readsTown_82 (fun F48 H48 locs48 eF48 hP48 hS48 => ?_)
        have hW48 := hW38.up eF48 (ok_I (show (61, 52) ∈ rLI by decide) (okI_up hg34 (by rw [nI_clamp (by omega)]; exact to_T (by decide) (okT_o (by omega) (by omega) (by omega)))))
        have hFr48 := hFr38.up eF48 (by simp <;> first | omega | (simp only [isC, isJ] at *; omega))
        obtain ⟨gg48, eg48⟩ : ∃ g9, g9 = upd gg34 (nI (20 + b4)).toNatClampNeg va40 := ⟨_, rfl⟩
        have hF48 : F48 61 = .inl (cA 0, 52, .inl gg48) := by rw [eF48, eg48]; exact va_up_self _ _ _
        have hg48 : ∀ j, j < 52 → rPr 61 j (gg48 j) := by rw [eg48]; exact pr_up hg34 (by rw [nI_clamp (by omega)]; exact to_T (by decide) (okT_o (by omega) (by omega) (by omega)))
        have he49 : gg48 2 = nI b4 := by rw [eg48, pk_un (by rw [nI_clamp (by omega)]; omega)]; exact he35
        refine lv_aload_n S.1 S.2.1 dX8_readsTown_83 rfl (lv_at hl8 1 rfl) ?_
        have hF50 := (show F48 58 = F38 58 by rw [eF48]; exact va_up_ne _ _ (by decide)).trans hF40
        refine r_get S hK hP48 58 (by decide) hF50 (C := RX8) (T := TX8) (N := 23) hiX8 rfl 3 (by decide) (by decide +kernel) (v := .ref (ad 61)) rfl dX8_readsTown_84 ?_
        refine lv_iconst (v := (nI 2)) S.1 S.2.1 dX8_readsTown_87 (by decide +kernel) ?_
        refine lv_dup2_11 S.1 S.2.1 dX8_readsTown_88 rfl rfl ?_
        refine r_iald S hK hP48 61 (by decide) hF48 (vp_in_nI (show 2 < 52 by omega) (by omega)) dX8_readsTown_89 ?_
        refine lv_topi (fun v52 e52 => ?_)
        obtain rfl : v52 = nI b4 := e52.trans he49
        refine lv_iconst (v := (nI 1)) S.1 S.2.1 dX8_readsTown_90 (by decide +kernel) ?_
        refine lv_iadd S.1 S.2.1 dX8_readsTown_91 ?_
        refine lv_topi (fun v53 e53 => ?_)
        obtain rfl : v53 = nI (b4 + 1) := e53.trans (nI_add _ _)
        refine r_iast S hI hK hP48 hS48 61 (by decide) hF48 (vp_in_nI (show 2 < 52 by omega) (by omega)) dX8_readsTown_92 (fun F54 H54 locs54 eF54 hP54 hS54 => ?_)
        have hW54 := hW48.up eF54 (ok_I (show (61, 52) ∈ rLI by decide) (okI_up hg48 (by rw [nI_clamp (by omega)]; exact to_T (by decide) (okT_2 ⟨b4 + 1, by omega, rfl⟩))))
        have hFr54 := hFr48.up eF54 (by simp <;> first | omega | (simp only [isC, isJ] at *; omega))
        obtain ⟨gg54, eg54⟩ : ∃ g9, g9 = upd gg48 (nI 2).toNatClampNeg (nI (b4 + 1)) := ⟨_, rfl⟩
        have hF54 : F54 61 = .inl (cA 0, 52, .inl gg54) := by rw [eF54, eg54]; exact va_up_self _ _ _
        have hg54 : ∀ j, j < 52 → rPr 61 j (gg54 j) := by rw [eg54]; exact pr_up hg48 (by rw [nI_clamp (by omega)]; exact to_T (by decide) (okT_2 ⟨b4 + 1, by omega, rfl⟩))
        refine lv_aload_n S.1 S.2.1 dX8_readsTown_93 rfl (lv_at hl8 1 rfl) ?_
        have hF55 := (show F54 58 = F48 58 by rw [eF54]; exact va_up_ne _ _ (by decide)).trans hF50
        have hA56 := fN_of (k := 14) (a := at40) hF55 rfl (by omega)
        have hL56 := fN_of (k := 1) (a := ty40) hF55 rfl (by omega)
        refine r_cVi (As := []) (rest := []) S hK hZ hP54 hS54 hl8.1 58 (by decide) hF55 (C := RX8) rfl (c_X8_ends l D cA ad t hI F54 hW54 ) (cwV 0 S.2.2.2.2 gX8_readsTown_X8_ends rfl rfl rfl (by decide +kernel) ⟨Nat.le_of_ble_eq_true rfl, Nat.le_of_ble_eq_true rfl⟩) rfl rfl (Nat.le_of_ble_eq_true rfl) ⟨Nat.zero_le _, Nat.zero_le _⟩ dX8_readsTown_94 (fun r57 F57 H57 locs57 hr57 hP57 hS57 => ?_)
        obtain ⟨hW57, hFc57, hr57⟩ := hr57
        have hFr57 := hFr54.tr hFc57 (by simp <;> first | omega | (simp only [isC, isJ] at *; omega))
        obtain ⟨⟨b58, hb58, rfl⟩, hz58, hx58⟩ := hr57
        obtain ⟨ty59, kn59, no59, en59, at59, sa59, sd59, wr59, pl59, va59, hF59, hb59_1, hb59_2, hb59_3, hb59_4, hb59_5, hb59_6⟩ := wt_m hW57
        have hA60 := fN_of (k := 14) (a := at59) hF59 rfl (by omega)
        have hL60 := fN_of (k := 1) (a := ty59) hF59 rfl (by omega)
        have hy58 : b58 ≠ 0 → _ := fun q => hx58 (nI_ne0 (by omega) (by omega))
        have hA61 := fN_of (k := 14) (a := at59) hF59 rfl (by omega)
        have hL61 := fN_of (k := 1) (a := ty59) hF59 rfl (by omega)
        exact hret 97 _ _ _ _ _ dX8_readsTown_97 (nar_bool (by omega)) hP57 hS57 ⟨hW57, hFr57, ⟨⟨b58, by omega, rfl⟩, by omega, fun h => by have hb9 : b58 ≠ 0 := fun q => h (by rw [q]; rfl); omega⟩⟩
      have k62 := ci_eq (nI_toInt (n := b39) (by omega)) z_ti c44
      refine lv_iconst (v := (nI 0)) S.1 S.2.1 dX8_readsTown_68 (by decide +kernel) ?_
      have hA63 := fN_of (k := 14) (a := at40) hF40 rfl (by omega)
      have hL63 := fN_of (k := 1) (a := ty40) hF40 rfl (by omega)
      exact hret 69 _ _ _ _ _ dX8_readsTown_69 rfl hP38 hS38 ⟨hW38, hFr38, ⟨⟨0, by omega, rfl⟩, by omega, fun h => absurd rfl h⟩⟩
    have k64 := ci_eq (nI_toInt (n := b25) (by omega)) z_ti c30
    refine lv_iconst (v := (nI 0)) S.1 S.2.1 dX8_readsTown_43 (by decide +kernel) ?_
    have hA65 := fN_of (k := 14) (a := at26) hF26 rfl (by omega)
    have hL65 := fN_of (k := 1) (a := ty26) hF26 rfl (by omega)
    exact hret 44 _ _ _ _ _ dX8_readsTown_44 rfl hP24 hS24 ⟨hW24, hFr24, ⟨⟨0, by omega, rfl⟩, by omega, fun h => absurd rfl h⟩⟩
  have k66 := ci_eq (nI_toInt (n := b11) (by omega)) z_ti c16
  refine lv_iconst (v := (nI 0)) S.1 S.2.1 dX8_readsTown_18 (by decide +kernel) ?_
  have hA67 := fN_of (k := 14) (a := at12) hF12 rfl (by omega)
  have hL67 := fN_of (k := 1) (a := ty12) hF12 rfl (by omega)
  exact hret 19 _ _ _ _ _ dX8_readsTown_19 rfl hP10 hS10 ⟨hW10, hFr10, ⟨⟨0, by omega, rfl⟩, by omega, fun h => absurd rfl h⟩⟩
set_option maxHeartbeats 4000000 in
set_option maxRecDepth 100000 in
theorem c_X8_readsRoad (l : Launch) (D : va_G) (cA ad : Nat → Nat) (t : Nat) (hI : rI ad) (F : Nat → va_E) (hW : WT cA ad F) (hR : aN (F 61) 3 < 12) : MI l D cA ad t yX8_readsRoad wsX8_readsRoad { frames := 2, cells := 0, slots := 0, locals := 46 } [.ref (ad 58)] F (fun r F' => WT cA ad F' ∧ rFr [58, 61] F F' ∧ (le32 1 r ∧ fN (F' 58) 1 = fN (F 58) 1 ∧ (r ≠ 0 → fN (F 58) 14 ≤ fN (F' 58) 14))) := by
  refine en_I rfl (by decide +kernel) (Nat.le_of_ble_eq_true rfl) ?_
  intro p e s m args below meth c ls0 Q S hK hZ hP hS hl0 hret
  have hl0 : lv_has ls0 6 [(0, .ref (ad 58))] := hl0
  have hFr : rFr [58, 61] F F := rFr.rf
  have hiX8 : ∀ w ∈ u_ws RX8 TX8 23, w ∈ wsX8_readsRoad := by decide +kernel
  obtain ⟨ty1, kn1, no1, en1, at1, sa1, sd1, wr1, pl1, va1, hF1, hb1_1, hb1_2, hb1_3, hb1_4, hb1_5, hb1_6⟩ := wt_m hW
  have hA2 := fN_of (k := 14) (a := at1) hF1 rfl (by omega)
  have hL2 := fN_of (k := 1) (a := ty1) hF1 rfl (by omega)
  obtain ⟨g3, hF3, hg3⟩ := wt_I hW (show (61, 52) ∈ rLI by decide)
  obtain ⟨b4, hb4, he4⟩ := (pr_T (by decide) (hg3 3 (by decide))).2.2 rfl
  have hN5 := aN_of (j := 3) hF3 he4 (by omega)
  refine lv_aload_n S.1 S.2.1 dX8_readsRoad_0 rfl (lv_at hl0 0 rfl) ?_
  refine lv_iconst (v := (nI 0)) S.1 S.2.1 dX8_readsRoad_1 (by decide +kernel) ?_
  refine lv_aload_n S.1 S.2.1 dX8_readsRoad_2 rfl (lv_at hl0 0 rfl) ?_
  refine r_get S hK hP 58 (by decide) hF1 (C := RX8) (T := TX8) (N := 23) hiX8 rfl 3 (by decide) (by decide +kernel) (v := .ref (ad 61)) rfl dX8_readsRoad_3 ?_
  refine lv_iconst (v := (nI 2)) S.1 S.2.1 dX8_readsRoad_6 (by decide +kernel) ?_
  refine r_iald S hK hP 61 (by decide) hF3 (vp_in_nI (show 2 < 52 by omega) (by omega)) dX8_readsRoad_7 ?_
  refine lv_topi (fun v7 e7 => ?_)
  obtain ⟨b8, hb8, he8⟩ := (pr_T (by decide) (hg3 2 (by decide))).2.1 rfl
  obtain rfl : v7 = nI b8 := e7.trans he8
  refine lv_iconst (v := (nI 1)) S.1 S.2.1 dX8_readsRoad_8 (by decide +kernel) ?_
  refine lv_isub S.1 S.2.1 dX8_readsRoad_9 ?_
  refine lv_topi (fun v9 e9 => ?_)
  have ks9 : v9.toInt = ((b8 : Nat) : Int) - ((1 : Nat) : Int) := by rw [e9]; exact pk_sub_toInt (by omega) (by omega)
  have hA10 := fN_of (k := 14) (a := at1) hF1 rfl (by omega)
  have hL10 := fN_of (k := 1) (a := ty1) hF1 rfl (by omega)
  refine r_cVi (As := [.int (nI 0), .int v9]) (rest := []) S hK hZ hP hS hl0.1 58 (by decide) hF1 (C := RX8) rfl (c_X8_number l D cA ad t hI F hW (nI 0) v9) (cwV 2 S.2.2.2.2 gX8_readsRoad_X8_number rfl rfl rfl (by decide +kernel) ⟨Nat.le_of_ble_eq_true rfl, Nat.le_of_ble_eq_true rfl⟩) rfl rfl (Nat.le_of_ble_eq_true rfl) ⟨Nat.zero_le _, Nat.zero_le _⟩ dX8_readsRoad_10 (fun r11 F11 H11 locs11 hr11 hP11 hS11 => ?_)
  obtain ⟨hW11, hFc11, hr11⟩ := hr11
  have hFr11 := hFr.tr hFc11 (by simp <;> first | omega | (simp only [isC, isJ] at *; omega))
  obtain ⟨⟨b12, hb12, rfl⟩, hz12, hx12, hv12⟩ := hr11
  obtain ⟨ty13, kn13, no13, en13, at13, sa13, sd13, wr13, pl13, va13, hF13, hb13_1, hb13_2, hb13_3, hb13_4, hb13_5, hb13_6⟩ := wt_m hW11
  have hA14 := fN_of (k := 14) (a := at13) hF13 rfl (by omega)
  have hL14 := fN_of (k := 1) (a := ty13) hF13 rfl (by omega)
  have ta15 : ((nI 0) : Int32).toInt = ((0 : Nat) : Int) := (nI_toInt (n := 0) (by omega))
  have ta16 : (v9 : Int32).toInt = v9.toInt := rfl
  have hy12 : b12 ≠ 0 → _ := fun q => hx12 (nI_ne0 (by omega) (by omega))
  have hw12 : b12 ≠ 0 → ((0 : Nat) : Int) ≤ va13.toInt ∧ va13.toInt ≤ v9.toInt := fun q => by have h9 := hv12 (nI_ne0 (by omega) (by omega)); rw [show fI (F11 58) 17 = va13 by unfold fI; rw [hF13]; rfl] at h9; omega
  refine lv_if_ne (tgt := 18) S.1 S.2.1 dX8_readsRoad_13 (by decide) (fun c17 => ?_) (fun c17 => ?_)
  · skip
    have k18 := ci_ne (nI_toInt (n := b12) (by omega)) z_ti c17
    refine lv_aload_n S.1 S.2.1 dX8_readsRoad_18 rfl (lv_at hl0 0 rfl) ?_
    refine r_get S hK hP11 58 (by decide) hF13 (C := RX8) (T := TX8) (N := 23) hiX8 rfl 17 (by decide) (by decide +kernel) (v := .int va13) rfl dX8_readsRoad_19 ?_
    refine lv_istore_n (lv' := [(1, .int va13), (0, .ref (ad 58))]) S.1 S.2.1 dX8_readsRoad_22 rfl hl0 (by decide) rfl (fun ls19 hl19 => ?_)
    refine lv_aload_n S.1 S.2.1 dX8_readsRoad_23 rfl (lv_at hl19 1 rfl) ?_
    refine lv_iconst (v := (nI 0)) S.1 S.2.1 dX8_readsRoad_24 (by decide +kernel) ?_
    refine lv_aload_n S.1 S.2.1 dX8_readsRoad_25 rfl (lv_at hl19 1 rfl) ?_
    refine r_get S hK hP11 58 (by decide) hF13 (C := RX8) (T := TX8) (N := 23) hiX8 rfl 3 (by decide) (by decide +kernel) (v := .ref (ad 61)) rfl dX8_readsRoad_26 ?_
    refine lv_iconst (v := (nI 2)) S.1 S.2.1 dX8_readsRoad_29 (by decide +kernel) ?_
    have hF20 := (hFc11 61 (by decide)).trans hF3
    refine r_iald S hK hP11 61 (by decide) hF20 (vp_in_nI (show 2 < 52 by omega) (by omega)) dX8_readsRoad_30 ?_
    refine lv_topi (fun v22 e22 => ?_)
    obtain rfl : v22 = nI b8 := e22.trans he8
    refine lv_iconst (v := (nI 1)) S.1 S.2.1 dX8_readsRoad_31 (by decide +kernel) ?_
    refine lv_isub S.1 S.2.1 dX8_readsRoad_32 ?_
    refine lv_topi (fun v23 e23 => ?_)
    have ks23 : v23.toInt = ((b8 : Nat) : Int) - ((1 : Nat) : Int) := by rw [e23]; exact pk_sub_toInt (by omega) (by omega)
    have hA24 := fN_of (k := 14) (a := at13) hF13 rfl (by omega)
    have hL24 := fN_of (k := 1) (a := ty13) hF13 rfl (by omega)
    refine r_cVi (As := [.int (nI 0), .int v23]) (rest := []) S hK hZ hP11 hS11 hl19.1 58 (by decide) hF13 (C := RX8) rfl (c_X8_number l D cA ad t hI F11 hW11 (nI 0) v23) (cwV 2 S.2.2.2.2 gX8_readsRoad_X8_number rfl rfl rfl (by decide +kernel) ⟨Nat.le_of_ble_eq_true rfl, Nat.le_of_ble_eq_true rfl⟩) rfl rfl (Nat.le_of_ble_eq_true rfl) ⟨Nat.zero_le _, Nat.zero_le _⟩ dX8_readsRoad_33 (fun r25 F25 H25 locs25 hr25 hP25 hS25 => ?_)
    obtain ⟨hW25, hFc25, hr25⟩ := hr25
    have hFr25 := hFr11.tr hFc25 (by simp <;> first | omega | (simp only [isC, isJ] at *; omega))
    obtain ⟨⟨b26, hb26, rfl⟩, hz26, hx26, hv26⟩ := hr25
    obtain ⟨ty27, kn27, no27, en27, at27, sa27, sd27, wr27, pl27, va27, hF27, hb27_1, hb27_2, hb27_3, hb27_4, hb27_5, hb27_6⟩ := wt_m hW25
    have hA28 := fN_of (k := 14) (a := at27) hF27 rfl (by omega)
    have hL28 := fN_of (k := 1) (a := ty27) hF27 rfl (by omega)
    have ta29 : ((nI 0) : Int32).toInt = ((0 : Nat) : Int) := (nI_toInt (n := 0) (by omega))
    have ta30 : (v23 : Int32).toInt = v23.toInt := rfl
    have hy26 : b26 ≠ 0 → _ := fun q => hx26 (nI_ne0 (by omega) (by omega))
    have hw26 : b26 ≠ 0 → ((0 : Nat) : Int) ≤ va27.toInt ∧ va27.toInt ≤ v23.toInt := fun q => by have h9 := hv26 (nI_ne0 (by omega) (by omega)); rw [show fI (F25 58) 17 = va27 by unfold fI; rw [hF27]; rfl] at h9; omega
    refine lv_if_ne (tgt := 41) S.1 S.2.1 dX8_readsRoad_36 (by decide) (fun c31 => ?_) (fun c31 => ?_)
    · skip
      have k32 := ci_ne (nI_toInt (n := b26) (by omega)) z_ti c31
      refine lv_iload_n S.1 S.2.1 dX8_readsRoad_41 rfl (lv_at hl19 0 rfl) ?_
      refine lv_aload_n S.1 S.2.1 dX8_readsRoad_42 rfl (lv_at hl19 1 rfl) ?_
      refine r_get S hK hP25 58 (by decide) hF27 (C := RX8) (T := TX8) (N := 23) hiX8 rfl 17 (by decide) (by decide +kernel) (v := .int va27) rfl dX8_readsRoad_43 ?_
      refine lv_icmp_ne (tgt := 53) S.1 S.2.1 dX8_readsRoad_46 (by decide) (fun c33 => ?_) (fun c33 => ?_)
      · skip
        have k34 := ci_ne rfl rfl c33
        refine lv_iconst (v := (nI 0)) S.1 S.2.1 dX8_readsRoad_53 (by decide +kernel) ?_
        refine lv_istore_n (lv' := [(2, .int (nI 0)), (1, .int va13), (0, .ref (ad 58))]) S.1 S.2.1 dX8_readsRoad_54 rfl hl19 (by decide) rfl (fun ls35 hl35 => ?_)
        refine lv_iconst (v := (nI 0)) S.1 S.2.1 dX8_readsRoad_55 (by decide +kernel) ?_
        refine lv_istore_n (lv' := [(3, .int (nI 0)), (2, .int (nI 0)), (1, .int va13), (0, .ref (ad 58))]) S.1 S.2.1 dX8_readsRoad_56 rfl hl35 (by decide) rfl (fun ls36 hl36 => ?_)
        have lp37 : ∀ (n37 : Nat) (q337 : Nat) (x37_2 : Int32), q337 ≤ 12 → 12 - q337 < n37 → ∀ (ls : Array Slot), lv_has ls 6 [(3, .int (nI q337)), (2, .int x37_2), (1, .int va13), (0, .ref (ad 58))] → W p l e { frames := 2, cells := 0, slots := 0, locals := 46 } s m args below meth c H25 locs25 0 0 Q (F0 m 57 ls []) := by
          intro n37
          induction n37 with
          | zero =>
            intro q337 x37_2 iv37_0 hm37 ls37 hl37
            exact absurd hm37 (Nat.not_lt_zero _)
          | succ n37 ih37 =>
            intro q337 x37_2 iv37_0 hm37 ls37 hl37
            refine lv_iload_n S.1 S.2.1 dX8_readsRoad_57 rfl (lv_at hl37 0 rfl) ?_
            refine lv_aload_n S.1 S.2.1 dX8_readsRoad_58 rfl (lv_at hl37 3 rfl) ?_
            refine r_get S hK hP25 58 (by decide) hF27 (C := RX8) (T := TX8) (N := 23) hiX8 rfl 3 (by decide) (by decide +kernel) (v := .ref (ad 61)) rfl dX8_readsRoad_59 ?_
            refine lv_iconst (v := (nI 3)) S.1 S.2.1 dX8_readsRoad_62 (by decide +kernel) ?_
            have hF38 := (hFc25 61 (by decide)).trans hF20
            refine r_iald S hK hP25 61 (by decide) hF38 (vp_in_nI (show 3 < 52 by omega) (by omega)) dX8_readsRoad_63 ?_
            refine lv_topi (fun v40 e40 => ?_)
            obtain rfl : v40 = nI b4 := e40.trans he4
            refine lv_icmp_ge (tgt := 135) S.1 S.2.1 dX8_readsRoad_64 (by decide) (fun c41 => ?_) (fun c41 => ?_)
            · skip
              have k42 := ci_le (nI_toInt (n := b4) (by omega)) (nI_toInt (n := q337) (by omega)) c41
              refine lv_iload_n S.1 S.2.1 dX8_readsRoad_135 rfl (lv_at hl37 1 rfl) ?_
              refine lv_if_eq (tgt := 149) S.1 S.2.1 dX8_readsRoad_136 (by decide) (fun c43 => ?_) (fun c43 => ?_)
              · skip
                have k44 := ci_eq rfl z_ti c43
                refine lv_aload_n S.1 S.2.1 dX8_readsRoad_149 rfl (lv_at hl37 3 rfl) ?_
                refine r_get S hK hP25 58 (by decide) hF27 (C := RX8) (T := TX8) (N := 23) hiX8 rfl 3 (by decide) (by decide +kernel) (v := .ref (ad 61)) rfl dX8_readsRoad_150 ?_
                refine lv_bipush (v := (nI 28)) S.1 S.2.1 dX8_readsRoad_153 (by decide +kernel) ?_
                refine lv_aload_n S.1 S.2.1 dX8_readsRoad_155 rfl (lv_at hl37 3 rfl) ?_
                refine r_get S hK hP25 58 (by decide) hF27 (C := RX8) (T := TX8) (N := 23) hiX8 rfl 3 (by decide) (by decide +kernel) (v := .ref (ad 61)) rfl dX8_readsRoad_156 ?_
                refine lv_iconst (v := (nI 3)) S.1 S.2.1 dX8_readsRoad_159 (by decide +kernel) ?_
                refine r_iald S hK hP25 61 (by decide) hF38 (vp_in_nI (show 3 < 52 by omega) (by omega)) dX8_readsRoad_160 ?_
                refine lv_topi (fun v46 e46 => ?_)
                obtain rfl : v46 = nI b4 := e46.trans he4
                refine lv_iadd S.1 S.2.1 dX8_readsRoad_161 ?_
                refine lv_topi (fun v47 e47 => ?_)
                obtain rfl : v47 = nI (28 + b4) := e47.trans (nI_add _ _)
                refine lv_iload_n S.1 S.2.1 dX8_readsRoad_162 rfl (lv_at hl37 2 rfl) ?_
                refine r_iast S hI hK hP25 hS25 61 (by decide) hF38 (vp_in_nI (show 28 + b4 < 52 by omega) (by omega)) dX8_readsRoad_163 (fun F48 H48 locs48 eF48 hP48 hS48 => ?_)
                have hW48 := hW25.up eF48 (ok_I (show (61, 52) ∈ rLI by decide) (okI_up hg3 (by rw [nI_clamp (by omega)]; exact to_T (by decide) (okT_o (by omega) (by omega) (by omega)))))
                have hFr48 := hFr25.up eF48 (by simp <;> first | omega | (simp only [isC, isJ] at *; omega))
                obtain ⟨gg48, eg48⟩ : ∃ g9, g9 = upd g3 (nI (28 + b4)).toNatClampNeg va13 := ⟨_, rfl⟩
                have hF48 : F48 61 = .inl (cA 0, 52, .inl gg48) := by rw [eF48, eg48]; exact va_up_self _ _ _
                have hg48 : ∀ j, j < 52 → rPr 61 j (gg48 j) := by rw [eg48]; exact pr_up hg3 (by rw [nI_clamp (by omega)]; exact to_T (by decide) (okT_o (by omega) (by omega) (by omega)))
                have he49 : gg48 3 = nI b4 := by rw [eg48, pk_un (by rw [nI_clamp (by omega)]; omega)]; exact he4
                have he50 : gg48 2 = nI b8 := by rw [eg48, pk_un (by rw [nI_clamp (by omega)]; omega)]; exact he8
                refine lv_aload_n S.1 S.2.1 dX8_readsRoad_164 rfl (lv_at hl37 3 rfl) ?_
                have hF51 := (show F48 58 = F25 58 by rw [eF48]; exact va_up_ne _ _ (by decide)).trans hF27
                refine r_get S hK hP48 58 (by decide) hF51 (C := RX8) (T := TX8) (N := 23) hiX8 rfl 3 (by decide) (by decide +kernel) (v := .ref (ad 61)) rfl dX8_readsRoad_165 ?_
                refine lv_bipush (v := (nI 40)) S.1 S.2.1 dX8_readsRoad_168 (by decide +kernel) ?_
                refine lv_aload_n S.1 S.2.1 dX8_readsRoad_170 rfl (lv_at hl37 3 rfl) ?_
                refine r_get S hK hP48 58 (by decide) hF51 (C := RX8) (T := TX8) (N := 23) hiX8 rfl 3 (by decide) (by decide +kernel) (v := .ref (ad 61)) rfl dX8_readsRoad_171 ?_
                refine lv_iconst (v := (nI 3)) S.1 S.2.1 dX8_readsRoad_174 (by decide +kernel) ?_
                refine r_iald S hK hP48 61 (by decide) hF48 (vp_in_nI (show 3 < 52 by omega) (by omega)) dX8_readsRoad_175 ?_
                refine lv_topi (fun v53 e53 => ?_)
                obtain rfl : v53 = nI b4 := e53.trans he49
                refine lv_iadd S.1 S.2.1 dX8_readsRoad_176 ?_
                refine lv_topi (fun v54 e54 => ?_)
                obtain rfl : v54 = nI (40 + b4) := e54.trans (nI_add _ _)
                refine lv_aload_n S.1 S.2.1 dX8_readsRoad_177 rfl (lv_at hl37 3 rfl) ?_
                refine r_get S hK hP48 58 (by decide) hF51 (C := RX8) (T := TX8) (N := 23) hiX8 rfl 17 (by decide) (by decide +kernel) (v := .int va27) rfl dX8_readsRoad_178 ?_
                refine r_iast S hI hK hP48 hS48 61 (by decide) hF48 (vp_in_nI (show 40 + b4 < 52 by omega) (by omega)) dX8_readsRoad_181 (fun F55 H55 locs55 eF55 hP55 hS55 => ?_)
                have hW55 := hW48.up eF55 (ok_I (show (61, 52) ∈ rLI by decide) (okI_up hg48 (by rw [nI_clamp (by omega)]; exact to_T (by decide) (okT_o (by omega) (by omega) (by omega)))))
                have hFr55 := hFr48.up eF55 (by simp <;> first | omega | (simp only [isC, isJ] at *; omega))
                obtain ⟨gg55, eg55⟩ : ∃ g9, g9 = upd gg48 (nI (40 + b4)).toNatClampNeg va27 := ⟨_, rfl⟩
                have hF55 : F55 61 = .inl (cA 0, 52, .inl gg55) := by rw [eF55, eg55]; exact va_up_self _ _ _
                have hg55 : ∀ j, j < 52 → rPr 61 j (gg55 j) := by rw [eg55]; exact pr_up hg48 (by rw [nI_clamp (by omega)]; exact to_T (by decide) (okT_o (by omega) (by omega) (by omega)))
                have he56 : gg55 3 = nI b4 := by rw [eg55, pk_un (by rw [nI_clamp (by omega)]; omega)]; exact he49
                have he57 : gg55 2 = nI b8 := by rw [eg55, pk_un (by rw [nI_clamp (by omega)]; omega)]; exact he50
                refine lv_aload_n S.1 S.2.1 dX8_readsRoad_182 rfl (lv_at hl37 3 rfl) ?_
                have hF58 := (show F55 58 = F48 58 by rw [eF55]; exact va_up_ne _ _ (by decide)).trans hF51
                refine r_get S hK hP55 58 (by decide) hF58 (C := RX8) (T := TX8) (N := 23) hiX8 rfl 3 (by decide) (by decide +kernel) (v := .ref (ad 61)) rfl dX8_readsRoad_183 ?_
                refine lv_iconst (v := (nI 3)) S.1 S.2.1 dX8_readsRoad_186 (by decide +kernel) ?_
                refine lv_dup2_11 S.1 S.2.1 dX8_readsRoad_187 rfl rfl ?_
                refine r_iald S hK hP55 61 (by decide) hF55 (vp_in_nI (show 3 < 52 by omega) (by omega)) dX8_readsRoad_188 ?_
                refine lv_topi (fun v60 e60 => ?_)
                obtain rfl : v60 = nI b4 := e60.trans he56
                refine lv_iconst (v := (nI 1)) S.1 S.2.1 dX8_readsRoad_189 (by decide +kernel) ?_
                refine lv_iadd S.1 S.2.1 dX8_readsRoad_190 ?_
                refine lv_topi (fun v61 e61 => ?_)
                obtain rfl : v61 = nI (b4 + 1) := e61.trans (nI_add _ _)
                refine r_iast S hI hK hP55 hS55 61 (by decide) hF55 (vp_in_nI (show 3 < 52 by omega) (by omega)) dX8_readsRoad_191 (fun F62 H62 locs62 eF62 hP62 hS62 => ?_)
                have hW62 := hW55.up eF62 (ok_I (show (61, 52) ∈ rLI by decide) (okI_up hg55 (by rw [nI_clamp (by omega)]; exact to_T (by decide) (okT_3 ⟨b4 + 1, by omega, rfl⟩))))
                have hFr62 := hFr55.up eF62 (by simp <;> first | omega | (simp only [isC, isJ] at *; omega))
                obtain ⟨gg62, eg62⟩ : ∃ g9, g9 = upd gg55 (nI 3).toNatClampNeg (nI (b4 + 1)) := ⟨_, rfl⟩
                have hF62 : F62 61 = .inl (cA 0, 52, .inl gg62) := by rw [eF62, eg62]; exact va_up_self _ _ _
                have hg62 : ∀ j, j < 52 → rPr 61 j (gg62 j) := by rw [eg62]; exact pr_up hg55 (by rw [nI_clamp (by omega)]; exact to_T (by decide) (okT_3 ⟨b4 + 1, by omega, rfl⟩))
                have he63 : gg62 2 = nI b8 := by rw [eg62, pk_un (by rw [nI_clamp (by omega)]; omega)]; exact he57
                refine lv_aload_n S.1 S.2.1 dX8_readsRoad_192 rfl (lv_at hl37 3 rfl) ?_
                have hF64 := (show F62 58 = F55 58 by rw [eF62]; exact va_up_ne _ _ (by decide)).trans hF58
                have hA65 := fN_of (k := 14) (a := at27) hF64 rfl (by omega)
                have hL65 := fN_of (k := 1) (a := ty27) hF64 rfl (by omega)
                refine r_cVi (As := []) (rest := []) S hK hZ hP62 hS62 hl37.1 58 (by decide) hF64 (C := RX8) rfl (c_X8_ends l D cA ad t hI F62 hW62 ) (cwV 0 S.2.2.2.2 gX8_readsRoad_X8_ends rfl rfl rfl (by decide +kernel) ⟨Nat.le_of_ble_eq_true rfl, Nat.le_of_ble_eq_true rfl⟩) rfl rfl (Nat.le_of_ble_eq_true rfl) ⟨Nat.zero_le _, Nat.zero_le _⟩ dX8_readsRoad_193 (fun r66 F66 H66 locs66 hr66 hP66 hS66 => ?_)
                obtain ⟨hW66, hFc66, hr66⟩ := hr66
                have hFr66 := hFr62.tr hFc66 (by simp <;> first | omega | (simp only [isC, isJ] at *; omega))
                obtain ⟨⟨b67, hb67, rfl⟩, hz67, hx67⟩ := hr66
                obtain ⟨ty68, kn68, no68, en68, at68, sa68, sd68, wr68, pl68, va68, hF68, hb68_1, hb68_2, hb68_3, hb68_4, hb68_5, hb68_6⟩ := wt_m hW66
                have hA69 := fN_of (k := 14) (a := at68) hF68 rfl (by omega)
                have hL69 := fN_of (k := 1) (a := ty68) hF68 rfl (by omega)
                have hy67 : b67 ≠ 0 → _ := fun q => hx67 (nI_ne0 (by omega) (by omega))
                have hA70 := fN_of (k := 14) (a := at68) hF68 rfl (by omega)
                have hL70 := fN_of (k := 1) (a := ty68) hF68 rfl (by omega)
                exact hret 196 _ _ _ _ _ dX8_readsRoad_196 (nar_bool (by omega)) hP66 hS66 ⟨hW66, hFr66, ⟨⟨b67, by omega, rfl⟩, by omega, fun h => by have hb9 : b67 ≠ 0 := fun q => h (by rw [q]; rfl); omega⟩⟩
              have k71 := ci_ne rfl z_ti c43
              refine lv_aload_n S.1 S.2.1 dX8_readsRoad_139 rfl (lv_at hl37 3 rfl) ?_
              refine lv_iconst (v := (nI 4)) S.1 S.2.1 dX8_readsRoad_140 (by decide +kernel) ?_
              refine lv_aload_n S.1 S.2.1 dX8_readsRoad_141 rfl (lv_at hl37 3 rfl) ?_
              refine r_get S hK hP25 58 (by decide) hF27 (C := RX8) (T := TX8) (N := 23) hiX8 rfl 18 (by decide) (by decide +kernel) (v := .int (nI sa27)) rfl dX8_readsRoad_142 ?_
              have hA72 := fN_of (k := 14) (a := at27) hF27 rfl (by omega)
              have hL72 := fN_of (k := 1) (a := ty27) hF27 rfl (by omega)
              refine r_cVi (As := [.int (nI 4), .int (nI sa27)]) (rest := []) S hK hZ hP25 hS25 hl37.1 58 (by decide) hF27 (C := RX8) rfl (c_X8_isWrong l D cA ad t hI F25 hW25 (nI 4) (sa27) (by omega)) (cwV 2 S.2.2.2.2 gX8_readsRoad_X8_isWrong rfl rfl rfl (by decide +kernel) ⟨Nat.le_of_ble_eq_true rfl, Nat.le_of_ble_eq_true rfl⟩) rfl rfl (Nat.le_of_ble_eq_true rfl) ⟨Nat.zero_le _, Nat.zero_le _⟩ dX8_readsRoad_145 (fun r73 F73 H73 locs73 hr73 hP73 hS73 => ?_)
              obtain ⟨hW73, hFc73, hr73⟩ := hr73
              have hFr73 := hFr25.tr hFc73 (by simp <;> first | omega | (simp only [isC, isJ] at *; omega))
              obtain ⟨rfl, hz74⟩ := hr73
              obtain ⟨ty75, kn75, no75, en75, at75, sa75, sd75, wr75, pl75, va75, hF75, hb75_1, hb75_2, hb75_3, hb75_4, hb75_5, hb75_6⟩ := wt_m hW73
              have hA76 := fN_of (k := 14) (a := at75) hF75 rfl (by omega)
              have hL76 := fN_of (k := 1) (a := ty75) hF75 rfl (by omega)
              have hA77 := fN_of (k := 14) (a := at75) hF75 rfl (by omega)
              have hL77 := fN_of (k := 1) (a := ty75) hF75 rfl (by omega)
              exact hret 148 _ _ _ _ _ dX8_readsRoad_148 rfl hP73 hS73 ⟨hW73, hFr73, ⟨⟨0, by omega, rfl⟩, by omega, fun h => absurd rfl h⟩⟩
            have k78 := ci_nle (nI_toInt (n := b4) (by omega)) (nI_toInt (n := q337) (by omega)) c41
            refine lv_aload_n S.1 S.2.1 dX8_readsRoad_67 rfl (lv_at hl37 3 rfl) ?_
            refine r_get S hK hP25 58 (by decide) hF27 (C := RX8) (T := TX8) (N := 23) hiX8 rfl 3 (by decide) (by decide +kernel) (v := .ref (ad 61)) rfl dX8_readsRoad_68 ?_
            refine lv_bipush (v := (nI 28)) S.1 S.2.1 dX8_readsRoad_71 (by decide +kernel) ?_
            refine lv_iload_n S.1 S.2.1 dX8_readsRoad_73 rfl (lv_at hl37 0 rfl) ?_
            refine lv_iadd S.1 S.2.1 dX8_readsRoad_74 ?_
            refine lv_topi (fun v79 e79 => ?_)
            obtain rfl : v79 = nI (28 + q337) := e79.trans (nI_add _ _)
            refine r_iald S hK hP25 61 (by decide) hF38 (vp_in_nI (show 28 + q337 < 52 by omega) (by omega)) dX8_readsRoad_75 ?_
            refine lv_topi (fun v81 e81 => ?_)
            refine lv_istore (lv' := [(4, .int v81), (3, .int (nI q337)), (2, .int x37_2), (1, .int va13), (0, .ref (ad 58))]) S.1 S.2.1 dX8_readsRoad_76 hl37 (by decide) rfl (fun ls82 hl82 => ?_)
            refine lv_aload_n S.1 S.2.1 dX8_readsRoad_78 rfl (lv_at hl82 4 rfl) ?_
            refine r_get S hK hP25 58 (by decide) hF27 (C := RX8) (T := TX8) (N := 23) hiX8 rfl 3 (by decide) (by decide +kernel) (v := .ref (ad 61)) rfl dX8_readsRoad_79 ?_
            refine lv_bipush (v := (nI 40)) S.1 S.2.1 dX8_readsRoad_82 (by decide +kernel) ?_
            refine lv_iload_n S.1 S.2.1 dX8_readsRoad_84 rfl (lv_at hl82 1 rfl) ?_
            refine lv_iadd S.1 S.2.1 dX8_readsRoad_85 ?_
            refine lv_topi (fun v83 e83 => ?_)
            obtain rfl : v83 = nI (40 + q337) := e83.trans (nI_add _ _)
            refine r_iald S hK hP25 61 (by decide) hF38 (vp_in_nI (show 40 + q337 < 52 by omega) (by omega)) dX8_readsRoad_86 ?_
            refine lv_topi (fun v85 e85 => ?_)
            refine lv_istore (lv' := [(5, .int v85), (4, .int v81), (3, .int (nI q337)), (2, .int x37_2), (1, .int va13), (0, .ref (ad 58))]) S.1 S.2.1 dX8_readsRoad_87 hl82 (by decide) rfl (fun ls86 hl86 => ?_)
            refine lv_iload_n S.1 S.2.1 dX8_readsRoad_89 rfl (lv_at hl86 3 rfl) ?_
            refine lv_if_ne (tgt := 123) S.1 S.2.1 dX8_readsRoad_90 (by decide) (fun c87 => ?_) (fun c87 => ?_)
            · skip
              have k88 := ci_ne rfl z_ti c87
              refine lv_iconst (v := (nI 1)) S.1 S.2.1 dX8_readsRoad_123 (by decide +kernel) ?_
              refine lv_goto (tgt := 128) S.1 S.2.1 dX8_readsRoad_124 (by decide) ?_
              refine lv_istore_n (lv' := [(2, .int (nI 1)), (5, .int v85), (4, .int v81), (3, .int (nI q337)), (1, .int va13), (0, .ref (ad 58))]) S.1 S.2.1 dX8_readsRoad_128 rfl hl86 (by decide) rfl (fun ls89 hl89 => ?_)
              refine lv_iinc (v := (nI (q337 + 1))) (lv' := [(3, .int (nI (q337 + 1))), (2, .int (nI 1)), (5, .int v85), (4, .int v81), (1, .int va13), (0, .ref (ad 58))]) S.1 S.2.1 dX8_readsRoad_129 hl89 (k := 3) rfl (nI_add _ 1) (by decide) rfl (fun ls90 hl90 => ?_)
              refine lv_goto (tgt := 57) S.1 S.2.1 dX8_readsRoad_132 (by decide) ?_
              exact ih37 (q337 + 1) ((nI 1)) (by omega) (by omega) ls90 (lv_sub hl90 [0, 1, 4, 5] rfl)
            have k91 := ci_eq rfl z_ti c87
            refine lv_iload S.1 S.2.1 dX8_readsRoad_93 (lv_at hl86 1 rfl) ?_
            refine lv_iload_n S.1 S.2.1 dX8_readsRoad_95 rfl (lv_at hl86 4 rfl) ?_
            refine lv_icmp_ne (tgt := 108) S.1 S.2.1 dX8_readsRoad_96 (by decide) (fun c92 => ?_) (fun c92 => ?_)
            · skip
              have k93 := ci_ne rfl rfl c92
              refine lv_iload S.1 S.2.1 dX8_readsRoad_108 (lv_at hl86 1 rfl) ?_
              refine lv_aload_n S.1 S.2.1 dX8_readsRoad_110 rfl (lv_at hl86 5 rfl) ?_
              refine r_get S hK hP25 58 (by decide) hF27 (C := RX8) (T := TX8) (N := 23) hiX8 rfl 17 (by decide) (by decide +kernel) (v := .int va27) rfl dX8_readsRoad_111 ?_
              refine lv_icmp_ne (tgt := 127) S.1 S.2.1 dX8_readsRoad_114 (by decide) (fun c94 => ?_) (fun c94 => ?_)
              · skip
                have k95 := ci_ne rfl rfl c94
                refine lv_iconst (v := (nI 0)) S.1 S.2.1 dX8_readsRoad_127 (by decide +kernel) ?_
                refine lv_istore_n (lv' := [(2, .int (nI 0)), (5, .int v85), (4, .int v81), (3, .int (nI q337)), (1, .int va13), (0, .ref (ad 58))]) S.1 S.2.1 dX8_readsRoad_128 rfl hl86 (by decide) rfl (fun ls96 hl96 => ?_)
                refine lv_iinc (v := (nI (q337 + 1))) (lv' := [(3, .int (nI (q337 + 1))), (2, .int (nI 0)), (5, .int v85), (4, .int v81), (1, .int va13), (0, .ref (ad 58))]) S.1 S.2.1 dX8_readsRoad_129 hl96 (k := 3) rfl (nI_add _ 1) (by decide) rfl (fun ls97 hl97 => ?_)
                refine lv_goto (tgt := 57) S.1 S.2.1 dX8_readsRoad_132 (by decide) ?_
                exact ih37 (q337 + 1) ((nI 0)) (by omega) (by omega) ls97 (lv_sub hl97 [0, 1, 4, 5] rfl)
              have k98 := ci_eq rfl rfl c94
              refine lv_iload S.1 S.2.1 dX8_readsRoad_117 (lv_at hl86 0 rfl) ?_
              refine lv_iload_n S.1 S.2.1 dX8_readsRoad_119 rfl (lv_at hl86 4 rfl) ?_
              refine lv_icmp_ne (tgt := 127) S.1 S.2.1 dX8_readsRoad_120 (by decide) (fun c99 => ?_) (fun c99 => ?_)
              · skip
                have k100 := ci_ne rfl rfl c99
                refine lv_iconst (v := (nI 0)) S.1 S.2.1 dX8_readsRoad_127 (by decide +kernel) ?_
                refine lv_istore_n (lv' := [(2, .int (nI 0)), (5, .int v85), (4, .int v81), (3, .int (nI q337)), (1, .int va13), (0, .ref (ad 58))]) S.1 S.2.1 dX8_readsRoad_128 rfl hl86 (by decide) rfl (fun ls101 hl101 => ?_)
                refine lv_iinc (v := (nI (q337 + 1))) (lv' := [(3, .int (nI (q337 + 1))), (2, .int (nI 0)), (5, .int v85), (4, .int v81), (1, .int va13), (0, .ref (ad 58))]) S.1 S.2.1 dX8_readsRoad_129 hl101 (k := 3) rfl (nI_add _ 1) (by decide) rfl (fun ls102 hl102 => ?_)
                refine lv_goto (tgt := 57) S.1 S.2.1 dX8_readsRoad_132 (by decide) ?_
                exact ih37 (q337 + 1) ((nI 0)) (by omega) (by omega) ls102 (lv_sub hl102 [0, 1, 4, 5] rfl)
              have k103 := ci_eq rfl rfl c99
              refine lv_iconst (v := (nI 1)) S.1 S.2.1 dX8_readsRoad_123 (by decide +kernel) ?_
              refine lv_goto (tgt := 128) S.1 S.2.1 dX8_readsRoad_124 (by decide) ?_
              refine lv_istore_n (lv' := [(2, .int (nI 1)), (5, .int v85), (4, .int v81), (3, .int (nI q337)), (1, .int va13), (0, .ref (ad 58))]) S.1 S.2.1 dX8_readsRoad_128 rfl hl86 (by decide) rfl (fun ls104 hl104 => ?_)
              refine lv_iinc (v := (nI (q337 + 1))) (lv' := [(3, .int (nI (q337 + 1))), (2, .int (nI 1)), (5, .int v85), (4, .int v81), (1, .int va13), (0, .ref (ad 58))]) S.1 S.2.1 dX8_readsRoad_129 hl104 (k := 3) rfl (nI_add _ 1) (by decide) rfl (fun ls105 hl105 => ?_)
              refine lv_goto (tgt := 57) S.1 S.2.1 dX8_readsRoad_132 (by decide) ?_
              exact ih37 (q337 + 1) ((nI 1)) (by omega) (by omega) ls105 (lv_sub hl105 [0, 1, 4, 5] rfl)
            have k106 := ci_eq rfl rfl c92
            refine lv_iload S.1 S.2.1 dX8_readsRoad_99 (lv_at hl86 0 rfl) ?_
            refine lv_aload_n S.1 S.2.1 dX8_readsRoad_101 rfl (lv_at hl86 5 rfl) ?_
            refine r_get S hK hP25 58 (by decide) hF27 (C := RX8) (T := TX8) (N := 23) hiX8 rfl 17 (by decide) (by decide +kernel) (v := .int va27) rfl dX8_readsRoad_102 ?_
            refine lv_icmp_eq (tgt := 123) S.1 S.2.1 dX8_readsRoad_105 (by decide) (fun c107 => ?_) (fun c107 => ?_)
            · skip
              have k108 := ci_eq rfl rfl c107
              refine lv_iconst (v := (nI 1)) S.1 S.2.1 dX8_readsRoad_123 (by decide +kernel) ?_
              refine lv_goto (tgt := 128) S.1 S.2.1 dX8_readsRoad_124 (by decide) ?_
              refine lv_istore_n (lv' := [(2, .int (nI 1)), (5, .int v85), (4, .int v81), (3, .int (nI q337)), (1, .int va13), (0, .ref (ad 58))]) S.1 S.2.1 dX8_readsRoad_128 rfl hl86 (by decide) rfl (fun ls109 hl109 => ?_)
              refine lv_iinc (v := (nI (q337 + 1))) (lv' := [(3, .int (nI (q337 + 1))), (2, .int (nI 1)), (5, .int v85), (4, .int v81), (1, .int va13), (0, .ref (ad 58))]) S.1 S.2.1 dX8_readsRoad_129 hl109 (k := 3) rfl (nI_add _ 1) (by decide) rfl (fun ls110 hl110 => ?_)
              refine lv_goto (tgt := 57) S.1 S.2.1 dX8_readsRoad_132 (by decide) ?_
              exact ih37 (q337 + 1) ((nI 1)) (by omega) (by omega) ls110 (lv_sub hl110 [0, 1, 4, 5] rfl)
            have k111 := ci_ne rfl rfl c107
            refine lv_iload S.1 S.2.1 dX8_readsRoad_108 (lv_at hl86 1 rfl) ?_
            refine lv_aload_n S.1 S.2.1 dX8_readsRoad_110 rfl (lv_at hl86 5 rfl) ?_
            refine r_get S hK hP25 58 (by decide) hF27 (C := RX8) (T := TX8) (N := 23) hiX8 rfl 17 (by decide) (by decide +kernel) (v := .int va27) rfl dX8_readsRoad_111 ?_
            refine lv_icmp_ne (tgt := 127) S.1 S.2.1 dX8_readsRoad_114 (by decide) (fun c112 => ?_) (fun c112 => ?_)
            · skip
              have k113 := ci_ne rfl rfl c112
              refine lv_iconst (v := (nI 0)) S.1 S.2.1 dX8_readsRoad_127 (by decide +kernel) ?_
              refine lv_istore_n (lv' := [(2, .int (nI 0)), (5, .int v85), (4, .int v81), (3, .int (nI q337)), (1, .int va13), (0, .ref (ad 58))]) S.1 S.2.1 dX8_readsRoad_128 rfl hl86 (by decide) rfl (fun ls114 hl114 => ?_)
              refine lv_iinc (v := (nI (q337 + 1))) (lv' := [(3, .int (nI (q337 + 1))), (2, .int (nI 0)), (5, .int v85), (4, .int v81), (1, .int va13), (0, .ref (ad 58))]) S.1 S.2.1 dX8_readsRoad_129 hl114 (k := 3) rfl (nI_add _ 1) (by decide) rfl (fun ls115 hl115 => ?_)
              refine lv_goto (tgt := 57) S.1 S.2.1 dX8_readsRoad_132 (by decide) ?_
              exact ih37 (q337 + 1) ((nI 0)) (by omega) (by omega) ls115 (lv_sub hl115 [0, 1, 4, 5] rfl)
            have k116 := ci_eq rfl rfl c112
            refine lv_iload S.1 S.2.1 dX8_readsRoad_117 (lv_at hl86 0 rfl) ?_
            refine lv_iload_n S.1 S.2.1 dX8_readsRoad_119 rfl (lv_at hl86 4 rfl) ?_
            refine lv_icmp_ne (tgt := 127) S.1 S.2.1 dX8_readsRoad_120 (by decide) (fun c117 => ?_) (fun c117 => ?_)
            · skip
              have k118 := ci_ne rfl rfl c117
              refine lv_iconst (v := (nI 0)) S.1 S.2.1 dX8_readsRoad_127 (by decide +kernel) ?_
              refine lv_istore_n (lv' := [(2, .int (nI 0)), (5, .int v85), (4, .int v81), (3, .int (nI q337)), (1, .int va13), (0, .ref (ad 58))]) S.1 S.2.1 dX8_readsRoad_128 rfl hl86 (by decide) rfl (fun ls119 hl119 => ?_)
              refine lv_iinc (v := (nI (q337 + 1))) (lv' := [(3, .int (nI (q337 + 1))), (2, .int (nI 0)), (5, .int v85), (4, .int v81), (1, .int va13), (0, .ref (ad 58))]) S.1 S.2.1 dX8_readsRoad_129 hl119 (k := 3) rfl (nI_add _ 1) (by decide) rfl (fun ls120 hl120 => ?_)
              refine lv_goto (tgt := 57) S.1 S.2.1 dX8_readsRoad_132 (by decide) ?_
              exact ih37 (q337 + 1) ((nI 0)) (by omega) (by omega) ls120 (lv_sub hl120 [0, 1, 4, 5] rfl)
            have k121 := ci_eq rfl rfl c117
            refine lv_iconst (v := (nI 1)) S.1 S.2.1 dX8_readsRoad_123 (by decide +kernel) ?_
            refine lv_goto (tgt := 128) S.1 S.2.1 dX8_readsRoad_124 (by decide) ?_
            refine lv_istore_n (lv' := [(2, .int (nI 1)), (5, .int v85), (4, .int v81), (3, .int (nI q337)), (1, .int va13), (0, .ref (ad 58))]) S.1 S.2.1 dX8_readsRoad_128 rfl hl86 (by decide) rfl (fun ls122 hl122 => ?_)
            refine lv_iinc (v := (nI (q337 + 1))) (lv' := [(3, .int (nI (q337 + 1))), (2, .int (nI 1)), (5, .int v85), (4, .int v81), (1, .int va13), (0, .ref (ad 58))]) S.1 S.2.1 dX8_readsRoad_129 hl122 (k := 3) rfl (nI_add _ 1) (by decide) rfl (fun ls123 hl123 => ?_)
            refine lv_goto (tgt := 57) S.1 S.2.1 dX8_readsRoad_132 (by decide) ?_
            exact ih37 (q337 + 1) ((nI 1)) (by omega) (by omega) ls123 (lv_sub hl123 [0, 1, 4, 5] rfl)
        exact lp37 (12 - (0) + 1) (0) ((nI 0)) (by omega) (by omega) ls36 (lv_sub hl36 [0, 1, 2, 3] rfl)
      have k124 := ci_eq rfl rfl c33
      refine lv_iconst (v := (nI 1)) S.1 S.2.1 dX8_readsRoad_49 (by decide +kernel) ?_
      refine lv_goto (tgt := 54) S.1 S.2.1 dX8_readsRoad_50 (by decide) ?_
      refine lv_istore_n (lv' := [(2, .int (nI 1)), (1, .int va13), (0, .ref (ad 58))]) S.1 S.2.1 dX8_readsRoad_54 rfl hl19 (by decide) rfl (fun ls125 hl125 => ?_)
      refine lv_iconst (v := (nI 0)) S.1 S.2.1 dX8_readsRoad_55 (by decide +kernel) ?_
      refine lv_istore_n (lv' := [(3, .int (nI 0)), (2, .int (nI 1)), (1, .int va13), (0, .ref (ad 58))]) S.1 S.2.1 dX8_readsRoad_56 rfl hl125 (by decide) rfl (fun ls126 hl126 => ?_)
      have lp127 : ∀ (n127 : Nat) (q3127 : Nat) (x127_2 : Int32), q3127 ≤ 12 → 12 - q3127 < n127 → ∀ (ls : Array Slot), lv_has ls 6 [(3, .int (nI q3127)), (2, .int x127_2), (1, .int va13), (0, .ref (ad 58))] → W p l e { frames := 2, cells := 0, slots := 0, locals := 46 } s m args below meth c H25 locs25 0 0 Q (F0 m 57 ls []) := by
        intro n127
        induction n127 with
        | zero =>
          intro q3127 x127_2 iv127_0 hm127 ls127 hl127
          exact absurd hm127 (Nat.not_lt_zero _)
        | succ n127 ih127 =>
          intro q3127 x127_2 iv127_0 hm127 ls127 hl127
          refine lv_iload_n S.1 S.2.1 dX8_readsRoad_57 rfl (lv_at hl127 0 rfl) ?_
          refine lv_aload_n S.1 S.2.1 dX8_readsRoad_58 rfl (lv_at hl127 3 rfl) ?_
          refine r_get S hK hP25 58 (by decide) hF27 (C := RX8) (T := TX8) (N := 23) hiX8 rfl 3 (by decide) (by decide +kernel) (v := .ref (ad 61)) rfl dX8_readsRoad_59 ?_
          refine lv_iconst (v := (nI 3)) S.1 S.2.1 dX8_readsRoad_62 (by decide +kernel) ?_
          have hF128 := (hFc25 61 (by decide)).trans hF20
          refine r_iald S hK hP25 61 (by decide) hF128 (vp_in_nI (show 3 < 52 by omega) (by omega)) dX8_readsRoad_63 ?_
          refine lv_topi (fun v130 e130 => ?_)
          obtain rfl : v130 = nI b4 := e130.trans he4
          refine lv_icmp_ge (tgt := 135) S.1 S.2.1 dX8_readsRoad_64 (by decide) (fun c131 => ?_) (fun c131 => ?_)
          · skip
            have k132 := ci_le (nI_toInt (n := b4) (by omega)) (nI_toInt (n := q3127) (by omega)) c131
            refine lv_iload_n S.1 S.2.1 dX8_readsRoad_135 rfl (lv_at hl127 1 rfl) ?_
            refine lv_if_eq (tgt := 149) S.1 S.2.1 dX8_readsRoad_136 (by decide) (fun c133 => ?_) (fun c133 => ?_)
            · skip
              have k134 := ci_eq rfl z_ti c133
              refine lv_aload_n S.1 S.2.1 dX8_readsRoad_149 rfl (lv_at hl127 3 rfl) ?_
              refine r_get S hK hP25 58 (by decide) hF27 (C := RX8) (T := TX8) (N := 23) hiX8 rfl 3 (by decide) (by decide +kernel) (v := .ref (ad 61)) rfl dX8_readsRoad_150 ?_
              refine lv_bipush (v := (nI 28)) S.1 S.2.1 dX8_readsRoad_153 (by decide +kernel) ?_
              refine lv_aload_n S.1 S.2.1 dX8_readsRoad_155 rfl (lv_at hl127 3 rfl) ?_
              refine r_get S hK hP25 58 (by decide) hF27 (C := RX8) (T := TX8) (N := 23) hiX8 rfl 3 (by decide) (by decide +kernel) (v := .ref (ad 61)) rfl dX8_readsRoad_156 ?_
              refine lv_iconst (v := (nI 3)) S.1 S.2.1 dX8_readsRoad_159 (by decide +kernel) ?_
              refine r_iald S hK hP25 61 (by decide) hF128 (vp_in_nI (show 3 < 52 by omega) (by omega)) dX8_readsRoad_160 ?_
              refine lv_topi (fun v136 e136 => ?_)
              obtain rfl : v136 = nI b4 := e136.trans he4
              refine lv_iadd S.1 S.2.1 dX8_readsRoad_161 ?_
              refine lv_topi (fun v137 e137 => ?_)
              obtain rfl : v137 = nI (28 + b4) := e137.trans (nI_add _ _)
              refine lv_iload_n S.1 S.2.1 dX8_readsRoad_162 rfl (lv_at hl127 2 rfl) ?_
              refine r_iast S hI hK hP25 hS25 61 (by decide) hF128 (vp_in_nI (show 28 + b4 < 52 by omega) (by omega)) dX8_readsRoad_163 (fun F138 H138 locs138 eF138 hP138 hS138 => ?_)
              have hW138 := hW25.up eF138 (ok_I (show (61, 52) ∈ rLI by decide) (okI_up hg3 (by rw [nI_clamp (by omega)]; exact to_T (by decide) (okT_o (by omega) (by omega) (by omega)))))
              have hFr138 := hFr25.up eF138 (by simp <;> first | omega | (simp only [isC, isJ] at *; omega))
              obtain ⟨gg138, eg138⟩ : ∃ g9, g9 = upd g3 (nI (28 + b4)).toNatClampNeg va13 := ⟨_, rfl⟩
              have hF138 : F138 61 = .inl (cA 0, 52, .inl gg138) := by rw [eF138, eg138]; exact va_up_self _ _ _
              have hg138 : ∀ j, j < 52 → rPr 61 j (gg138 j) := by rw [eg138]; exact pr_up hg3 (by rw [nI_clamp (by omega)]; exact to_T (by decide) (okT_o (by omega) (by omega) (by omega)))
              have he139 : gg138 3 = nI b4 := by rw [eg138, pk_un (by rw [nI_clamp (by omega)]; omega)]; exact he4
              have he140 : gg138 2 = nI b8 := by rw [eg138, pk_un (by rw [nI_clamp (by omega)]; omega)]; exact he8
              refine lv_aload_n S.1 S.2.1 dX8_readsRoad_164 rfl (lv_at hl127 3 rfl) ?_
              have hF141 := (show F138 58 = F25 58 by rw [eF138]; exact va_up_ne _ _ (by decide)).trans hF27
              refine r_get S hK hP138 58 (by decide) hF141 (C := RX8) (T := TX8) (N := 23) hiX8 rfl 3 (by decide) (by decide +kernel) (v := .ref (ad 61)) rfl dX8_readsRoad_165 ?_
              refine lv_bipush (v := (nI 40)) S.1 S.2.1 dX8_readsRoad_168 (by decide +kernel) ?_
              refine lv_aload_n S.1 S.2.1 dX8_readsRoad_170 rfl (lv_at hl127 3 rfl) ?_
              refine r_get S hK hP138 58 (by decide) hF141 (C := RX8) (T := TX8) (N := 23) hiX8 rfl 3 (by decide) (by decide +kernel) (v := .ref (ad 61)) rfl dX8_readsRoad_171 ?_
              refine lv_iconst (v := (nI 3)) S.1 S.2.1 dX8_readsRoad_174 (by decide +kernel) ?_
              refine r_iald S hK hP138 61 (by decide) hF138 (vp_in_nI (show 3 < 52 by omega) (by omega)) dX8_readsRoad_175 ?_
              refine lv_topi (fun v143 e143 => ?_)
              obtain rfl : v143 = nI b4 := e143.trans he139
              refine lv_iadd S.1 S.2.1 dX8_readsRoad_176 ?_
              refine lv_topi (fun v144 e144 => ?_)
              obtain rfl : v144 = nI (40 + b4) := e144.trans (nI_add _ _)
              refine lv_aload_n S.1 S.2.1 dX8_readsRoad_177 rfl (lv_at hl127 3 rfl) ?_
              refine r_get S hK hP138 58 (by decide) hF141 (C := RX8) (T := TX8) (N := 23) hiX8 rfl 17 (by decide) (by decide +kernel) (v := .int va27) rfl dX8_readsRoad_178 ?_
              refine r_iast S hI hK hP138 hS138 61 (by decide) hF138 (vp_in_nI (show 40 + b4 < 52 by omega) (by omega)) dX8_readsRoad_181 (fun F145 H145 locs145 eF145 hP145 hS145 => ?_)
              have hW145 := hW138.up eF145 (ok_I (show (61, 52) ∈ rLI by decide) (okI_up hg138 (by rw [nI_clamp (by omega)]; exact to_T (by decide) (okT_o (by omega) (by omega) (by omega)))))
              have hFr145 := hFr138.up eF145 (by simp <;> first | omega | (simp only [isC, isJ] at *; omega))
              obtain ⟨gg145, eg145⟩ : ∃ g9, g9 = upd gg138 (nI (40 + b4)).toNatClampNeg va27 := ⟨_, rfl⟩
              have hF145 : F145 61 = .inl (cA 0, 52, .inl gg145) := by rw [eF145, eg145]; exact va_up_self _ _ _
              have hg145 : ∀ j, j < 52 → rPr 61 j (gg145 j) := by rw [eg145]; exact pr_up hg138 (by rw [nI_clamp (by omega)]; exact to_T (by decide) (okT_o (by omega) (by omega) (by omega)))
              have he146 : gg145 3 = nI b4 := by rw [eg145, pk_un (by rw [nI_clamp (by omega)]; omega)]; exact he139
              have he147 : gg145 2 = nI b8 := by rw [eg145, pk_un (by rw [nI_clamp (by omega)]; omega)]; exact he140
              refine lv_aload_n S.1 S.2.1 dX8_readsRoad_182 rfl (lv_at hl127 3 rfl) ?_
              have hF148 := (show F145 58 = F138 58 by rw [eF145]; exact va_up_ne _ _ (by decide)).trans hF141
              refine r_get S hK hP145 58 (by decide) hF148 (C := RX8) (T := TX8) (N := 23) hiX8 rfl 3 (by decide) (by decide +kernel) (v := .ref (ad 61)) rfl dX8_readsRoad_183 ?_
              refine lv_iconst (v := (nI 3)) S.1 S.2.1 dX8_readsRoad_186 (by decide +kernel) ?_
              refine lv_dup2_11 S.1 S.2.1 dX8_readsRoad_187 rfl rfl ?_
              refine r_iald S hK hP145 61 (by decide) hF145 (vp_in_nI (show 3 < 52 by omega) (by omega)) dX8_readsRoad_188 ?_
              refine lv_topi (fun v150 e150 => ?_)
              obtain rfl : v150 = nI b4 := e150.trans he146
              refine lv_iconst (v := (nI 1)) S.1 S.2.1 dX8_readsRoad_189 (by decide +kernel) ?_
              refine lv_iadd S.1 S.2.1 dX8_readsRoad_190 ?_
              refine lv_topi (fun v151 e151 => ?_)
              obtain rfl : v151 = nI (b4 + 1) := e151.trans (nI_add _ _)
              refine r_iast S hI hK hP145 hS145 61 (by decide) hF145 (vp_in_nI (show 3 < 52 by omega) (by omega)) dX8_readsRoad_191 (fun F152 H152 locs152 eF152 hP152 hS152 => ?_)
              have hW152 := hW145.up eF152 (ok_I (show (61, 52) ∈ rLI by decide) (okI_up hg145 (by rw [nI_clamp (by omega)]; exact to_T (by decide) (okT_3 ⟨b4 + 1, by omega, rfl⟩))))
              have hFr152 := hFr145.up eF152 (by simp <;> first | omega | (simp only [isC, isJ] at *; omega))
              obtain ⟨gg152, eg152⟩ : ∃ g9, g9 = upd gg145 (nI 3).toNatClampNeg (nI (b4 + 1)) := ⟨_, rfl⟩
              have hF152 : F152 61 = .inl (cA 0, 52, .inl gg152) := by rw [eF152, eg152]; exact va_up_self _ _ _
              have hg152 : ∀ j, j < 52 → rPr 61 j (gg152 j) := by rw [eg152]; exact pr_up hg145 (by rw [nI_clamp (by omega)]; exact to_T (by decide) (okT_3 ⟨b4 + 1, by omega, rfl⟩))
              have he153 : gg152 2 = nI b8 := by rw [eg152, pk_un (by rw [nI_clamp (by omega)]; omega)]; exact he147
              refine lv_aload_n S.1 S.2.1 dX8_readsRoad_192 rfl (lv_at hl127 3 rfl) ?_
              have hF154 := (show F152 58 = F145 58 by rw [eF152]; exact va_up_ne _ _ (by decide)).trans hF148
              have hA155 := fN_of (k := 14) (a := at27) hF154 rfl (by omega)
              have hL155 := fN_of (k := 1) (a := ty27) hF154 rfl (by omega)
              refine r_cVi (As := []) (rest := []) S hK hZ hP152 hS152 hl127.1 58 (by decide) hF154 (C := RX8) rfl (c_X8_ends l D cA ad t hI F152 hW152 ) (cwV 0 S.2.2.2.2 gX8_readsRoad_X8_ends rfl rfl rfl (by decide +kernel) ⟨Nat.le_of_ble_eq_true rfl, Nat.le_of_ble_eq_true rfl⟩) rfl rfl (Nat.le_of_ble_eq_true rfl) ⟨Nat.zero_le _, Nat.zero_le _⟩ dX8_readsRoad_193 (fun r156 F156 H156 locs156 hr156 hP156 hS156 => ?_)
              obtain ⟨hW156, hFc156, hr156⟩ := hr156
              have hFr156 := hFr152.tr hFc156 (by simp <;> first | omega | (simp only [isC, isJ] at *; omega))
              obtain ⟨⟨b157, hb157, rfl⟩, hz157, hx157⟩ := hr156
              obtain ⟨ty158, kn158, no158, en158, at158, sa158, sd158, wr158, pl158, va158, hF158, hb158_1, hb158_2, hb158_3, hb158_4, hb158_5, hb158_6⟩ := wt_m hW156
              have hA159 := fN_of (k := 14) (a := at158) hF158 rfl (by omega)
              have hL159 := fN_of (k := 1) (a := ty158) hF158 rfl (by omega)
              have hy157 : b157 ≠ 0 → _ := fun q => hx157 (nI_ne0 (by omega) (by omega))
              have hA160 := fN_of (k := 14) (a := at158) hF158 rfl (by omega)
              have hL160 := fN_of (k := 1) (a := ty158) hF158 rfl (by omega)
              exact hret 196 _ _ _ _ _ dX8_readsRoad_196 (nar_bool (by omega)) hP156 hS156 ⟨hW156, hFr156, ⟨⟨b157, by omega, rfl⟩, by omega, fun h => by have hb9 : b157 ≠ 0 := fun q => h (by rw [q]; rfl); omega⟩⟩
            have k161 := ci_ne rfl z_ti c133
            refine lv_aload_n S.1 S.2.1 dX8_readsRoad_139 rfl (lv_at hl127 3 rfl) ?_
            refine lv_iconst (v := (nI 4)) S.1 S.2.1 dX8_readsRoad_140 (by decide +kernel) ?_
            refine lv_aload_n S.1 S.2.1 dX8_readsRoad_141 rfl (lv_at hl127 3 rfl) ?_
            refine r_get S hK hP25 58 (by decide) hF27 (C := RX8) (T := TX8) (N := 23) hiX8 rfl 18 (by decide) (by decide +kernel) (v := .int (nI sa27)) rfl dX8_readsRoad_142 ?_
            have hA162 := fN_of (k := 14) (a := at27) hF27 rfl (by omega)
            have hL162 := fN_of (k := 1) (a := ty27) hF27 rfl (by omega)
            refine r_cVi (As := [.int (nI 4), .int (nI sa27)]) (rest := []) S hK hZ hP25 hS25 hl127.1 58 (by decide) hF27 (C := RX8) rfl (c_X8_isWrong l D cA ad t hI F25 hW25 (nI 4) (sa27) (by omega)) (cwV 2 S.2.2.2.2 gX8_readsRoad_X8_isWrong rfl rfl rfl (by decide +kernel) ⟨Nat.le_of_ble_eq_true rfl, Nat.le_of_ble_eq_true rfl⟩) rfl rfl (Nat.le_of_ble_eq_true rfl) ⟨Nat.zero_le _, Nat.zero_le _⟩ dX8_readsRoad_145 (fun r163 F163 H163 locs163 hr163 hP163 hS163 => ?_)
            obtain ⟨hW163, hFc163, hr163⟩ := hr163
            have hFr163 := hFr25.tr hFc163 (by simp <;> first | omega | (simp only [isC, isJ] at *; omega))
            obtain ⟨rfl, hz164⟩ := hr163
            obtain ⟨ty165, kn165, no165, en165, at165, sa165, sd165, wr165, pl165, va165, hF165, hb165_1, hb165_2, hb165_3, hb165_4, hb165_5, hb165_6⟩ := wt_m hW163
            have hA166 := fN_of (k := 14) (a := at165) hF165 rfl (by omega)
            have hL166 := fN_of (k := 1) (a := ty165) hF165 rfl (by omega)
            have hA167 := fN_of (k := 14) (a := at165) hF165 rfl (by omega)
            have hL167 := fN_of (k := 1) (a := ty165) hF165 rfl (by omega)
            exact hret 148 _ _ _ _ _ dX8_readsRoad_148 rfl hP163 hS163 ⟨hW163, hFr163, ⟨⟨0, by omega, rfl⟩, by omega, fun h => absurd rfl h⟩⟩
          have k168 := ci_nle (nI_toInt (n := b4) (by omega)) (nI_toInt (n := q3127) (by omega)) c131
          refine lv_aload_n S.1 S.2.1 dX8_readsRoad_67 rfl (lv_at hl127 3 rfl) ?_
          refine r_get S hK hP25 58 (by decide) hF27 (C := RX8) (T := TX8) (N := 23) hiX8 rfl 3 (by decide) (by decide +kernel) (v := .ref (ad 61)) rfl dX8_readsRoad_68 ?_
          refine lv_bipush (v := (nI 28)) S.1 S.2.1 dX8_readsRoad_71 (by decide +kernel) ?_
          refine lv_iload_n S.1 S.2.1 dX8_readsRoad_73 rfl (lv_at hl127 0 rfl) ?_
          refine lv_iadd S.1 S.2.1 dX8_readsRoad_74 ?_
          refine lv_topi (fun v169 e169 => ?_)
          obtain rfl : v169 = nI (28 + q3127) := e169.trans (nI_add _ _)
          refine r_iald S hK hP25 61 (by decide) hF128 (vp_in_nI (show 28 + q3127 < 52 by omega) (by omega)) dX8_readsRoad_75 ?_
          refine lv_topi (fun v171 e171 => ?_)
          refine lv_istore (lv' := [(4, .int v171), (3, .int (nI q3127)), (2, .int x127_2), (1, .int va13), (0, .ref (ad 58))]) S.1 S.2.1 dX8_readsRoad_76 hl127 (by decide) rfl (fun ls172 hl172 => ?_)
          refine lv_aload_n S.1 S.2.1 dX8_readsRoad_78 rfl (lv_at hl172 4 rfl) ?_
          refine r_get S hK hP25 58 (by decide) hF27 (C := RX8) (T := TX8) (N := 23) hiX8 rfl 3 (by decide) (by decide +kernel) (v := .ref (ad 61)) rfl dX8_readsRoad_79 ?_
          refine lv_bipush (v := (nI 40)) S.1 S.2.1 dX8_readsRoad_82 (by decide +kernel) ?_
          refine lv_iload_n S.1 S.2.1 dX8_readsRoad_84 rfl (lv_at hl172 1 rfl) ?_
          refine lv_iadd S.1 S.2.1 dX8_readsRoad_85 ?_
          refine lv_topi (fun v173 e173 => ?_)
          obtain rfl : v173 = nI (40 + q3127) := e173.trans (nI_add _ _)
          refine r_iald S hK hP25 61 (by decide) hF128 (vp_in_nI (show 40 + q3127 < 52 by omega) (by omega)) dX8_readsRoad_86 ?_
          refine lv_topi (fun v175 e175 => ?_)
          refine lv_istore (lv' := [(5, .int v175), (4, .int v171), (3, .int (nI q3127)), (2, .int x127_2), (1, .int va13), (0, .ref (ad 58))]) S.1 S.2.1 dX8_readsRoad_87 hl172 (by decide) rfl (fun ls176 hl176 => ?_)
          refine lv_iload_n S.1 S.2.1 dX8_readsRoad_89 rfl (lv_at hl176 3 rfl) ?_
          refine lv_if_ne (tgt := 123) S.1 S.2.1 dX8_readsRoad_90 (by decide) (fun c177 => ?_) (fun c177 => ?_)
          · skip
            have k178 := ci_ne rfl z_ti c177
            refine lv_iconst (v := (nI 1)) S.1 S.2.1 dX8_readsRoad_123 (by decide +kernel) ?_
            refine lv_goto (tgt := 128) S.1 S.2.1 dX8_readsRoad_124 (by decide) ?_
            refine lv_istore_n (lv' := [(2, .int (nI 1)), (5, .int v175), (4, .int v171), (3, .int (nI q3127)), (1, .int va13), (0, .ref (ad 58))]) S.1 S.2.1 dX8_readsRoad_128 rfl hl176 (by decide) rfl (fun ls179 hl179 => ?_)
            refine lv_iinc (v := (nI (q3127 + 1))) (lv' := [(3, .int (nI (q3127 + 1))), (2, .int (nI 1)), (5, .int v175), (4, .int v171), (1, .int va13), (0, .ref (ad 58))]) S.1 S.2.1 dX8_readsRoad_129 hl179 (k := 3) rfl (nI_add _ 1) (by decide) rfl (fun ls180 hl180 => ?_)
            refine lv_goto (tgt := 57) S.1 S.2.1 dX8_readsRoad_132 (by decide) ?_
            exact ih127 (q3127 + 1) ((nI 1)) (by omega) (by omega) ls180 (lv_sub hl180 [0, 1, 4, 5] rfl)
          have k181 := ci_eq rfl z_ti c177
          refine lv_iload S.1 S.2.1 dX8_readsRoad_93 (lv_at hl176 1 rfl) ?_
          refine lv_iload_n S.1 S.2.1 dX8_readsRoad_95 rfl (lv_at hl176 4 rfl) ?_
          refine lv_icmp_ne (tgt := 108) S.1 S.2.1 dX8_readsRoad_96 (by decide) (fun c182 => ?_) (fun c182 => ?_)
          · skip
            have k183 := ci_ne rfl rfl c182
            refine lv_iload S.1 S.2.1 dX8_readsRoad_108 (lv_at hl176 1 rfl) ?_
            refine lv_aload_n S.1 S.2.1 dX8_readsRoad_110 rfl (lv_at hl176 5 rfl) ?_
            refine r_get S hK hP25 58 (by decide) hF27 (C := RX8) (T := TX8) (N := 23) hiX8 rfl 17 (by decide) (by decide +kernel) (v := .int va27) rfl dX8_readsRoad_111 ?_
            refine lv_icmp_ne (tgt := 127) S.1 S.2.1 dX8_readsRoad_114 (by decide) (fun c184 => ?_) (fun c184 => ?_)
            · skip
              have k185 := ci_ne rfl rfl c184
              refine lv_iconst (v := (nI 0)) S.1 S.2.1 dX8_readsRoad_127 (by decide +kernel) ?_
              refine lv_istore_n (lv' := [(2, .int (nI 0)), (5, .int v175), (4, .int v171), (3, .int (nI q3127)), (1, .int va13), (0, .ref (ad 58))]) S.1 S.2.1 dX8_readsRoad_128 rfl hl176 (by decide) rfl (fun ls186 hl186 => ?_)
              refine lv_iinc (v := (nI (q3127 + 1))) (lv' := [(3, .int (nI (q3127 + 1))), (2, .int (nI 0)), (5, .int v175), (4, .int v171), (1, .int va13), (0, .ref (ad 58))]) S.1 S.2.1 dX8_readsRoad_129 hl186 (k := 3) rfl (nI_add _ 1) (by decide) rfl (fun ls187 hl187 => ?_)
              refine lv_goto (tgt := 57) S.1 S.2.1 dX8_readsRoad_132 (by decide) ?_
              exact ih127 (q3127 + 1) ((nI 0)) (by omega) (by omega) ls187 (lv_sub hl187 [0, 1, 4, 5] rfl)
            have k188 := ci_eq rfl rfl c184
            refine lv_iload S.1 S.2.1 dX8_readsRoad_117 (lv_at hl176 0 rfl) ?_
            refine lv_iload_n S.1 S.2.1 dX8_readsRoad_119 rfl (lv_at hl176 4 rfl) ?_
            refine lv_icmp_ne (tgt := 127) S.1 S.2.1 dX8_readsRoad_120 (by decide) (fun c189 => ?_) (fun c189 => ?_)
            · skip
              have k190 := ci_ne rfl rfl c189
              refine lv_iconst (v := (nI 0)) S.1 S.2.1 dX8_readsRoad_127 (by decide +kernel) ?_
              refine lv_istore_n (lv' := [(2, .int (nI 0)), (5, .int v175), (4, .int v171), (3, .int (nI q3127)), (1, .int va13), (0, .ref (ad 58))]) S.1 S.2.1 dX8_readsRoad_128 rfl hl176 (by decide) rfl (fun ls191 hl191 => ?_)
              refine lv_iinc (v := (nI (q3127 + 1))) (lv' := [(3, .int (nI (q3127 + 1))), (2, .int (nI 0)), (5, .int v175), (4, .int v171), (1, .int va13), (0, .ref (ad 58))]) S.1 S.2.1 dX8_readsRoad_129 hl191 (k := 3) rfl (nI_add _ 1) (by decide) rfl (fun ls192 hl192 => ?_)
              refine lv_goto (tgt := 57) S.1 S.2.1 dX8_readsRoad_132 (by decide) ?_
              exact ih127 (q3127 + 1) ((nI 0)) (by omega) (by omega) ls192 (lv_sub hl192 [0, 1, 4, 5] rfl)
            have k193 := ci_eq rfl rfl c189
            refine lv_iconst (v := (nI 1)) S.1 S.2.1 dX8_readsRoad_123 (by decide +kernel) ?_
            refine lv_goto (tgt := 128) S.1 S.2.1 dX8_readsRoad_124 (by decide) ?_
            refine lv_istore_n (lv' := [(2, .int (nI 1)), (5, .int v175), (4, .int v171), (3, .int (nI q3127)), (1, .int va13), (0, .ref (ad 58))]) S.1 S.2.1 dX8_readsRoad_128 rfl hl176 (by decide) rfl (fun ls194 hl194 => ?_)
            refine lv_iinc (v := (nI (q3127 + 1))) (lv' := [(3, .int (nI (q3127 + 1))), (2, .int (nI 1)), (5, .int v175), (4, .int v171), (1, .int va13), (0, .ref (ad 58))]) S.1 S.2.1 dX8_readsRoad_129 hl194 (k := 3) rfl (nI_add _ 1) (by decide) rfl (fun ls195 hl195 => ?_)
            refine lv_goto (tgt := 57) S.1 S.2.1 dX8_readsRoad_132 (by decide) ?_
            exact ih127 (q3127 + 1) ((nI 1)) (by omega) (by omega) ls195 (lv_sub hl195 [0, 1, 4, 5] rfl)
          have k196 := ci_eq rfl rfl c182
          refine lv_iload S.1 S.2.1 dX8_readsRoad_99 (lv_at hl176 0 rfl) ?_
          refine lv_aload_n S.1 S.2.1 dX8_readsRoad_101 rfl (lv_at hl176 5 rfl) ?_
          refine r_get S hK hP25 58 (by decide) hF27 (C := RX8) (T := TX8) (N := 23) hiX8 rfl 17 (by decide) (by decide +kernel) (v := .int va27) rfl dX8_readsRoad_102 ?_
          refine lv_icmp_eq (tgt := 123) S.1 S.2.1 dX8_readsRoad_105 (by decide) (fun c197 => ?_) (fun c197 => ?_)
          · skip
            have k198 := ci_eq rfl rfl c197
            refine lv_iconst (v := (nI 1)) S.1 S.2.1 dX8_readsRoad_123 (by decide +kernel) ?_
            refine lv_goto (tgt := 128) S.1 S.2.1 dX8_readsRoad_124 (by decide) ?_
            refine lv_istore_n (lv' := [(2, .int (nI 1)), (5, .int v175), (4, .int v171), (3, .int (nI q3127)), (1, .int va13), (0, .ref (ad 58))]) S.1 S.2.1 dX8_readsRoad_128 rfl hl176 (by decide) rfl (fun ls199 hl199 => ?_)
            refine lv_iinc (v := (nI (q3127 + 1))) (lv' := [(3, .int (nI (q3127 + 1))), (2, .int (nI 1)), (5, .int v175), (4, .int v171), (1, .int va13), (0, .ref (ad 58))]) S.1 S.2.1 dX8_readsRoad_129 hl199 (k := 3) rfl (nI_add _ 1) (by decide) rfl (fun ls200 hl200 => ?_)
            refine lv_goto (tgt := 57) S.1 S.2.1 dX8_readsRoad_132 (by decide) ?_
            exact ih127 (q3127 + 1) ((nI 1)) (by omega) (by omega) ls200 (lv_sub hl200 [0, 1, 4, 5] rfl)
          have k201 := ci_ne rfl rfl c197
          refine lv_iload S.1 S.2.1 dX8_readsRoad_108 (lv_at hl176 1 rfl) ?_
          refine lv_aload_n S.1 S.2.1 dX8_readsRoad_110 rfl (lv_at hl176 5 rfl) ?_
          refine r_get S hK hP25 58 (by decide) hF27 (C := RX8) (T := TX8) (N := 23) hiX8 rfl 17 (by decide) (by decide +kernel) (v := .int va27) rfl dX8_readsRoad_111 ?_
          refine lv_icmp_ne (tgt := 127) S.1 S.2.1 dX8_readsRoad_114 (by decide) (fun c202 => ?_) (fun c202 => ?_)
          · skip
            have k203 := ci_ne rfl rfl c202
            refine lv_iconst (v := (nI 0)) S.1 S.2.1 dX8_readsRoad_127 (by decide +kernel) ?_
            refine lv_istore_n (lv' := [(2, .int (nI 0)), (5, .int v175), (4, .int v171), (3, .int (nI q3127)), (1, .int va13), (0, .ref (ad 58))]) S.1 S.2.1 dX8_readsRoad_128 rfl hl176 (by decide) rfl (fun ls204 hl204 => ?_)
            refine lv_iinc (v := (nI (q3127 + 1))) (lv' := [(3, .int (nI (q3127 + 1))), (2, .int (nI 0)), (5, .int v175), (4, .int v171), (1, .int va13), (0, .ref (ad 58))]) S.1 S.2.1 dX8_readsRoad_129 hl204 (k := 3) rfl (nI_add _ 1) (by decide) rfl (fun ls205 hl205 => ?_)
            refine lv_goto (tgt := 57) S.1 S.2.1 dX8_readsRoad_132 (by decide) ?_
            exact ih127 (q3127 + 1) ((nI 0)) (by omega) (by omega) ls205 (lv_sub hl205 [0, 1, 4, 5] rfl)
          have k206 := ci_eq rfl rfl c202
          refine lv_iload S.1 S.2.1 dX8_readsRoad_117 (lv_at hl176 0 rfl) ?_
          refine lv_iload_n S.1 S.2.1 dX8_readsRoad_119 rfl (lv_at hl176 4 rfl) ?_
          refine lv_icmp_ne (tgt := 127) S.1 S.2.1 dX8_readsRoad_120 (by decide) (fun c207 => ?_) (fun c207 => ?_)
          · skip
            have k208 := ci_ne rfl rfl c207
            refine lv_iconst (v := (nI 0)) S.1 S.2.1 dX8_readsRoad_127 (by decide +kernel) ?_
            refine lv_istore_n (lv' := [(2, .int (nI 0)), (5, .int v175), (4, .int v171), (3, .int (nI q3127)), (1, .int va13), (0, .ref (ad 58))]) S.1 S.2.1 dX8_readsRoad_128 rfl hl176 (by decide) rfl (fun ls209 hl209 => ?_)
            refine lv_iinc (v := (nI (q3127 + 1))) (lv' := [(3, .int (nI (q3127 + 1))), (2, .int (nI 0)), (5, .int v175), (4, .int v171), (1, .int va13), (0, .ref (ad 58))]) S.1 S.2.1 dX8_readsRoad_129 hl209 (k := 3) rfl (nI_add _ 1) (by decide) rfl (fun ls210 hl210 => ?_)
            refine lv_goto (tgt := 57) S.1 S.2.1 dX8_readsRoad_132 (by decide) ?_
            exact ih127 (q3127 + 1) ((nI 0)) (by omega) (by omega) ls210 (lv_sub hl210 [0, 1, 4, 5] rfl)
          have k211 := ci_eq rfl rfl c207
          refine lv_iconst (v := (nI 1)) S.1 S.2.1 dX8_readsRoad_123 (by decide +kernel) ?_
          refine lv_goto (tgt := 128) S.1 S.2.1 dX8_readsRoad_124 (by decide) ?_
          refine lv_istore_n (lv' := [(2, .int (nI 1)), (5, .int v175), (4, .int v171), (3, .int (nI q3127)), (1, .int va13), (0, .ref (ad 58))]) S.1 S.2.1 dX8_readsRoad_128 rfl hl176 (by decide) rfl (fun ls212 hl212 => ?_)
          refine lv_iinc (v := (nI (q3127 + 1))) (lv' := [(3, .int (nI (q3127 + 1))), (2, .int (nI 1)), (5, .int v175), (4, .int v171), (1, .int va13), (0, .ref (ad 58))]) S.1 S.2.1 dX8_readsRoad_129 hl212 (k := 3) rfl (nI_add _ 1) (by decide) rfl (fun ls213 hl213 => ?_)
          refine lv_goto (tgt := 57) S.1 S.2.1 dX8_readsRoad_132 (by decide) ?_
          exact ih127 (q3127 + 1) ((nI 1)) (by omega) (by omega) ls213 (lv_sub hl213 [0, 1, 4, 5] rfl)
      exact lp127 (12 - (0) + 1) (0) ((nI 1)) (by omega) (by omega) ls126 (lv_sub hl126 [0, 1, 2, 3] rfl)
    have k214 := ci_eq (nI_toInt (n := b26) (by omega)) z_ti c31
    refine lv_iconst (v := (nI 0)) S.1 S.2.1 dX8_readsRoad_39 (by decide +kernel) ?_
    have hA215 := fN_of (k := 14) (a := at27) hF27 rfl (by omega)
    have hL215 := fN_of (k := 1) (a := ty27) hF27 rfl (by omega)
    exact hret 40 _ _ _ _ _ dX8_readsRoad_40 rfl hP25 hS25 ⟨hW25, hFr25, ⟨⟨0, by omega, rfl⟩, by omega, fun h => absurd rfl h⟩⟩
  have k216 := ci_eq (nI_toInt (n := b12) (by omega)) z_ti c17
  refine lv_iconst (v := (nI 0)) S.1 S.2.1 dX8_readsRoad_16 (by decide +kernel) ?_
  have hA217 := fN_of (k := 14) (a := at13) hF13 rfl (by omega)
  have hL217 := fN_of (k := 1) (a := ty13) hF13 rfl (by omega)
  exact hret 17 _ _ _ _ _ dX8_readsRoad_17 rfl hP11 hS11 ⟨hW11, hFr11, ⟨⟨0, by omega, rfl⟩, by omega, fun h => absurd rfl h⟩⟩
set_option maxHeartbeats 4000000 in
set_option maxRecDepth 100000 in
theorem c_X8_readsClause (l : Launch) (D : va_G) (cA ad : Nat → Nat) (t : Nat) (hI : rI ad) (F : Nat → va_E) (hW : WT cA ad F) (p1 : Int32) (hat : p1.toInt = -1 ∨ fN (F 58) 14 < fN (F 58) 1) : MI l D cA ad t yX8_readsClause wsX8_readsClause { frames := 3, cells := 0, slots := 0, locals := 71 } [.ref (ad 58), .int p1] F (fun r F' => WT cA ad F' ∧ rFr [58, 61] F F' ∧ (le32 1 r ∧ fN (F' 58) 1 = fN (F 58) 1 ∧ (r ≠ 0 → fN (F 58) 14 < fN (F' 58) 14))) := by
  refine en_I rfl (by decide +kernel) (Nat.le_of_ble_eq_true rfl) ?_
  intro p e s m args below meth c ls0 Q S hK hZ hP hS hl0 hret
  have hl0 : lv_has ls0 3 [(0, .ref (ad 58)), (1, .int p1)] := hl0
  have hFr : rFr [58, 61] F F := rFr.rf
  have hiX8 : ∀ w ∈ u_ws RX8 TX8 23, w ∈ wsX8_readsClause := by decide +kernel
  obtain ⟨ty1, kn1, no1, en1, at1, sa1, sd1, wr1, pl1, va1, hF1, hb1_1, hb1_2, hb1_3, hb1_4, hb1_5, hb1_6⟩ := wt_m hW
  have hA2 := fN_of (k := 14) (a := at1) hF1 rfl (by omega)
  have hL2 := fN_of (k := 1) (a := ty1) hF1 rfl (by omega)
  refine lv_aload_n S.1 S.2.1 dX8_readsClause_0 rfl (lv_at hl0 0 rfl) ?_
  refine r_get S hK hP 58 (by decide) hF1 (C := RX8) (T := TX8) (N := 23) hiX8 rfl 3 (by decide) (by decide +kernel) (v := .ref (ad 61)) rfl dX8_readsClause_1 ?_
  refine lv_iconst (v := (nI 0)) S.1 S.2.1 dX8_readsClause_4 (by decide +kernel) ?_
  obtain ⟨g3, hF3, hg3⟩ := wt_I hW (show (61, 52) ∈ rLI by decide)
  refine r_iald S hK hP 61 (by decide) hF3 (vp_in_nI (show 0 < 52 by omega) (by omega)) dX8_readsClause_5 ?_
  refine lv_topi (fun v5 e5 => ?_)
  obtain ⟨b6, hb6, he6⟩ := (pr_T (by decide) (hg3 0 (by decide))).1 rfl
  obtain rfl : v5 = nI b6 := e5.trans he6
  refine lv_if_ne (tgt := 13) S.1 S.2.1 dX8_readsClause_6 (by decide) (fun c7 => ?_) (fun c7 => ?_)
  · skip
    have k8 := ci_ne (nI_toInt (n := b6) (by omega)) z_ti c7
    refine lv_iconst (v := (nI 0)) S.1 S.2.1 dX8_readsClause_13 (by decide +kernel) ?_
    refine lv_istore_n (lv' := [(2, .int (nI 0)), (0, .ref (ad 58)), (1, .int p1)]) S.1 S.2.1 dX8_readsClause_14 rfl hl0 (by decide) rfl (fun ls9 hl9 => ?_)
    refine lv_iload_n S.1 S.2.1 dX8_readsClause_15 rfl (lv_at hl9 2 rfl) ?_
    refine lv_bipush (v := (nI 108)) S.1 S.2.1 dX8_readsClause_16 (by decide +kernel) ?_
    refine lv_icmp_eq (tgt := 33) S.1 S.2.1 dX8_readsClause_18 (by decide) (fun c10 => ?_) (fun c10 => ?_)
    · skip
      have k11 := ci_eq rfl (nI_toInt (n := 108) (by omega)) c10
      refine lv_iload_n S.1 S.2.1 dX8_readsClause_33 rfl (lv_at hl9 0 rfl) ?_
      refine lv_iload_n S.1 S.2.1 dX8_readsClause_34 rfl (lv_at hl9 2 rfl) ?_
      refine lv_bipush (v := (nI 108)) S.1 S.2.1 dX8_readsClause_35 (by decide +kernel) ?_
      refine lv_icmp_ne (tgt := 44) S.1 S.2.1 dX8_readsClause_37 (by decide) (fun c12 => absurd c10 c12) (fun c12 => ?_)
      have k13 := ci_eq rfl (nI_toInt (n := 108) (by omega)) c12
      refine lv_iconst (v := (nI 1)) S.1 S.2.1 dX8_readsClause_40 (by decide +kernel) ?_
      refine lv_goto (tgt := 45) S.1 S.2.1 dX8_readsClause_41 (by decide) ?_
      refine lv_icmp_eq (tgt := 62) S.1 S.2.1 dX8_readsClause_45 (by decide) (fun c14 => absurd c14 (by decide +kernel)) (fun c14 => ?_)
      have k15 := ci_ne (nI_toInt (n := 0) (by omega)) (nI_toInt (n := 1) (by omega)) c14
      refine lv_iload_n S.1 S.2.1 dX8_readsClause_48 rfl (lv_at hl9 0 rfl) ?_
      refine lv_if_eq (tgt := 62) S.1 S.2.1 dX8_readsClause_49 (by decide) (fun c16 => ?_) (fun c16 => absurd (by decide +kernel) c16)
      have k17 := ci_eq (nI_toInt (n := 0) (by omega)) z_ti c16
      refine lv_iload_n S.1 S.2.1 dX8_readsClause_62 rfl (lv_at hl9 0 rfl) ?_
      refine lv_if_ne (tgt := 72) S.1 S.2.1 dX8_readsClause_63 (by decide) (fun c18 => absurd (by decide +kernel) c18) (fun c18 => ?_)
      have k19 := ci_eq (nI_toInt (n := 0) (by omega)) z_ti c18
      refine lv_iload_n S.1 S.2.1 dX8_readsClause_66 rfl (lv_at hl9 2 rfl) ?_
      refine lv_bipush (v := (nI 108)) S.1 S.2.1 dX8_readsClause_67 (by decide +kernel) ?_
      refine lv_icmp_eq (tgt := 106) S.1 S.2.1 dX8_readsClause_69 (by decide) (fun c20 => ?_) (fun c20 => absurd c12 c20)
      have k21 := ci_eq rfl (nI_toInt (n := 108) (by omega)) c20
      refine lv_aload_n S.1 S.2.1 dX8_readsClause_106 rfl (lv_at hl9 1 rfl) ?_
      refine lv_iconst (v := (nI 3)) S.1 S.2.1 dX8_readsClause_107 (by decide +kernel) ?_
      refine lv_aload_n S.1 S.2.1 dX8_readsClause_108 rfl (lv_at hl9 1 rfl) ?_
      refine r_get S hK hP 58 (by decide) hF1 (C := RX8) (T := TX8) (N := 23) hiX8 rfl 14 (by decide) (by decide +kernel) (v := .int (nI at1)) rfl dX8_readsClause_109 ?_
      have hA22 := fN_of (k := 14) (a := at1) hF1 rfl (by omega)
      have hL22 := fN_of (k := 1) (a := ty1) hF1 rfl (by omega)
      refine r_cVi (As := [.int (nI 3), .int (nI at1)]) (rest := []) S hK hZ hP hS hl9.1 58 (by decide) hF1 (C := RX8) rfl (c_X8_isWrong l D cA ad t hI F hW (nI 3) (at1) (by omega)) (cwV 2 S.2.2.2.2 gX8_readsClause_X8_isWrong rfl rfl rfl (by decide +kernel) ⟨Nat.le_of_ble_eq_true rfl, Nat.le_of_ble_eq_true rfl⟩) rfl rfl (Nat.le_of_ble_eq_true rfl) ⟨Nat.zero_le _, Nat.zero_le _⟩ dX8_readsClause_112 (fun r23 F23 H23 locs23 hr23 hP23 hS23 => ?_)
      obtain ⟨hW23, hFc23, hr23⟩ := hr23
      have hFr23 := hFr.tr hFc23 (by simp <;> first | omega | (simp only [isC, isJ] at *; omega))
      obtain ⟨rfl, hz24⟩ := hr23
      obtain ⟨ty25, kn25, no25, en25, at25, sa25, sd25, wr25, pl25, va25, hF25, hb25_1, hb25_2, hb25_3, hb25_4, hb25_5, hb25_6⟩ := wt_m hW23
      have hA26 := fN_of (k := 14) (a := at25) hF25 rfl (by omega)
      have hL26 := fN_of (k := 1) (a := ty25) hF25 rfl (by omega)
      have hA27 := fN_of (k := 14) (a := at25) hF25 rfl (by omega)
      have hL27 := fN_of (k := 1) (a := ty25) hF25 rfl (by omega)
      exact hret 115 _ _ _ _ _ dX8_readsClause_115 rfl hP23 hS23 ⟨hW23, hFr23, ⟨⟨0, by omega, rfl⟩, by omega, fun h => absurd rfl h⟩⟩
    have k28 := ci_ne rfl (nI_toInt (n := 108) (by omega)) c10
    refine lv_iload_n S.1 S.2.1 dX8_readsClause_21 rfl (lv_at hl9 2 rfl) ?_
    refine lv_bipush (v := (nI 116)) S.1 S.2.1 dX8_readsClause_22 (by decide +kernel) ?_
    refine lv_icmp_eq (tgt := 33) S.1 S.2.1 dX8_readsClause_24 (by decide) (fun c29 => ?_) (fun c29 => ?_)
    · skip
      have k30 := ci_eq rfl (nI_toInt (n := 116) (by omega)) c29
      refine lv_iload_n S.1 S.2.1 dX8_readsClause_33 rfl (lv_at hl9 0 rfl) ?_
      refine lv_iload_n S.1 S.2.1 dX8_readsClause_34 rfl (lv_at hl9 2 rfl) ?_
      refine lv_bipush (v := (nI 108)) S.1 S.2.1 dX8_readsClause_35 (by decide +kernel) ?_
      refine lv_icmp_ne (tgt := 44) S.1 S.2.1 dX8_readsClause_37 (by decide) (fun c31 => ?_) (fun c31 => absurd c31 c10)
      have k32 := ci_ne rfl (nI_toInt (n := 108) (by omega)) c31
      refine lv_iconst (v := (nI 0)) S.1 S.2.1 dX8_readsClause_44 (by decide +kernel) ?_
      refine lv_icmp_eq (tgt := 62) S.1 S.2.1 dX8_readsClause_45 (by decide) (fun c33 => ?_) (fun c33 => absurd (by decide +kernel) c33)
      have k34 := ci_eq (nI_toInt (n := 0) (by omega)) (nI_toInt (n := 0) (by omega)) c33
      refine lv_iload_n S.1 S.2.1 dX8_readsClause_62 rfl (lv_at hl9 0 rfl) ?_
      refine lv_if_ne (tgt := 72) S.1 S.2.1 dX8_readsClause_63 (by decide) (fun c35 => absurd (by decide +kernel) c35) (fun c35 => ?_)
      have k36 := ci_eq (nI_toInt (n := 0) (by omega)) z_ti c35
      refine lv_iload_n S.1 S.2.1 dX8_readsClause_66 rfl (lv_at hl9 2 rfl) ?_
      refine lv_bipush (v := (nI 108)) S.1 S.2.1 dX8_readsClause_67 (by decide +kernel) ?_
      refine lv_icmp_eq (tgt := 106) S.1 S.2.1 dX8_readsClause_69 (by decide) (fun c37 => absurd c37 c31) (fun c37 => ?_)
      have k38 := ci_ne rfl (nI_toInt (n := 108) (by omega)) c37
      refine lv_iload_n S.1 S.2.1 dX8_readsClause_72 rfl (lv_at hl9 2 rfl) ?_
      refine lv_bipush (v := (nI 116)) S.1 S.2.1 dX8_readsClause_73 (by decide +kernel) ?_
      refine lv_icmp_ne (tgt := 89) S.1 S.2.1 dX8_readsClause_75 (by decide) (fun c39 => absurd c29 c39) (fun c39 => ?_)
      have k40 := ci_eq rfl (nI_toInt (n := 116) (by omega)) c39
      refine lv_aload_n S.1 S.2.1 dX8_readsClause_78 rfl (lv_at hl9 1 rfl) ?_
      refine r_get S hK hP 58 (by decide) hF1 (C := RX8) (T := TX8) (N := 23) hiX8 rfl 3 (by decide) (by decide +kernel) (v := .ref (ad 61)) rfl dX8_readsClause_79 ?_
      refine lv_iconst (v := (nI 2)) S.1 S.2.1 dX8_readsClause_82 (by decide +kernel) ?_
      refine r_iald S hK hP 61 (by decide) hF3 (vp_in_nI (show 2 < 52 by omega) (by omega)) dX8_readsClause_83 ?_
      refine lv_topi (fun v42 e42 => ?_)
      obtain ⟨b43, hb43, he43⟩ := (pr_T (by decide) (hg3 2 (by decide))).2.1 rfl
      obtain rfl : v42 = nI b43 := e42.trans he43
      refine lv_bipush (v := (nI 8)) S.1 S.2.1 dX8_readsClause_84 (by decide +kernel) ?_
      refine lv_icmp_eq (tgt := 106) S.1 S.2.1 dX8_readsClause_86 (by decide) (fun c44 => ?_) (fun c44 => ?_)
      · skip
        have k45 := ci_eq (nI_toInt (n := b43) (by omega)) (nI_toInt (n := 8) (by omega)) c44
        refine lv_aload_n S.1 S.2.1 dX8_readsClause_106 rfl (lv_at hl9 1 rfl) ?_
        refine lv_iconst (v := (nI 3)) S.1 S.2.1 dX8_readsClause_107 (by decide +kernel) ?_
        refine lv_aload_n S.1 S.2.1 dX8_readsClause_108 rfl (lv_at hl9 1 rfl) ?_
        refine r_get S hK hP 58 (by decide) hF1 (C := RX8) (T := TX8) (N := 23) hiX8 rfl 14 (by decide) (by decide +kernel) (v := .int (nI at1)) rfl dX8_readsClause_109 ?_
        have hA46 := fN_of (k := 14) (a := at1) hF1 rfl (by omega)
        have hL46 := fN_of (k := 1) (a := ty1) hF1 rfl (by omega)
        refine r_cVi (As := [.int (nI 3), .int (nI at1)]) (rest := []) S hK hZ hP hS hl9.1 58 (by decide) hF1 (C := RX8) rfl (c_X8_isWrong l D cA ad t hI F hW (nI 3) (at1) (by omega)) (cwV 2 S.2.2.2.2 gX8_readsClause_X8_isWrong rfl rfl rfl (by decide +kernel) ⟨Nat.le_of_ble_eq_true rfl, Nat.le_of_ble_eq_true rfl⟩) rfl rfl (Nat.le_of_ble_eq_true rfl) ⟨Nat.zero_le _, Nat.zero_le _⟩ dX8_readsClause_112 (fun r47 F47 H47 locs47 hr47 hP47 hS47 => ?_)
        obtain ⟨hW47, hFc47, hr47⟩ := hr47
        have hFr47 := hFr.tr hFc47 (by simp <;> first | omega | (simp only [isC, isJ] at *; omega))
        obtain ⟨rfl, hz48⟩ := hr47
        obtain ⟨ty49, kn49, no49, en49, at49, sa49, sd49, wr49, pl49, va49, hF49, hb49_1, hb49_2, hb49_3, hb49_4, hb49_5, hb49_6⟩ := wt_m hW47
        have hA50 := fN_of (k := 14) (a := at49) hF49 rfl (by omega)
        have hL50 := fN_of (k := 1) (a := ty49) hF49 rfl (by omega)
        have hA51 := fN_of (k := 14) (a := at49) hF49 rfl (by omega)
        have hL51 := fN_of (k := 1) (a := ty49) hF49 rfl (by omega)
        exact hret 115 _ _ _ _ _ dX8_readsClause_115 rfl hP47 hS47 ⟨hW47, hFr47, ⟨⟨0, by omega, rfl⟩, by omega, fun h => absurd rfl h⟩⟩
      have k52 := ci_ne (nI_toInt (n := b43) (by omega)) (nI_toInt (n := 8) (by omega)) c44
      refine lv_iload_n S.1 S.2.1 dX8_readsClause_89 rfl (lv_at hl9 2 rfl) ?_
      refine lv_bipush (v := (nI 114)) S.1 S.2.1 dX8_readsClause_90 (by decide +kernel) ?_
      refine lv_icmp_ne (tgt := 116) S.1 S.2.1 dX8_readsClause_92 (by decide) (fun c53 => ?_) (fun c53 => ?_)
      · skip
        have k54 := ci_ne rfl (nI_toInt (n := 114) (by omega)) c53
        refine lv_aload_n S.1 S.2.1 dX8_readsClause_116 rfl (lv_at hl9 1 rfl) ?_
        refine lv_dup S.1 S.2.1 dX8_readsClause_117 rfl ?_
        refine r_get S hK hP 58 (by decide) hF1 (C := RX8) (T := TX8) (N := 23) hiX8 rfl 14 (by decide) (by decide +kernel) (v := .int (nI at1)) rfl dX8_readsClause_118 ?_
        refine lv_iconst (v := (nI 1)) S.1 S.2.1 dX8_readsClause_121 (by decide +kernel) ?_
        refine lv_iadd S.1 S.2.1 dX8_readsClause_122 ?_
        refine lv_topi (fun v55 e55 => ?_)
        obtain rfl : v55 = nI (at1 + 1) := e55.trans (nI_add _ _)
        refine r_put S hI hK hP hS 58 (by decide) hF1 (C := RX8) (T := TX8) (N := 23) hiX8 tyX8_ok nmX8 rfl 14 (by decide) (by decide +kernel) rfl rfl rfl (Nat.le_of_ble_eq_true rfl) dX8_readsClause_123 (fun F56 H56 locs56 eF56 hP56 hS56 => ?_)
        have hF56 : F56 58 = .inr (8, [.ref (ad 59), .int (nI ty1), .ref (ad 60), .ref (ad 61), .ref (ad 62), .ref (ad 63), .int (nI kn1), .ref (ad 64), .ref (ad 65), .int sd1, .ref (ad 66), .int (nI no1), .ref (ad 67), .int (nI en1), .int (nI (at1 + 1)), .int wr1, .int pl1, .int va1, .int (nI sa1), .ref (ad 68), .ref (ad 69), .ref (ad 70), .ref (ad 71)]) := by rw [eF56]; exact va_up_self _ _ _
        have hW56 := hW.up eF56 (ok_m ⟨ty1, kn1, no1, en1, at1 + 1, sa1, sd1, wr1, pl1, va1, rfl, by omega, by omega, by omega, by omega, by omega, by omega⟩)
        have hFr56 := hFr.up eF56 (by simp <;> first | omega | (simp only [isC, isJ] at *; omega))
        refine lv_iload_n S.1 S.2.1 dX8_readsClause_126 rfl (lv_at hl9 2 rfl) ?_
        refine lv_bipush (v := (nI 108)) S.1 S.2.1 dX8_readsClause_127 (by decide +kernel) ?_
        refine lv_icmp_ne (tgt := 139) S.1 S.2.1 dX8_readsClause_129 (by decide) (fun c57 => ?_) (fun c57 => absurd c57 c37)
        have k58 := ci_ne rfl (nI_toInt (n := 108) (by omega)) c57
        refine lv_iload_n S.1 S.2.1 dX8_readsClause_139 rfl (lv_at hl9 2 rfl) ?_
        refine lv_bipush (v := (nI 116)) S.1 S.2.1 dX8_readsClause_140 (by decide +kernel) ?_
        refine lv_icmp_ne (tgt := 152) S.1 S.2.1 dX8_readsClause_142 (by decide) (fun c59 => absurd c39 c59) (fun c59 => ?_)
        have k60 := ci_eq rfl (nI_toInt (n := 116) (by omega)) c59
        refine lv_aload_n S.1 S.2.1 dX8_readsClause_145 rfl (lv_at hl9 1 rfl) ?_
        have hA61 := fN_of (k := 14) (a := at1 + 1) hF56 rfl (by omega)
        have hL61 := fN_of (k := 1) (a := ty1) hF56 rfl (by omega)
        have hF63 := (show F56 61 = F 61 by rw [eF56]; exact va_up_ne _ _ (by decide)).trans hF3
        have hN64 := aN_of (j := 2) hF63 he43 (by omega)
        refine r_cVi (As := []) (rest := []) S hK hZ hP56 hS56 hl9.1 58 (by decide) hF56 (C := RX8) rfl (c_X8_readsTown l D cA ad t hI F56 hW56 (by omega)) (cwV 0 S.2.2.2.2 gX8_readsClause_X8_readsTown rfl rfl rfl (by decide +kernel) ⟨Nat.le_of_ble_eq_true rfl, Nat.le_of_ble_eq_true rfl⟩) rfl rfl (Nat.le_of_ble_eq_true rfl) ⟨Nat.zero_le _, Nat.zero_le _⟩ dX8_readsClause_146 (fun r62 F62 H62 locs62 hr62 hP62 hS62 => ?_)
        obtain ⟨hW62, hFc62, hr62⟩ := hr62
        have hFr62 := hFr56.tr hFc62 (by simp <;> first | omega | (simp only [isC, isJ] at *; omega))
        obtain ⟨⟨b65, hb65, rfl⟩, hz65, hx65⟩ := hr62
        obtain ⟨ty66, kn66, no66, en66, at66, sa66, sd66, wr66, pl66, va66, hF66, hb66_1, hb66_2, hb66_3, hb66_4, hb66_5, hb66_6⟩ := wt_m hW62
        have hA67 := fN_of (k := 14) (a := at66) hF66 rfl (by omega)
        have hL67 := fN_of (k := 1) (a := ty66) hF66 rfl (by omega)
        have hy65 : b65 ≠ 0 → _ := fun q => hx65 (nI_ne0 (by omega) (by omega))
        refine lv_goto (tgt := 156) S.1 S.2.1 dX8_readsClause_149 (by decide) ?_
        have hA68 := fN_of (k := 14) (a := at66) hF66 rfl (by omega)
        have hL68 := fN_of (k := 1) (a := ty66) hF66 rfl (by omega)
        exact hret 156 _ _ _ _ _ dX8_readsClause_156 (nar_bool (by omega)) hP62 hS62 ⟨hW62, hFr62, ⟨⟨b65, by omega, rfl⟩, by omega, fun h => by have hb9 : b65 ≠ 0 := fun q => h (by rw [q]; rfl); omega⟩⟩
      have k69 := ci_eq rfl (nI_toInt (n := 114) (by omega)) c53
      refine lv_aload_n S.1 S.2.1 dX8_readsClause_95 rfl (lv_at hl9 1 rfl) ?_
      refine r_get S hK hP 58 (by decide) hF1 (C := RX8) (T := TX8) (N := 23) hiX8 rfl 3 (by decide) (by decide +kernel) (v := .ref (ad 61)) rfl dX8_readsClause_96 ?_
      refine lv_iconst (v := (nI 3)) S.1 S.2.1 dX8_readsClause_99 (by decide +kernel) ?_
      refine r_iald S hK hP 61 (by decide) hF3 (vp_in_nI (show 3 < 52 by omega) (by omega)) dX8_readsClause_100 ?_
      refine lv_topi (fun v71 e71 => ?_)
      obtain ⟨b72, hb72, he72⟩ := (pr_T (by decide) (hg3 3 (by decide))).2.2 rfl
      obtain rfl : v71 = nI b72 := e71.trans he72
      refine lv_bipush (v := (nI 12)) S.1 S.2.1 dX8_readsClause_101 (by decide +kernel) ?_
      refine lv_icmp_ne (tgt := 116) S.1 S.2.1 dX8_readsClause_103 (by decide) (fun c73 => ?_) (fun c73 => ?_)
      · skip
        have k74 := ci_ne (nI_toInt (n := b72) (by omega)) (nI_toInt (n := 12) (by omega)) c73
        refine lv_aload_n S.1 S.2.1 dX8_readsClause_116 rfl (lv_at hl9 1 rfl) ?_
        refine lv_dup S.1 S.2.1 dX8_readsClause_117 rfl ?_
        refine r_get S hK hP 58 (by decide) hF1 (C := RX8) (T := TX8) (N := 23) hiX8 rfl 14 (by decide) (by decide +kernel) (v := .int (nI at1)) rfl dX8_readsClause_118 ?_
        refine lv_iconst (v := (nI 1)) S.1 S.2.1 dX8_readsClause_121 (by decide +kernel) ?_
        refine lv_iadd S.1 S.2.1 dX8_readsClause_122 ?_
        refine lv_topi (fun v75 e75 => ?_)
        obtain rfl : v75 = nI (at1 + 1) := e75.trans (nI_add _ _)
        refine r_put S hI hK hP hS 58 (by decide) hF1 (C := RX8) (T := TX8) (N := 23) hiX8 tyX8_ok nmX8 rfl 14 (by decide) (by decide +kernel) rfl rfl rfl (Nat.le_of_ble_eq_true rfl) dX8_readsClause_123 (fun F76 H76 locs76 eF76 hP76 hS76 => ?_)
        have hF76 : F76 58 = .inr (8, [.ref (ad 59), .int (nI ty1), .ref (ad 60), .ref (ad 61), .ref (ad 62), .ref (ad 63), .int (nI kn1), .ref (ad 64), .ref (ad 65), .int sd1, .ref (ad 66), .int (nI no1), .ref (ad 67), .int (nI en1), .int (nI (at1 + 1)), .int wr1, .int pl1, .int va1, .int (nI sa1), .ref (ad 68), .ref (ad 69), .ref (ad 70), .ref (ad 71)]) := by rw [eF76]; exact va_up_self _ _ _
        have hW76 := hW.up eF76 (ok_m ⟨ty1, kn1, no1, en1, at1 + 1, sa1, sd1, wr1, pl1, va1, rfl, by omega, by omega, by omega, by omega, by omega, by omega⟩)
        have hFr76 := hFr.up eF76 (by simp <;> first | omega | (simp only [isC, isJ] at *; omega))
        refine lv_iload_n S.1 S.2.1 dX8_readsClause_126 rfl (lv_at hl9 2 rfl) ?_
        refine lv_bipush (v := (nI 108)) S.1 S.2.1 dX8_readsClause_127 (by decide +kernel) ?_
        refine lv_icmp_ne (tgt := 139) S.1 S.2.1 dX8_readsClause_129 (by decide) (fun c77 => ?_) (fun c77 => absurd c77 c37)
        have k78 := ci_ne rfl (nI_toInt (n := 108) (by omega)) c77
        refine lv_iload_n S.1 S.2.1 dX8_readsClause_139 rfl (lv_at hl9 2 rfl) ?_
        refine lv_bipush (v := (nI 116)) S.1 S.2.1 dX8_readsClause_140 (by decide +kernel) ?_
        refine lv_icmp_ne (tgt := 152) S.1 S.2.1 dX8_readsClause_142 (by decide) (fun c79 => absurd c39 c79) (fun c79 => ?_)
        have k80 := ci_eq rfl (nI_toInt (n := 116) (by omega)) c79
        refine lv_aload_n S.1 S.2.1 dX8_readsClause_145 rfl (lv_at hl9 1 rfl) ?_
        have hA81 := fN_of (k := 14) (a := at1 + 1) hF76 rfl (by omega)
        have hL81 := fN_of (k := 1) (a := ty1) hF76 rfl (by omega)
        have hF83 := (show F76 61 = F 61 by rw [eF76]; exact va_up_ne _ _ (by decide)).trans hF3
        have hN84 := aN_of (j := 2) hF83 he43 (by omega)
        refine r_cVi (As := []) (rest := []) S hK hZ hP76 hS76 hl9.1 58 (by decide) hF76 (C := RX8) rfl (c_X8_readsTown l D cA ad t hI F76 hW76 (by omega)) (cwV 0 S.2.2.2.2 gX8_readsClause_X8_readsTown rfl rfl rfl (by decide +kernel) ⟨Nat.le_of_ble_eq_true rfl, Nat.le_of_ble_eq_true rfl⟩) rfl rfl (Nat.le_of_ble_eq_true rfl) ⟨Nat.zero_le _, Nat.zero_le _⟩ dX8_readsClause_146 (fun r82 F82 H82 locs82 hr82 hP82 hS82 => ?_)
        obtain ⟨hW82, hFc82, hr82⟩ := hr82
        have hFr82 := hFr76.tr hFc82 (by simp <;> first | omega | (simp only [isC, isJ] at *; omega))
        obtain ⟨⟨b85, hb85, rfl⟩, hz85, hx85⟩ := hr82
        obtain ⟨ty86, kn86, no86, en86, at86, sa86, sd86, wr86, pl86, va86, hF86, hb86_1, hb86_2, hb86_3, hb86_4, hb86_5, hb86_6⟩ := wt_m hW82
        have hA87 := fN_of (k := 14) (a := at86) hF86 rfl (by omega)
        have hL87 := fN_of (k := 1) (a := ty86) hF86 rfl (by omega)
        have hy85 : b85 ≠ 0 → _ := fun q => hx85 (nI_ne0 (by omega) (by omega))
        refine lv_goto (tgt := 156) S.1 S.2.1 dX8_readsClause_149 (by decide) ?_
        have hA88 := fN_of (k := 14) (a := at86) hF86 rfl (by omega)
        have hL88 := fN_of (k := 1) (a := ty86) hF86 rfl (by omega)
        exact hret 156 _ _ _ _ _ dX8_readsClause_156 (nar_bool (by omega)) hP82 hS82 ⟨hW82, hFr82, ⟨⟨b85, by omega, rfl⟩, by omega, fun h => by have hb9 : b85 ≠ 0 := fun q => h (by rw [q]; rfl); omega⟩⟩
      have k89 := ci_eq (nI_toInt (n := b72) (by omega)) (nI_toInt (n := 12) (by omega)) c73
      refine lv_aload_n S.1 S.2.1 dX8_readsClause_106 rfl (lv_at hl9 1 rfl) ?_
      refine lv_iconst (v := (nI 3)) S.1 S.2.1 dX8_readsClause_107 (by decide +kernel) ?_
      refine lv_aload_n S.1 S.2.1 dX8_readsClause_108 rfl (lv_at hl9 1 rfl) ?_
      refine r_get S hK hP 58 (by decide) hF1 (C := RX8) (T := TX8) (N := 23) hiX8 rfl 14 (by decide) (by decide +kernel) (v := .int (nI at1)) rfl dX8_readsClause_109 ?_
      have hA90 := fN_of (k := 14) (a := at1) hF1 rfl (by omega)
      have hL90 := fN_of (k := 1) (a := ty1) hF1 rfl (by omega)
      refine r_cVi (As := [.int (nI 3), .int (nI at1)]) (rest := []) S hK hZ hP hS hl9.1 58 (by decide) hF1 (C := RX8) rfl (c_X8_isWrong l D cA ad t hI F hW (nI 3) (at1) (by omega)) (cwV 2 S.2.2.2.2 gX8_readsClause_X8_isWrong rfl rfl rfl (by decide +kernel) ⟨Nat.le_of_ble_eq_true rfl, Nat.le_of_ble_eq_true rfl⟩) rfl rfl (Nat.le_of_ble_eq_true rfl) ⟨Nat.zero_le _, Nat.zero_le _⟩ dX8_readsClause_112 (fun r91 F91 H91 locs91 hr91 hP91 hS91 => ?_)
      obtain ⟨hW91, hFc91, hr91⟩ := hr91
      have hFr91 := hFr.tr hFc91 (by simp <;> first | omega | (simp only [isC, isJ] at *; omega))
      obtain ⟨rfl, hz92⟩ := hr91
      obtain ⟨ty93, kn93, no93, en93, at93, sa93, sd93, wr93, pl93, va93, hF93, hb93_1, hb93_2, hb93_3, hb93_4, hb93_5, hb93_6⟩ := wt_m hW91
      have hA94 := fN_of (k := 14) (a := at93) hF93 rfl (by omega)
      have hL94 := fN_of (k := 1) (a := ty93) hF93 rfl (by omega)
      have hA95 := fN_of (k := 14) (a := at93) hF93 rfl (by omega)
      have hL95 := fN_of (k := 1) (a := ty93) hF93 rfl (by omega)
      exact hret 115 _ _ _ _ _ dX8_readsClause_115 rfl hP91 hS91 ⟨hW91, hFr91, ⟨⟨0, by omega, rfl⟩, by omega, fun h => absurd rfl h⟩⟩
    have k96 := ci_ne rfl (nI_toInt (n := 116) (by omega)) c29
    refine lv_iload_n S.1 S.2.1 dX8_readsClause_27 rfl (lv_at hl9 2 rfl) ?_
    refine lv_bipush (v := (nI 114)) S.1 S.2.1 dX8_readsClause_28 (by decide +kernel) ?_
    refine lv_icmp_ne (tgt := 52) S.1 S.2.1 dX8_readsClause_30 (by decide) (fun c97 => ?_) (fun c97 => ?_)
    · skip
      have k98 := ci_ne rfl (nI_toInt (n := 114) (by omega)) c97
      refine lv_aload_n S.1 S.2.1 dX8_readsClause_52 rfl (lv_at hl9 1 rfl) ?_
      refine lv_iconst (v := (nI 1)) S.1 S.2.1 dX8_readsClause_53 (by decide +kernel) ?_
      refine lv_aload_n S.1 S.2.1 dX8_readsClause_54 rfl (lv_at hl9 1 rfl) ?_
      refine r_get S hK hP 58 (by decide) hF1 (C := RX8) (T := TX8) (N := 23) hiX8 rfl 14 (by decide) (by decide +kernel) (v := .int (nI at1)) rfl dX8_readsClause_55 ?_
      have hA99 := fN_of (k := 14) (a := at1) hF1 rfl (by omega)
      have hL99 := fN_of (k := 1) (a := ty1) hF1 rfl (by omega)
      refine r_cVi (As := [.int (nI 1), .int (nI at1)]) (rest := []) S hK hZ hP hS hl9.1 58 (by decide) hF1 (C := RX8) rfl (c_X8_isWrong l D cA ad t hI F hW (nI 1) (at1) (by omega)) (cwV 2 S.2.2.2.2 gX8_readsClause_X8_isWrong rfl rfl rfl (by decide +kernel) ⟨Nat.le_of_ble_eq_true rfl, Nat.le_of_ble_eq_true rfl⟩) rfl rfl (Nat.le_of_ble_eq_true rfl) ⟨Nat.zero_le _, Nat.zero_le _⟩ dX8_readsClause_58 (fun r100 F100 H100 locs100 hr100 hP100 hS100 => ?_)
      obtain ⟨hW100, hFc100, hr100⟩ := hr100
      have hFr100 := hFr.tr hFc100 (by simp <;> first | omega | (simp only [isC, isJ] at *; omega))
      obtain ⟨rfl, hz101⟩ := hr100
      obtain ⟨ty102, kn102, no102, en102, at102, sa102, sd102, wr102, pl102, va102, hF102, hb102_1, hb102_2, hb102_3, hb102_4, hb102_5, hb102_6⟩ := wt_m hW100
      have hA103 := fN_of (k := 14) (a := at102) hF102 rfl (by omega)
      have hL103 := fN_of (k := 1) (a := ty102) hF102 rfl (by omega)
      have hA104 := fN_of (k := 14) (a := at102) hF102 rfl (by omega)
      have hL104 := fN_of (k := 1) (a := ty102) hF102 rfl (by omega)
      exact hret 61 _ _ _ _ _ dX8_readsClause_61 rfl hP100 hS100 ⟨hW100, hFr100, ⟨⟨0, by omega, rfl⟩, by omega, fun h => absurd rfl h⟩⟩
    have k105 := ci_eq rfl (nI_toInt (n := 114) (by omega)) c97
    refine lv_iload_n S.1 S.2.1 dX8_readsClause_33 rfl (lv_at hl9 0 rfl) ?_
    refine lv_iload_n S.1 S.2.1 dX8_readsClause_34 rfl (lv_at hl9 2 rfl) ?_
    refine lv_bipush (v := (nI 108)) S.1 S.2.1 dX8_readsClause_35 (by decide +kernel) ?_
    refine lv_icmp_ne (tgt := 44) S.1 S.2.1 dX8_readsClause_37 (by decide) (fun c106 => ?_) (fun c106 => absurd c106 c10)
    have k107 := ci_ne rfl (nI_toInt (n := 108) (by omega)) c106
    refine lv_iconst (v := (nI 0)) S.1 S.2.1 dX8_readsClause_44 (by decide +kernel) ?_
    refine lv_icmp_eq (tgt := 62) S.1 S.2.1 dX8_readsClause_45 (by decide) (fun c108 => ?_) (fun c108 => absurd (by decide +kernel) c108)
    have k109 := ci_eq (nI_toInt (n := 0) (by omega)) (nI_toInt (n := 0) (by omega)) c108
    refine lv_iload_n S.1 S.2.1 dX8_readsClause_62 rfl (lv_at hl9 0 rfl) ?_
    refine lv_if_ne (tgt := 72) S.1 S.2.1 dX8_readsClause_63 (by decide) (fun c110 => absurd (by decide +kernel) c110) (fun c110 => ?_)
    have k111 := ci_eq (nI_toInt (n := 0) (by omega)) z_ti c110
    refine lv_iload_n S.1 S.2.1 dX8_readsClause_66 rfl (lv_at hl9 2 rfl) ?_
    refine lv_bipush (v := (nI 108)) S.1 S.2.1 dX8_readsClause_67 (by decide +kernel) ?_
    refine lv_icmp_eq (tgt := 106) S.1 S.2.1 dX8_readsClause_69 (by decide) (fun c112 => absurd c112 c106) (fun c112 => ?_)
    have k113 := ci_ne rfl (nI_toInt (n := 108) (by omega)) c112
    refine lv_iload_n S.1 S.2.1 dX8_readsClause_72 rfl (lv_at hl9 2 rfl) ?_
    refine lv_bipush (v := (nI 116)) S.1 S.2.1 dX8_readsClause_73 (by decide +kernel) ?_
    refine lv_icmp_ne (tgt := 89) S.1 S.2.1 dX8_readsClause_75 (by decide) (fun c114 => ?_) (fun c114 => absurd c114 c29)
    have k115 := ci_ne rfl (nI_toInt (n := 116) (by omega)) c114
    refine lv_iload_n S.1 S.2.1 dX8_readsClause_89 rfl (lv_at hl9 2 rfl) ?_
    refine lv_bipush (v := (nI 114)) S.1 S.2.1 dX8_readsClause_90 (by decide +kernel) ?_
    refine lv_icmp_ne (tgt := 116) S.1 S.2.1 dX8_readsClause_92 (by decide) (fun c116 => absurd c97 c116) (fun c116 => ?_)
    have k117 := ci_eq rfl (nI_toInt (n := 114) (by omega)) c116
    refine lv_aload_n S.1 S.2.1 dX8_readsClause_95 rfl (lv_at hl9 1 rfl) ?_
    refine r_get S hK hP 58 (by decide) hF1 (C := RX8) (T := TX8) (N := 23) hiX8 rfl 3 (by decide) (by decide +kernel) (v := .ref (ad 61)) rfl dX8_readsClause_96 ?_
    refine lv_iconst (v := (nI 3)) S.1 S.2.1 dX8_readsClause_99 (by decide +kernel) ?_
    refine r_iald S hK hP 61 (by decide) hF3 (vp_in_nI (show 3 < 52 by omega) (by omega)) dX8_readsClause_100 ?_
    refine lv_topi (fun v119 e119 => ?_)
    obtain ⟨b120, hb120, he120⟩ := (pr_T (by decide) (hg3 3 (by decide))).2.2 rfl
    obtain rfl : v119 = nI b120 := e119.trans he120
    refine lv_bipush (v := (nI 12)) S.1 S.2.1 dX8_readsClause_101 (by decide +kernel) ?_
    refine lv_icmp_ne (tgt := 116) S.1 S.2.1 dX8_readsClause_103 (by decide) (fun c121 => ?_) (fun c121 => ?_)
    · skip
      have k122 := ci_ne (nI_toInt (n := b120) (by omega)) (nI_toInt (n := 12) (by omega)) c121
      refine lv_aload_n S.1 S.2.1 dX8_readsClause_116 rfl (lv_at hl9 1 rfl) ?_
      refine lv_dup S.1 S.2.1 dX8_readsClause_117 rfl ?_
      refine r_get S hK hP 58 (by decide) hF1 (C := RX8) (T := TX8) (N := 23) hiX8 rfl 14 (by decide) (by decide +kernel) (v := .int (nI at1)) rfl dX8_readsClause_118 ?_
      refine lv_iconst (v := (nI 1)) S.1 S.2.1 dX8_readsClause_121 (by decide +kernel) ?_
      refine lv_iadd S.1 S.2.1 dX8_readsClause_122 ?_
      refine lv_topi (fun v123 e123 => ?_)
      obtain rfl : v123 = nI (at1 + 1) := e123.trans (nI_add _ _)
      refine r_put S hI hK hP hS 58 (by decide) hF1 (C := RX8) (T := TX8) (N := 23) hiX8 tyX8_ok nmX8 rfl 14 (by decide) (by decide +kernel) rfl rfl rfl (Nat.le_of_ble_eq_true rfl) dX8_readsClause_123 (fun F124 H124 locs124 eF124 hP124 hS124 => ?_)
      have hF124 : F124 58 = .inr (8, [.ref (ad 59), .int (nI ty1), .ref (ad 60), .ref (ad 61), .ref (ad 62), .ref (ad 63), .int (nI kn1), .ref (ad 64), .ref (ad 65), .int sd1, .ref (ad 66), .int (nI no1), .ref (ad 67), .int (nI en1), .int (nI (at1 + 1)), .int wr1, .int pl1, .int va1, .int (nI sa1), .ref (ad 68), .ref (ad 69), .ref (ad 70), .ref (ad 71)]) := by rw [eF124]; exact va_up_self _ _ _
      have hW124 := hW.up eF124 (ok_m ⟨ty1, kn1, no1, en1, at1 + 1, sa1, sd1, wr1, pl1, va1, rfl, by omega, by omega, by omega, by omega, by omega, by omega⟩)
      have hFr124 := hFr.up eF124 (by simp <;> first | omega | (simp only [isC, isJ] at *; omega))
      refine lv_iload_n S.1 S.2.1 dX8_readsClause_126 rfl (lv_at hl9 2 rfl) ?_
      refine lv_bipush (v := (nI 108)) S.1 S.2.1 dX8_readsClause_127 (by decide +kernel) ?_
      refine lv_icmp_ne (tgt := 139) S.1 S.2.1 dX8_readsClause_129 (by decide) (fun c125 => ?_) (fun c125 => absurd c125 c112)
      have k126 := ci_ne rfl (nI_toInt (n := 108) (by omega)) c125
      refine lv_iload_n S.1 S.2.1 dX8_readsClause_139 rfl (lv_at hl9 2 rfl) ?_
      refine lv_bipush (v := (nI 116)) S.1 S.2.1 dX8_readsClause_140 (by decide +kernel) ?_
      refine lv_icmp_ne (tgt := 152) S.1 S.2.1 dX8_readsClause_142 (by decide) (fun c127 => ?_) (fun c127 => absurd c127 c114)
      have k128 := ci_ne rfl (nI_toInt (n := 116) (by omega)) c127
      refine lv_aload_n S.1 S.2.1 dX8_readsClause_152 rfl (lv_at hl9 1 rfl) ?_
      have hA129 := fN_of (k := 14) (a := at1 + 1) hF124 rfl (by omega)
      have hL129 := fN_of (k := 1) (a := ty1) hF124 rfl (by omega)
      have hF131 := (show F124 61 = F 61 by rw [eF124]; exact va_up_ne _ _ (by decide)).trans hF3
      have hN132 := aN_of (j := 3) hF131 he120 (by omega)
      refine r_cVi (As := []) (rest := []) S hK hZ hP124 hS124 hl9.1 58 (by decide) hF124 (C := RX8) rfl (c_X8_readsRoad l D cA ad t hI F124 hW124 (by omega)) (cwV 0 S.2.2.2.2 gX8_readsClause_X8_readsRoad rfl rfl rfl (by decide +kernel) ⟨Nat.le_of_ble_eq_true rfl, Nat.le_of_ble_eq_true rfl⟩) rfl rfl (Nat.le_of_ble_eq_true rfl) ⟨Nat.zero_le _, Nat.zero_le _⟩ dX8_readsClause_153 (fun r130 F130 H130 locs130 hr130 hP130 hS130 => ?_)
      obtain ⟨hW130, hFc130, hr130⟩ := hr130
      have hFr130 := hFr124.tr hFc130 (by simp <;> first | omega | (simp only [isC, isJ] at *; omega))
      obtain ⟨⟨b133, hb133, rfl⟩, hz133, hx133⟩ := hr130
      obtain ⟨ty134, kn134, no134, en134, at134, sa134, sd134, wr134, pl134, va134, hF134, hb134_1, hb134_2, hb134_3, hb134_4, hb134_5, hb134_6⟩ := wt_m hW130
      have hA135 := fN_of (k := 14) (a := at134) hF134 rfl (by omega)
      have hL135 := fN_of (k := 1) (a := ty134) hF134 rfl (by omega)
      have hy133 : b133 ≠ 0 → _ := fun q => hx133 (nI_ne0 (by omega) (by omega))
      have hA136 := fN_of (k := 14) (a := at134) hF134 rfl (by omega)
      have hL136 := fN_of (k := 1) (a := ty134) hF134 rfl (by omega)
      exact hret 156 _ _ _ _ _ dX8_readsClause_156 (nar_bool (by omega)) hP130 hS130 ⟨hW130, hFr130, ⟨⟨b133, by omega, rfl⟩, by omega, fun h => by have hb9 : b133 ≠ 0 := fun q => h (by rw [q]; rfl); omega⟩⟩
    have k137 := ci_eq (nI_toInt (n := b120) (by omega)) (nI_toInt (n := 12) (by omega)) c121
    refine lv_aload_n S.1 S.2.1 dX8_readsClause_106 rfl (lv_at hl9 1 rfl) ?_
    refine lv_iconst (v := (nI 3)) S.1 S.2.1 dX8_readsClause_107 (by decide +kernel) ?_
    refine lv_aload_n S.1 S.2.1 dX8_readsClause_108 rfl (lv_at hl9 1 rfl) ?_
    refine r_get S hK hP 58 (by decide) hF1 (C := RX8) (T := TX8) (N := 23) hiX8 rfl 14 (by decide) (by decide +kernel) (v := .int (nI at1)) rfl dX8_readsClause_109 ?_
    have hA138 := fN_of (k := 14) (a := at1) hF1 rfl (by omega)
    have hL138 := fN_of (k := 1) (a := ty1) hF1 rfl (by omega)
    refine r_cVi (As := [.int (nI 3), .int (nI at1)]) (rest := []) S hK hZ hP hS hl9.1 58 (by decide) hF1 (C := RX8) rfl (c_X8_isWrong l D cA ad t hI F hW (nI 3) (at1) (by omega)) (cwV 2 S.2.2.2.2 gX8_readsClause_X8_isWrong rfl rfl rfl (by decide +kernel) ⟨Nat.le_of_ble_eq_true rfl, Nat.le_of_ble_eq_true rfl⟩) rfl rfl (Nat.le_of_ble_eq_true rfl) ⟨Nat.zero_le _, Nat.zero_le _⟩ dX8_readsClause_112 (fun r139 F139 H139 locs139 hr139 hP139 hS139 => ?_)
    obtain ⟨hW139, hFc139, hr139⟩ := hr139
    have hFr139 := hFr.tr hFc139 (by simp <;> first | omega | (simp only [isC, isJ] at *; omega))
    obtain ⟨rfl, hz140⟩ := hr139
    obtain ⟨ty141, kn141, no141, en141, at141, sa141, sd141, wr141, pl141, va141, hF141, hb141_1, hb141_2, hb141_3, hb141_4, hb141_5, hb141_6⟩ := wt_m hW139
    have hA142 := fN_of (k := 14) (a := at141) hF141 rfl (by omega)
    have hL142 := fN_of (k := 1) (a := ty141) hF141 rfl (by omega)
    have hA143 := fN_of (k := 14) (a := at141) hF141 rfl (by omega)
    have hL143 := fN_of (k := 1) (a := ty141) hF141 rfl (by omega)
    exact hret 115 _ _ _ _ _ dX8_readsClause_115 rfl hP139 hS139 ⟨hW139, hFr139, ⟨⟨0, by omega, rfl⟩, by omega, fun h => absurd rfl h⟩⟩
  have k144 := ci_eq (nI_toInt (n := b6) (by omega)) z_ti c7
  refine lv_iconst (v := (nI 1)) S.1 S.2.1 dX8_readsClause_9 (by decide +kernel) ?_
  refine lv_goto (tgt := 14) S.1 S.2.1 dX8_readsClause_10 (by decide) ?_
  refine lv_istore_n (lv' := [(2, .int (nI 1)), (0, .ref (ad 58)), (1, .int p1)]) S.1 S.2.1 dX8_readsClause_14 rfl hl0 (by decide) rfl (fun ls145 hl145 => ?_)
  refine lv_iload_n S.1 S.2.1 dX8_readsClause_15 rfl (lv_at hl145 2 rfl) ?_
  refine lv_bipush (v := (nI 108)) S.1 S.2.1 dX8_readsClause_16 (by decide +kernel) ?_
  refine lv_icmp_eq (tgt := 33) S.1 S.2.1 dX8_readsClause_18 (by decide) (fun c146 => ?_) (fun c146 => ?_)
  · skip
    have k147 := ci_eq rfl (nI_toInt (n := 108) (by omega)) c146
    refine lv_iload_n S.1 S.2.1 dX8_readsClause_33 rfl (lv_at hl145 0 rfl) ?_
    refine lv_iload_n S.1 S.2.1 dX8_readsClause_34 rfl (lv_at hl145 2 rfl) ?_
    refine lv_bipush (v := (nI 108)) S.1 S.2.1 dX8_readsClause_35 (by decide +kernel) ?_
    refine lv_icmp_ne (tgt := 44) S.1 S.2.1 dX8_readsClause_37 (by decide) (fun c148 => absurd c146 c148) (fun c148 => ?_)
    have k149 := ci_eq rfl (nI_toInt (n := 108) (by omega)) c148
    refine lv_iconst (v := (nI 1)) S.1 S.2.1 dX8_readsClause_40 (by decide +kernel) ?_
    refine lv_goto (tgt := 45) S.1 S.2.1 dX8_readsClause_41 (by decide) ?_
    refine lv_icmp_eq (tgt := 62) S.1 S.2.1 dX8_readsClause_45 (by decide) (fun c150 => ?_) (fun c150 => absurd (by decide +kernel) c150)
    have k151 := ci_eq (nI_toInt (n := 1) (by omega)) (nI_toInt (n := 1) (by omega)) c150
    refine lv_iload_n S.1 S.2.1 dX8_readsClause_62 rfl (lv_at hl145 0 rfl) ?_
    refine lv_if_ne (tgt := 72) S.1 S.2.1 dX8_readsClause_63 (by decide) (fun c152 => ?_) (fun c152 => absurd c152 (by decide +kernel))
    have k153 := ci_ne (nI_toInt (n := 1) (by omega)) z_ti c152
    refine lv_iload_n S.1 S.2.1 dX8_readsClause_72 rfl (lv_at hl145 2 rfl) ?_
    refine lv_bipush (v := (nI 116)) S.1 S.2.1 dX8_readsClause_73 (by decide +kernel) ?_
    refine lv_icmp_ne (tgt := 89) S.1 S.2.1 dX8_readsClause_75 (by decide) (fun c154 => ?_) (fun c154 => ?_)
    · skip
      have k155 := ci_ne rfl (nI_toInt (n := 116) (by omega)) c154
      refine lv_iload_n S.1 S.2.1 dX8_readsClause_89 rfl (lv_at hl145 2 rfl) ?_
      refine lv_bipush (v := (nI 114)) S.1 S.2.1 dX8_readsClause_90 (by decide +kernel) ?_
      refine lv_icmp_ne (tgt := 116) S.1 S.2.1 dX8_readsClause_92 (by decide) (fun c156 => ?_) (fun c156 => ?_)
      · skip
        have k157 := ci_ne rfl (nI_toInt (n := 114) (by omega)) c156
        refine lv_aload_n S.1 S.2.1 dX8_readsClause_116 rfl (lv_at hl145 1 rfl) ?_
        refine lv_dup S.1 S.2.1 dX8_readsClause_117 rfl ?_
        refine r_get S hK hP 58 (by decide) hF1 (C := RX8) (T := TX8) (N := 23) hiX8 rfl 14 (by decide) (by decide +kernel) (v := .int (nI at1)) rfl dX8_readsClause_118 ?_
        refine lv_iconst (v := (nI 1)) S.1 S.2.1 dX8_readsClause_121 (by decide +kernel) ?_
        refine lv_iadd S.1 S.2.1 dX8_readsClause_122 ?_
        refine lv_topi (fun v158 e158 => ?_)
        obtain rfl : v158 = nI (at1 + 1) := e158.trans (nI_add _ _)
        refine r_put S hI hK hP hS 58 (by decide) hF1 (C := RX8) (T := TX8) (N := 23) hiX8 tyX8_ok nmX8 rfl 14 (by decide) (by decide +kernel) rfl rfl rfl (Nat.le_of_ble_eq_true rfl) dX8_readsClause_123 (fun F159 H159 locs159 eF159 hP159 hS159 => ?_)
        have hF159 : F159 58 = .inr (8, [.ref (ad 59), .int (nI ty1), .ref (ad 60), .ref (ad 61), .ref (ad 62), .ref (ad 63), .int (nI kn1), .ref (ad 64), .ref (ad 65), .int sd1, .ref (ad 66), .int (nI no1), .ref (ad 67), .int (nI en1), .int (nI (at1 + 1)), .int wr1, .int pl1, .int va1, .int (nI sa1), .ref (ad 68), .ref (ad 69), .ref (ad 70), .ref (ad 71)]) := by rw [eF159]; exact va_up_self _ _ _
        have hW159 := hW.up eF159 (ok_m ⟨ty1, kn1, no1, en1, at1 + 1, sa1, sd1, wr1, pl1, va1, rfl, by omega, by omega, by omega, by omega, by omega, by omega⟩)
        have hFr159 := hFr.up eF159 (by simp <;> first | omega | (simp only [isC, isJ] at *; omega))
        refine lv_iload_n S.1 S.2.1 dX8_readsClause_126 rfl (lv_at hl145 2 rfl) ?_
        refine lv_bipush (v := (nI 108)) S.1 S.2.1 dX8_readsClause_127 (by decide +kernel) ?_
        refine lv_icmp_ne (tgt := 139) S.1 S.2.1 dX8_readsClause_129 (by decide) (fun c160 => absurd c148 c160) (fun c160 => ?_)
        have k161 := ci_eq rfl (nI_toInt (n := 108) (by omega)) c160
        refine lv_aload_n S.1 S.2.1 dX8_readsClause_132 rfl (lv_at hl145 1 rfl) ?_
        have hA162 := fN_of (k := 14) (a := at1 + 1) hF159 rfl (by omega)
        have hL162 := fN_of (k := 1) (a := ty1) hF159 rfl (by omega)
        refine r_cVi (As := []) (rest := []) S hK hZ hP159 hS159 hl145.1 58 (by decide) hF159 (C := RX8) rfl (c_X8_readsStay l D cA ad t hI F159 hW159 ) (cwV 0 S.2.2.2.2 gX8_readsClause_X8_readsStay rfl rfl rfl (by decide +kernel) ⟨Nat.le_of_ble_eq_true rfl, Nat.le_of_ble_eq_true rfl⟩) rfl rfl (Nat.le_of_ble_eq_true rfl) ⟨Nat.zero_le _, Nat.zero_le _⟩ dX8_readsClause_133 (fun r163 F163 H163 locs163 hr163 hP163 hS163 => ?_)
        obtain ⟨hW163, hFc163, hr163⟩ := hr163
        have hFr163 := hFr159.tr hFc163 (by simp <;> first | omega | (simp only [isC, isJ] at *; omega))
        obtain ⟨⟨b164, hb164, rfl⟩, hz164, hx164⟩ := hr163
        obtain ⟨ty165, kn165, no165, en165, at165, sa165, sd165, wr165, pl165, va165, hF165, hb165_1, hb165_2, hb165_3, hb165_4, hb165_5, hb165_6⟩ := wt_m hW163
        have hA166 := fN_of (k := 14) (a := at165) hF165 rfl (by omega)
        have hL166 := fN_of (k := 1) (a := ty165) hF165 rfl (by omega)
        have hy164 : b164 ≠ 0 → _ := fun q => hx164 (nI_ne0 (by omega) (by omega))
        refine lv_goto (tgt := 156) S.1 S.2.1 dX8_readsClause_136 (by decide) ?_
        have hA167 := fN_of (k := 14) (a := at165) hF165 rfl (by omega)
        have hL167 := fN_of (k := 1) (a := ty165) hF165 rfl (by omega)
        exact hret 156 _ _ _ _ _ dX8_readsClause_156 (nar_bool (by omega)) hP163 hS163 ⟨hW163, hFr163, ⟨⟨b164, by omega, rfl⟩, by omega, fun h => by have hb9 : b164 ≠ 0 := fun q => h (by rw [q]; rfl); omega⟩⟩
      have k168 := ci_eq rfl (nI_toInt (n := 114) (by omega)) c156
      refine lv_aload_n S.1 S.2.1 dX8_readsClause_95 rfl (lv_at hl145 1 rfl) ?_
      refine r_get S hK hP 58 (by decide) hF1 (C := RX8) (T := TX8) (N := 23) hiX8 rfl 3 (by decide) (by decide +kernel) (v := .ref (ad 61)) rfl dX8_readsClause_96 ?_
      refine lv_iconst (v := (nI 3)) S.1 S.2.1 dX8_readsClause_99 (by decide +kernel) ?_
      refine r_iald S hK hP 61 (by decide) hF3 (vp_in_nI (show 3 < 52 by omega) (by omega)) dX8_readsClause_100 ?_
      refine lv_topi (fun v170 e170 => ?_)
      obtain ⟨b171, hb171, he171⟩ := (pr_T (by decide) (hg3 3 (by decide))).2.2 rfl
      obtain rfl : v170 = nI b171 := e170.trans he171
      refine lv_bipush (v := (nI 12)) S.1 S.2.1 dX8_readsClause_101 (by decide +kernel) ?_
      refine lv_icmp_ne (tgt := 116) S.1 S.2.1 dX8_readsClause_103 (by decide) (fun c172 => ?_) (fun c172 => ?_)
      · skip
        have k173 := ci_ne (nI_toInt (n := b171) (by omega)) (nI_toInt (n := 12) (by omega)) c172
        refine lv_aload_n S.1 S.2.1 dX8_readsClause_116 rfl (lv_at hl145 1 rfl) ?_
        refine lv_dup S.1 S.2.1 dX8_readsClause_117 rfl ?_
        refine r_get S hK hP 58 (by decide) hF1 (C := RX8) (T := TX8) (N := 23) hiX8 rfl 14 (by decide) (by decide +kernel) (v := .int (nI at1)) rfl dX8_readsClause_118 ?_
        refine lv_iconst (v := (nI 1)) S.1 S.2.1 dX8_readsClause_121 (by decide +kernel) ?_
        refine lv_iadd S.1 S.2.1 dX8_readsClause_122 ?_
        refine lv_topi (fun v174 e174 => ?_)
        obtain rfl : v174 = nI (at1 + 1) := e174.trans (nI_add _ _)
        refine r_put S hI hK hP hS 58 (by decide) hF1 (C := RX8) (T := TX8) (N := 23) hiX8 tyX8_ok nmX8 rfl 14 (by decide) (by decide +kernel) rfl rfl rfl (Nat.le_of_ble_eq_true rfl) dX8_readsClause_123 (fun F175 H175 locs175 eF175 hP175 hS175 => ?_)
        have hF175 : F175 58 = .inr (8, [.ref (ad 59), .int (nI ty1), .ref (ad 60), .ref (ad 61), .ref (ad 62), .ref (ad 63), .int (nI kn1), .ref (ad 64), .ref (ad 65), .int sd1, .ref (ad 66), .int (nI no1), .ref (ad 67), .int (nI en1), .int (nI (at1 + 1)), .int wr1, .int pl1, .int va1, .int (nI sa1), .ref (ad 68), .ref (ad 69), .ref (ad 70), .ref (ad 71)]) := by rw [eF175]; exact va_up_self _ _ _
        have hW175 := hW.up eF175 (ok_m ⟨ty1, kn1, no1, en1, at1 + 1, sa1, sd1, wr1, pl1, va1, rfl, by omega, by omega, by omega, by omega, by omega, by omega⟩)
        have hFr175 := hFr.up eF175 (by simp <;> first | omega | (simp only [isC, isJ] at *; omega))
        refine lv_iload_n S.1 S.2.1 dX8_readsClause_126 rfl (lv_at hl145 2 rfl) ?_
        refine lv_bipush (v := (nI 108)) S.1 S.2.1 dX8_readsClause_127 (by decide +kernel) ?_
        refine lv_icmp_ne (tgt := 139) S.1 S.2.1 dX8_readsClause_129 (by decide) (fun c176 => absurd c148 c176) (fun c176 => ?_)
        have k177 := ci_eq rfl (nI_toInt (n := 108) (by omega)) c176
        refine lv_aload_n S.1 S.2.1 dX8_readsClause_132 rfl (lv_at hl145 1 rfl) ?_
        have hA178 := fN_of (k := 14) (a := at1 + 1) hF175 rfl (by omega)
        have hL178 := fN_of (k := 1) (a := ty1) hF175 rfl (by omega)
        refine r_cVi (As := []) (rest := []) S hK hZ hP175 hS175 hl145.1 58 (by decide) hF175 (C := RX8) rfl (c_X8_readsStay l D cA ad t hI F175 hW175 ) (cwV 0 S.2.2.2.2 gX8_readsClause_X8_readsStay rfl rfl rfl (by decide +kernel) ⟨Nat.le_of_ble_eq_true rfl, Nat.le_of_ble_eq_true rfl⟩) rfl rfl (Nat.le_of_ble_eq_true rfl) ⟨Nat.zero_le _, Nat.zero_le _⟩ dX8_readsClause_133 (fun r179 F179 H179 locs179 hr179 hP179 hS179 => ?_)
        obtain ⟨hW179, hFc179, hr179⟩ := hr179
        have hFr179 := hFr175.tr hFc179 (by simp <;> first | omega | (simp only [isC, isJ] at *; omega))
        obtain ⟨⟨b180, hb180, rfl⟩, hz180, hx180⟩ := hr179
        obtain ⟨ty181, kn181, no181, en181, at181, sa181, sd181, wr181, pl181, va181, hF181, hb181_1, hb181_2, hb181_3, hb181_4, hb181_5, hb181_6⟩ := wt_m hW179
        have hA182 := fN_of (k := 14) (a := at181) hF181 rfl (by omega)
        have hL182 := fN_of (k := 1) (a := ty181) hF181 rfl (by omega)
        have hy180 : b180 ≠ 0 → _ := fun q => hx180 (nI_ne0 (by omega) (by omega))
        refine lv_goto (tgt := 156) S.1 S.2.1 dX8_readsClause_136 (by decide) ?_
        have hA183 := fN_of (k := 14) (a := at181) hF181 rfl (by omega)
        have hL183 := fN_of (k := 1) (a := ty181) hF181 rfl (by omega)
        exact hret 156 _ _ _ _ _ dX8_readsClause_156 (nar_bool (by omega)) hP179 hS179 ⟨hW179, hFr179, ⟨⟨b180, by omega, rfl⟩, by omega, fun h => by have hb9 : b180 ≠ 0 := fun q => h (by rw [q]; rfl); omega⟩⟩
      have k184 := ci_eq (nI_toInt (n := b171) (by omega)) (nI_toInt (n := 12) (by omega)) c172
      refine lv_aload_n S.1 S.2.1 dX8_readsClause_106 rfl (lv_at hl145 1 rfl) ?_
      refine lv_iconst (v := (nI 3)) S.1 S.2.1 dX8_readsClause_107 (by decide +kernel) ?_
      refine lv_aload_n S.1 S.2.1 dX8_readsClause_108 rfl (lv_at hl145 1 rfl) ?_
      refine r_get S hK hP 58 (by decide) hF1 (C := RX8) (T := TX8) (N := 23) hiX8 rfl 14 (by decide) (by decide +kernel) (v := .int (nI at1)) rfl dX8_readsClause_109 ?_
      have hA185 := fN_of (k := 14) (a := at1) hF1 rfl (by omega)
      have hL185 := fN_of (k := 1) (a := ty1) hF1 rfl (by omega)
      refine r_cVi (As := [.int (nI 3), .int (nI at1)]) (rest := []) S hK hZ hP hS hl145.1 58 (by decide) hF1 (C := RX8) rfl (c_X8_isWrong l D cA ad t hI F hW (nI 3) (at1) (by omega)) (cwV 2 S.2.2.2.2 gX8_readsClause_X8_isWrong rfl rfl rfl (by decide +kernel) ⟨Nat.le_of_ble_eq_true rfl, Nat.le_of_ble_eq_true rfl⟩) rfl rfl (Nat.le_of_ble_eq_true rfl) ⟨Nat.zero_le _, Nat.zero_le _⟩ dX8_readsClause_112 (fun r186 F186 H186 locs186 hr186 hP186 hS186 => ?_)
      obtain ⟨hW186, hFc186, hr186⟩ := hr186
      have hFr186 := hFr.tr hFc186 (by simp <;> first | omega | (simp only [isC, isJ] at *; omega))
      obtain ⟨rfl, hz187⟩ := hr186
      obtain ⟨ty188, kn188, no188, en188, at188, sa188, sd188, wr188, pl188, va188, hF188, hb188_1, hb188_2, hb188_3, hb188_4, hb188_5, hb188_6⟩ := wt_m hW186
      have hA189 := fN_of (k := 14) (a := at188) hF188 rfl (by omega)
      have hL189 := fN_of (k := 1) (a := ty188) hF188 rfl (by omega)
      have hA190 := fN_of (k := 14) (a := at188) hF188 rfl (by omega)
      have hL190 := fN_of (k := 1) (a := ty188) hF188 rfl (by omega)
      exact hret 115 _ _ _ _ _ dX8_readsClause_115 rfl hP186 hS186 ⟨hW186, hFr186, ⟨⟨0, by omega, rfl⟩, by omega, fun h => absurd rfl h⟩⟩
    have k191 := ci_eq rfl (nI_toInt (n := 116) (by omega)) c154
    refine lv_aload_n S.1 S.2.1 dX8_readsClause_78 rfl (lv_at hl145 1 rfl) ?_
    refine r_get S hK hP 58 (by decide) hF1 (C := RX8) (T := TX8) (N := 23) hiX8 rfl 3 (by decide) (by decide +kernel) (v := .ref (ad 61)) rfl dX8_readsClause_79 ?_
    refine lv_iconst (v := (nI 2)) S.1 S.2.1 dX8_readsClause_82 (by decide +kernel) ?_
    refine r_iald S hK hP 61 (by decide) hF3 (vp_in_nI (show 2 < 52 by omega) (by omega)) dX8_readsClause_83 ?_
    refine lv_topi (fun v193 e193 => ?_)
    obtain ⟨b194, hb194, he194⟩ := (pr_T (by decide) (hg3 2 (by decide))).2.1 rfl
    obtain rfl : v193 = nI b194 := e193.trans he194
    refine lv_bipush (v := (nI 8)) S.1 S.2.1 dX8_readsClause_84 (by decide +kernel) ?_
    refine lv_icmp_eq (tgt := 106) S.1 S.2.1 dX8_readsClause_86 (by decide) (fun c195 => ?_) (fun c195 => ?_)
    · skip
      have k196 := ci_eq (nI_toInt (n := b194) (by omega)) (nI_toInt (n := 8) (by omega)) c195
      refine lv_aload_n S.1 S.2.1 dX8_readsClause_106 rfl (lv_at hl145 1 rfl) ?_
      refine lv_iconst (v := (nI 3)) S.1 S.2.1 dX8_readsClause_107 (by decide +kernel) ?_
      refine lv_aload_n S.1 S.2.1 dX8_readsClause_108 rfl (lv_at hl145 1 rfl) ?_
      refine r_get S hK hP 58 (by decide) hF1 (C := RX8) (T := TX8) (N := 23) hiX8 rfl 14 (by decide) (by decide +kernel) (v := .int (nI at1)) rfl dX8_readsClause_109 ?_
      have hA197 := fN_of (k := 14) (a := at1) hF1 rfl (by omega)
      have hL197 := fN_of (k := 1) (a := ty1) hF1 rfl (by omega)
      refine r_cVi (As := [.int (nI 3), .int (nI at1)]) (rest := []) S hK hZ hP hS hl145.1 58 (by decide) hF1 (C := RX8) rfl (c_X8_isWrong l D cA ad t hI F hW (nI 3) (at1) (by omega)) (cwV 2 S.2.2.2.2 gX8_readsClause_X8_isWrong rfl rfl rfl (by decide +kernel) ⟨Nat.le_of_ble_eq_true rfl, Nat.le_of_ble_eq_true rfl⟩) rfl rfl (Nat.le_of_ble_eq_true rfl) ⟨Nat.zero_le _, Nat.zero_le _⟩ dX8_readsClause_112 (fun r198 F198 H198 locs198 hr198 hP198 hS198 => ?_)
      obtain ⟨hW198, hFc198, hr198⟩ := hr198
      have hFr198 := hFr.tr hFc198 (by simp <;> first | omega | (simp only [isC, isJ] at *; omega))
      obtain ⟨rfl, hz199⟩ := hr198
      obtain ⟨ty200, kn200, no200, en200, at200, sa200, sd200, wr200, pl200, va200, hF200, hb200_1, hb200_2, hb200_3, hb200_4, hb200_5, hb200_6⟩ := wt_m hW198
      have hA201 := fN_of (k := 14) (a := at200) hF200 rfl (by omega)
      have hL201 := fN_of (k := 1) (a := ty200) hF200 rfl (by omega)
      have hA202 := fN_of (k := 14) (a := at200) hF200 rfl (by omega)
      have hL202 := fN_of (k := 1) (a := ty200) hF200 rfl (by omega)
      exact hret 115 _ _ _ _ _ dX8_readsClause_115 rfl hP198 hS198 ⟨hW198, hFr198, ⟨⟨0, by omega, rfl⟩, by omega, fun h => absurd rfl h⟩⟩
    have k203 := ci_ne (nI_toInt (n := b194) (by omega)) (nI_toInt (n := 8) (by omega)) c195
    refine lv_iload_n S.1 S.2.1 dX8_readsClause_89 rfl (lv_at hl145 2 rfl) ?_
    refine lv_bipush (v := (nI 114)) S.1 S.2.1 dX8_readsClause_90 (by decide +kernel) ?_
    refine lv_icmp_ne (tgt := 116) S.1 S.2.1 dX8_readsClause_92 (by decide) (fun c204 => ?_) (fun c204 => ?_)
    · skip
      have k205 := ci_ne rfl (nI_toInt (n := 114) (by omega)) c204
      refine lv_aload_n S.1 S.2.1 dX8_readsClause_116 rfl (lv_at hl145 1 rfl) ?_
      refine lv_dup S.1 S.2.1 dX8_readsClause_117 rfl ?_
      refine r_get S hK hP 58 (by decide) hF1 (C := RX8) (T := TX8) (N := 23) hiX8 rfl 14 (by decide) (by decide +kernel) (v := .int (nI at1)) rfl dX8_readsClause_118 ?_
      refine lv_iconst (v := (nI 1)) S.1 S.2.1 dX8_readsClause_121 (by decide +kernel) ?_
      refine lv_iadd S.1 S.2.1 dX8_readsClause_122 ?_
      refine lv_topi (fun v206 e206 => ?_)
      obtain rfl : v206 = nI (at1 + 1) := e206.trans (nI_add _ _)
      refine r_put S hI hK hP hS 58 (by decide) hF1 (C := RX8) (T := TX8) (N := 23) hiX8 tyX8_ok nmX8 rfl 14 (by decide) (by decide +kernel) rfl rfl rfl (Nat.le_of_ble_eq_true rfl) dX8_readsClause_123 (fun F207 H207 locs207 eF207 hP207 hS207 => ?_)
      have hF207 : F207 58 = .inr (8, [.ref (ad 59), .int (nI ty1), .ref (ad 60), .ref (ad 61), .ref (ad 62), .ref (ad 63), .int (nI kn1), .ref (ad 64), .ref (ad 65), .int sd1, .ref (ad 66), .int (nI no1), .ref (ad 67), .int (nI en1), .int (nI (at1 + 1)), .int wr1, .int pl1, .int va1, .int (nI sa1), .ref (ad 68), .ref (ad 69), .ref (ad 70), .ref (ad 71)]) := by rw [eF207]; exact va_up_self _ _ _
      have hW207 := hW.up eF207 (ok_m ⟨ty1, kn1, no1, en1, at1 + 1, sa1, sd1, wr1, pl1, va1, rfl, by omega, by omega, by omega, by omega, by omega, by omega⟩)
      have hFr207 := hFr.up eF207 (by simp <;> first | omega | (simp only [isC, isJ] at *; omega))
      refine lv_iload_n S.1 S.2.1 dX8_readsClause_126 rfl (lv_at hl145 2 rfl) ?_
      refine lv_bipush (v := (nI 108)) S.1 S.2.1 dX8_readsClause_127 (by decide +kernel) ?_
      refine lv_icmp_ne (tgt := 139) S.1 S.2.1 dX8_readsClause_129 (by decide) (fun c208 => absurd c148 c208) (fun c208 => ?_)
      have k209 := ci_eq rfl (nI_toInt (n := 108) (by omega)) c208
      refine lv_aload_n S.1 S.2.1 dX8_readsClause_132 rfl (lv_at hl145 1 rfl) ?_
      have hA210 := fN_of (k := 14) (a := at1 + 1) hF207 rfl (by omega)
      have hL210 := fN_of (k := 1) (a := ty1) hF207 rfl (by omega)
      refine r_cVi (As := []) (rest := []) S hK hZ hP207 hS207 hl145.1 58 (by decide) hF207 (C := RX8) rfl (c_X8_readsStay l D cA ad t hI F207 hW207 ) (cwV 0 S.2.2.2.2 gX8_readsClause_X8_readsStay rfl rfl rfl (by decide +kernel) ⟨Nat.le_of_ble_eq_true rfl, Nat.le_of_ble_eq_true rfl⟩) rfl rfl (Nat.le_of_ble_eq_true rfl) ⟨Nat.zero_le _, Nat.zero_le _⟩ dX8_readsClause_133 (fun r211 F211 H211 locs211 hr211 hP211 hS211 => ?_)
      obtain ⟨hW211, hFc211, hr211⟩ := hr211
      have hFr211 := hFr207.tr hFc211 (by simp <;> first | omega | (simp only [isC, isJ] at *; omega))
      obtain ⟨⟨b212, hb212, rfl⟩, hz212, hx212⟩ := hr211
      obtain ⟨ty213, kn213, no213, en213, at213, sa213, sd213, wr213, pl213, va213, hF213, hb213_1, hb213_2, hb213_3, hb213_4, hb213_5, hb213_6⟩ := wt_m hW211
      have hA214 := fN_of (k := 14) (a := at213) hF213 rfl (by omega)
      have hL214 := fN_of (k := 1) (a := ty213) hF213 rfl (by omega)
      have hy212 : b212 ≠ 0 → _ := fun q => hx212 (nI_ne0 (by omega) (by omega))
      refine lv_goto (tgt := 156) S.1 S.2.1 dX8_readsClause_136 (by decide) ?_
      have hA215 := fN_of (k := 14) (a := at213) hF213 rfl (by omega)
      have hL215 := fN_of (k := 1) (a := ty213) hF213 rfl (by omega)
      exact hret 156 _ _ _ _ _ dX8_readsClause_156 (nar_bool (by omega)) hP211 hS211 ⟨hW211, hFr211, ⟨⟨b212, by omega, rfl⟩, by omega, fun h => by have hb9 : b212 ≠ 0 := fun q => h (by rw [q]; rfl); omega⟩⟩
    have k216 := ci_eq rfl (nI_toInt (n := 114) (by omega)) c204
    refine lv_aload_n S.1 S.2.1 dX8_readsClause_95 rfl (lv_at hl145 1 rfl) ?_
    refine r_get S hK hP 58 (by decide) hF1 (C := RX8) (T := TX8) (N := 23) hiX8 rfl 3 (by decide) (by decide +kernel) (v := .ref (ad 61)) rfl dX8_readsClause_96 ?_
    refine lv_iconst (v := (nI 3)) S.1 S.2.1 dX8_readsClause_99 (by decide +kernel) ?_
    refine r_iald S hK hP 61 (by decide) hF3 (vp_in_nI (show 3 < 52 by omega) (by omega)) dX8_readsClause_100 ?_
    refine lv_topi (fun v218 e218 => ?_)
    obtain ⟨b219, hb219, he219⟩ := (pr_T (by decide) (hg3 3 (by decide))).2.2 rfl
    obtain rfl : v218 = nI b219 := e218.trans he219
    refine lv_bipush (v := (nI 12)) S.1 S.2.1 dX8_readsClause_101 (by decide +kernel) ?_
    refine lv_icmp_ne (tgt := 116) S.1 S.2.1 dX8_readsClause_103 (by decide) (fun c220 => ?_) (fun c220 => ?_)
    · skip
      have k221 := ci_ne (nI_toInt (n := b219) (by omega)) (nI_toInt (n := 12) (by omega)) c220
      refine lv_aload_n S.1 S.2.1 dX8_readsClause_116 rfl (lv_at hl145 1 rfl) ?_
      refine lv_dup S.1 S.2.1 dX8_readsClause_117 rfl ?_
      refine r_get S hK hP 58 (by decide) hF1 (C := RX8) (T := TX8) (N := 23) hiX8 rfl 14 (by decide) (by decide +kernel) (v := .int (nI at1)) rfl dX8_readsClause_118 ?_
      refine lv_iconst (v := (nI 1)) S.1 S.2.1 dX8_readsClause_121 (by decide +kernel) ?_
      refine lv_iadd S.1 S.2.1 dX8_readsClause_122 ?_
      refine lv_topi (fun v222 e222 => ?_)
      obtain rfl : v222 = nI (at1 + 1) := e222.trans (nI_add _ _)
      refine r_put S hI hK hP hS 58 (by decide) hF1 (C := RX8) (T := TX8) (N := 23) hiX8 tyX8_ok nmX8 rfl 14 (by decide) (by decide +kernel) rfl rfl rfl (Nat.le_of_ble_eq_true rfl) dX8_readsClause_123 (fun F223 H223 locs223 eF223 hP223 hS223 => ?_)
      have hF223 : F223 58 = .inr (8, [.ref (ad 59), .int (nI ty1), .ref (ad 60), .ref (ad 61), .ref (ad 62), .ref (ad 63), .int (nI kn1), .ref (ad 64), .ref (ad 65), .int sd1, .ref (ad 66), .int (nI no1), .ref (ad 67), .int (nI en1), .int (nI (at1 + 1)), .int wr1, .int pl1, .int va1, .int (nI sa1), .ref (ad 68), .ref (ad 69), .ref (ad 70), .ref (ad 71)]) := by rw [eF223]; exact va_up_self _ _ _
      have hW223 := hW.up eF223 (ok_m ⟨ty1, kn1, no1, en1, at1 + 1, sa1, sd1, wr1, pl1, va1, rfl, by omega, by omega, by omega, by omega, by omega, by omega⟩)
      have hFr223 := hFr.up eF223 (by simp <;> first | omega | (simp only [isC, isJ] at *; omega))
      refine lv_iload_n S.1 S.2.1 dX8_readsClause_126 rfl (lv_at hl145 2 rfl) ?_
      refine lv_bipush (v := (nI 108)) S.1 S.2.1 dX8_readsClause_127 (by decide +kernel) ?_
      refine lv_icmp_ne (tgt := 139) S.1 S.2.1 dX8_readsClause_129 (by decide) (fun c224 => absurd c148 c224) (fun c224 => ?_)
      have k225 := ci_eq rfl (nI_toInt (n := 108) (by omega)) c224
      refine lv_aload_n S.1 S.2.1 dX8_readsClause_132 rfl (lv_at hl145 1 rfl) ?_
      have hA226 := fN_of (k := 14) (a := at1 + 1) hF223 rfl (by omega)
      have hL226 := fN_of (k := 1) (a := ty1) hF223 rfl (by omega)
      refine r_cVi (As := []) (rest := []) S hK hZ hP223 hS223 hl145.1 58 (by decide) hF223 (C := RX8) rfl (c_X8_readsStay l D cA ad t hI F223 hW223 ) (cwV 0 S.2.2.2.2 gX8_readsClause_X8_readsStay rfl rfl rfl (by decide +kernel) ⟨Nat.le_of_ble_eq_true rfl, Nat.le_of_ble_eq_true rfl⟩) rfl rfl (Nat.le_of_ble_eq_true rfl) ⟨Nat.zero_le _, Nat.zero_le _⟩ dX8_readsClause_133 (fun r227 F227 H227 locs227 hr227 hP227 hS227 => ?_)
      obtain ⟨hW227, hFc227, hr227⟩ := hr227
      have hFr227 := hFr223.tr hFc227 (by simp <;> first | omega | (simp only [isC, isJ] at *; omega))
      obtain ⟨⟨b228, hb228, rfl⟩, hz228, hx228⟩ := hr227
      obtain ⟨ty229, kn229, no229, en229, at229, sa229, sd229, wr229, pl229, va229, hF229, hb229_1, hb229_2, hb229_3, hb229_4, hb229_5, hb229_6⟩ := wt_m hW227
      have hA230 := fN_of (k := 14) (a := at229) hF229 rfl (by omega)
      have hL230 := fN_of (k := 1) (a := ty229) hF229 rfl (by omega)
      have hy228 : b228 ≠ 0 → _ := fun q => hx228 (nI_ne0 (by omega) (by omega))
      refine lv_goto (tgt := 156) S.1 S.2.1 dX8_readsClause_136 (by decide) ?_
      have hA231 := fN_of (k := 14) (a := at229) hF229 rfl (by omega)
      have hL231 := fN_of (k := 1) (a := ty229) hF229 rfl (by omega)
      exact hret 156 _ _ _ _ _ dX8_readsClause_156 (nar_bool (by omega)) hP227 hS227 ⟨hW227, hFr227, ⟨⟨b228, by omega, rfl⟩, by omega, fun h => by have hb9 : b228 ≠ 0 := fun q => h (by rw [q]; rfl); omega⟩⟩
    have k232 := ci_eq (nI_toInt (n := b219) (by omega)) (nI_toInt (n := 12) (by omega)) c220
    refine lv_aload_n S.1 S.2.1 dX8_readsClause_106 rfl (lv_at hl145 1 rfl) ?_
    refine lv_iconst (v := (nI 3)) S.1 S.2.1 dX8_readsClause_107 (by decide +kernel) ?_
    refine lv_aload_n S.1 S.2.1 dX8_readsClause_108 rfl (lv_at hl145 1 rfl) ?_
    refine r_get S hK hP 58 (by decide) hF1 (C := RX8) (T := TX8) (N := 23) hiX8 rfl 14 (by decide) (by decide +kernel) (v := .int (nI at1)) rfl dX8_readsClause_109 ?_
    have hA233 := fN_of (k := 14) (a := at1) hF1 rfl (by omega)
    have hL233 := fN_of (k := 1) (a := ty1) hF1 rfl (by omega)
    refine r_cVi (As := [.int (nI 3), .int (nI at1)]) (rest := []) S hK hZ hP hS hl145.1 58 (by decide) hF1 (C := RX8) rfl (c_X8_isWrong l D cA ad t hI F hW (nI 3) (at1) (by omega)) (cwV 2 S.2.2.2.2 gX8_readsClause_X8_isWrong rfl rfl rfl (by decide +kernel) ⟨Nat.le_of_ble_eq_true rfl, Nat.le_of_ble_eq_true rfl⟩) rfl rfl (Nat.le_of_ble_eq_true rfl) ⟨Nat.zero_le _, Nat.zero_le _⟩ dX8_readsClause_112 (fun r234 F234 H234 locs234 hr234 hP234 hS234 => ?_)
    obtain ⟨hW234, hFc234, hr234⟩ := hr234
    have hFr234 := hFr.tr hFc234 (by simp <;> first | omega | (simp only [isC, isJ] at *; omega))
    obtain ⟨rfl, hz235⟩ := hr234
    obtain ⟨ty236, kn236, no236, en236, at236, sa236, sd236, wr236, pl236, va236, hF236, hb236_1, hb236_2, hb236_3, hb236_4, hb236_5, hb236_6⟩ := wt_m hW234
    have hA237 := fN_of (k := 14) (a := at236) hF236 rfl (by omega)
    have hL237 := fN_of (k := 1) (a := ty236) hF236 rfl (by omega)
    have hA238 := fN_of (k := 14) (a := at236) hF236 rfl (by omega)
    have hL238 := fN_of (k := 1) (a := ty236) hF236 rfl (by omega)
    exact hret 115 _ _ _ _ _ dX8_readsClause_115 rfl hP234 hS234 ⟨hW234, hFr234, ⟨⟨0, by omega, rfl⟩, by omega, fun h => absurd rfl h⟩⟩
  have k239 := ci_ne rfl (nI_toInt (n := 108) (by omega)) c146
  refine lv_iload_n S.1 S.2.1 dX8_readsClause_21 rfl (lv_at hl145 2 rfl) ?_
  refine lv_bipush (v := (nI 116)) S.1 S.2.1 dX8_readsClause_22 (by decide +kernel) ?_
  refine lv_icmp_eq (tgt := 33) S.1 S.2.1 dX8_readsClause_24 (by decide) (fun c240 => ?_) (fun c240 => ?_)
  · skip
    have k241 := ci_eq rfl (nI_toInt (n := 116) (by omega)) c240
    refine lv_iload_n S.1 S.2.1 dX8_readsClause_33 rfl (lv_at hl145 0 rfl) ?_
    refine lv_iload_n S.1 S.2.1 dX8_readsClause_34 rfl (lv_at hl145 2 rfl) ?_
    refine lv_bipush (v := (nI 108)) S.1 S.2.1 dX8_readsClause_35 (by decide +kernel) ?_
    refine lv_icmp_ne (tgt := 44) S.1 S.2.1 dX8_readsClause_37 (by decide) (fun c242 => ?_) (fun c242 => absurd c242 c146)
    have k243 := ci_ne rfl (nI_toInt (n := 108) (by omega)) c242
    refine lv_iconst (v := (nI 0)) S.1 S.2.1 dX8_readsClause_44 (by decide +kernel) ?_
    refine lv_icmp_eq (tgt := 62) S.1 S.2.1 dX8_readsClause_45 (by decide) (fun c244 => absurd c244 (by decide +kernel)) (fun c244 => ?_)
    have k245 := ci_ne (nI_toInt (n := 1) (by omega)) (nI_toInt (n := 0) (by omega)) c244
    refine lv_iload_n S.1 S.2.1 dX8_readsClause_48 rfl (lv_at hl145 0 rfl) ?_
    refine lv_if_eq (tgt := 62) S.1 S.2.1 dX8_readsClause_49 (by decide) (fun c246 => absurd c246 (by decide +kernel)) (fun c246 => ?_)
    have k247 := ci_ne (nI_toInt (n := 1) (by omega)) z_ti c246
    refine lv_aload_n S.1 S.2.1 dX8_readsClause_52 rfl (lv_at hl145 1 rfl) ?_
    refine lv_iconst (v := (nI 1)) S.1 S.2.1 dX8_readsClause_53 (by decide +kernel) ?_
    refine lv_aload_n S.1 S.2.1 dX8_readsClause_54 rfl (lv_at hl145 1 rfl) ?_
    refine r_get S hK hP 58 (by decide) hF1 (C := RX8) (T := TX8) (N := 23) hiX8 rfl 14 (by decide) (by decide +kernel) (v := .int (nI at1)) rfl dX8_readsClause_55 ?_
    have hA248 := fN_of (k := 14) (a := at1) hF1 rfl (by omega)
    have hL248 := fN_of (k := 1) (a := ty1) hF1 rfl (by omega)
    refine r_cVi (As := [.int (nI 1), .int (nI at1)]) (rest := []) S hK hZ hP hS hl145.1 58 (by decide) hF1 (C := RX8) rfl (c_X8_isWrong l D cA ad t hI F hW (nI 1) (at1) (by omega)) (cwV 2 S.2.2.2.2 gX8_readsClause_X8_isWrong rfl rfl rfl (by decide +kernel) ⟨Nat.le_of_ble_eq_true rfl, Nat.le_of_ble_eq_true rfl⟩) rfl rfl (Nat.le_of_ble_eq_true rfl) ⟨Nat.zero_le _, Nat.zero_le _⟩ dX8_readsClause_58 (fun r249 F249 H249 locs249 hr249 hP249 hS249 => ?_)
    obtain ⟨hW249, hFc249, hr249⟩ := hr249
    have hFr249 := hFr.tr hFc249 (by simp <;> first | omega | (simp only [isC, isJ] at *; omega))
    obtain ⟨rfl, hz250⟩ := hr249
    obtain ⟨ty251, kn251, no251, en251, at251, sa251, sd251, wr251, pl251, va251, hF251, hb251_1, hb251_2, hb251_3, hb251_4, hb251_5, hb251_6⟩ := wt_m hW249
    have hA252 := fN_of (k := 14) (a := at251) hF251 rfl (by omega)
    have hL252 := fN_of (k := 1) (a := ty251) hF251 rfl (by omega)
    have hA253 := fN_of (k := 14) (a := at251) hF251 rfl (by omega)
    have hL253 := fN_of (k := 1) (a := ty251) hF251 rfl (by omega)
    exact hret 61 _ _ _ _ _ dX8_readsClause_61 rfl hP249 hS249 ⟨hW249, hFr249, ⟨⟨0, by omega, rfl⟩, by omega, fun h => absurd rfl h⟩⟩
  have k254 := ci_ne rfl (nI_toInt (n := 116) (by omega)) c240
  refine lv_iload_n S.1 S.2.1 dX8_readsClause_27 rfl (lv_at hl145 2 rfl) ?_
  refine lv_bipush (v := (nI 114)) S.1 S.2.1 dX8_readsClause_28 (by decide +kernel) ?_
  refine lv_icmp_ne (tgt := 52) S.1 S.2.1 dX8_readsClause_30 (by decide) (fun c255 => ?_) (fun c255 => ?_)
  · skip
    have k256 := ci_ne rfl (nI_toInt (n := 114) (by omega)) c255
    refine lv_aload_n S.1 S.2.1 dX8_readsClause_52 rfl (lv_at hl145 1 rfl) ?_
    refine lv_iconst (v := (nI 1)) S.1 S.2.1 dX8_readsClause_53 (by decide +kernel) ?_
    refine lv_aload_n S.1 S.2.1 dX8_readsClause_54 rfl (lv_at hl145 1 rfl) ?_
    refine r_get S hK hP 58 (by decide) hF1 (C := RX8) (T := TX8) (N := 23) hiX8 rfl 14 (by decide) (by decide +kernel) (v := .int (nI at1)) rfl dX8_readsClause_55 ?_
    have hA257 := fN_of (k := 14) (a := at1) hF1 rfl (by omega)
    have hL257 := fN_of (k := 1) (a := ty1) hF1 rfl (by omega)
    refine r_cVi (As := [.int (nI 1), .int (nI at1)]) (rest := []) S hK hZ hP hS hl145.1 58 (by decide) hF1 (C := RX8) rfl (c_X8_isWrong l D cA ad t hI F hW (nI 1) (at1) (by omega)) (cwV 2 S.2.2.2.2 gX8_readsClause_X8_isWrong rfl rfl rfl (by decide +kernel) ⟨Nat.le_of_ble_eq_true rfl, Nat.le_of_ble_eq_true rfl⟩) rfl rfl (Nat.le_of_ble_eq_true rfl) ⟨Nat.zero_le _, Nat.zero_le _⟩ dX8_readsClause_58 (fun r258 F258 H258 locs258 hr258 hP258 hS258 => ?_)
    obtain ⟨hW258, hFc258, hr258⟩ := hr258
    have hFr258 := hFr.tr hFc258 (by simp <;> first | omega | (simp only [isC, isJ] at *; omega))
    obtain ⟨rfl, hz259⟩ := hr258
    obtain ⟨ty260, kn260, no260, en260, at260, sa260, sd260, wr260, pl260, va260, hF260, hb260_1, hb260_2, hb260_3, hb260_4, hb260_5, hb260_6⟩ := wt_m hW258
    have hA261 := fN_of (k := 14) (a := at260) hF260 rfl (by omega)
    have hL261 := fN_of (k := 1) (a := ty260) hF260 rfl (by omega)
    have hA262 := fN_of (k := 14) (a := at260) hF260 rfl (by omega)
    have hL262 := fN_of (k := 1) (a := ty260) hF260 rfl (by omega)
    exact hret 61 _ _ _ _ _ dX8_readsClause_61 rfl hP258 hS258 ⟨hW258, hFr258, ⟨⟨0, by omega, rfl⟩, by omega, fun h => absurd rfl h⟩⟩
  have k263 := ci_eq rfl (nI_toInt (n := 114) (by omega)) c255
  refine lv_iload_n S.1 S.2.1 dX8_readsClause_33 rfl (lv_at hl145 0 rfl) ?_
  refine lv_iload_n S.1 S.2.1 dX8_readsClause_34 rfl (lv_at hl145 2 rfl) ?_
  refine lv_bipush (v := (nI 108)) S.1 S.2.1 dX8_readsClause_35 (by decide +kernel) ?_
  refine lv_icmp_ne (tgt := 44) S.1 S.2.1 dX8_readsClause_37 (by decide) (fun c264 => ?_) (fun c264 => absurd c264 c146)
  have k265 := ci_ne rfl (nI_toInt (n := 108) (by omega)) c264
  refine lv_iconst (v := (nI 0)) S.1 S.2.1 dX8_readsClause_44 (by decide +kernel) ?_
  refine lv_icmp_eq (tgt := 62) S.1 S.2.1 dX8_readsClause_45 (by decide) (fun c266 => absurd c266 (by decide +kernel)) (fun c266 => ?_)
  have k267 := ci_ne (nI_toInt (n := 1) (by omega)) (nI_toInt (n := 0) (by omega)) c266
  refine lv_iload_n S.1 S.2.1 dX8_readsClause_48 rfl (lv_at hl145 0 rfl) ?_
  refine lv_if_eq (tgt := 62) S.1 S.2.1 dX8_readsClause_49 (by decide) (fun c268 => absurd c268 (by decide +kernel)) (fun c268 => ?_)
  have k269 := ci_ne (nI_toInt (n := 1) (by omega)) z_ti c268
  refine lv_aload_n S.1 S.2.1 dX8_readsClause_52 rfl (lv_at hl145 1 rfl) ?_
  refine lv_iconst (v := (nI 1)) S.1 S.2.1 dX8_readsClause_53 (by decide +kernel) ?_
  refine lv_aload_n S.1 S.2.1 dX8_readsClause_54 rfl (lv_at hl145 1 rfl) ?_
  refine r_get S hK hP 58 (by decide) hF1 (C := RX8) (T := TX8) (N := 23) hiX8 rfl 14 (by decide) (by decide +kernel) (v := .int (nI at1)) rfl dX8_readsClause_55 ?_
  have hA270 := fN_of (k := 14) (a := at1) hF1 rfl (by omega)
  have hL270 := fN_of (k := 1) (a := ty1) hF1 rfl (by omega)
  refine r_cVi (As := [.int (nI 1), .int (nI at1)]) (rest := []) S hK hZ hP hS hl145.1 58 (by decide) hF1 (C := RX8) rfl (c_X8_isWrong l D cA ad t hI F hW (nI 1) (at1) (by omega)) (cwV 2 S.2.2.2.2 gX8_readsClause_X8_isWrong rfl rfl rfl (by decide +kernel) ⟨Nat.le_of_ble_eq_true rfl, Nat.le_of_ble_eq_true rfl⟩) rfl rfl (Nat.le_of_ble_eq_true rfl) ⟨Nat.zero_le _, Nat.zero_le _⟩ dX8_readsClause_58 (fun r271 F271 H271 locs271 hr271 hP271 hS271 => ?_)
  obtain ⟨hW271, hFc271, hr271⟩ := hr271
  have hFr271 := hFr.tr hFc271 (by simp <;> first | omega | (simp only [isC, isJ] at *; omega))
  obtain ⟨rfl, hz272⟩ := hr271
  obtain ⟨ty273, kn273, no273, en273, at273, sa273, sd273, wr273, pl273, va273, hF273, hb273_1, hb273_2, hb273_3, hb273_4, hb273_5, hb273_6⟩ := wt_m hW271
  have hA274 := fN_of (k := 14) (a := at273) hF273 rfl (by omega)
  have hL274 := fN_of (k := 1) (a := ty273) hF273 rfl (by omega)
  have hA275 := fN_of (k := 14) (a := at273) hF273 rfl (by omega)
  have hL275 := fN_of (k := 1) (a := ty273) hF273 rfl (by omega)
  exact hret 61 _ _ _ _ _ dX8_readsClause_61 rfl hP271 hS271 ⟨hW271, hFr271, ⟨⟨0, by omega, rfl⟩, by omega, fun h => absurd rfl h⟩⟩
set_option maxHeartbeats 4000000 in
set_option maxRecDepth 100000 in
theorem c_X8_reads (l : Launch) (D : va_G) (cA ad : Nat → Nat) (t : Nat) (hI : rI ad) (F : Nat → va_E) (hW : WT cA ad F) : MI l D cA ad t yX8_reads wsX8_reads { frames := 4, cells := 0, slots := 0, locals := 93 } [.ref (ad 58)] F (fun r F' => WT cA ad F' ∧ rFr [58, 61] F F' ∧ (le32 1 r)) := by
  refine en_I rfl (by decide +kernel) (Nat.le_of_ble_eq_true rfl) ?_
  intro p e s m args below meth c ls0 Q S hK hZ hP hS hl0 hret
  have hl0 : lv_has ls0 2 [(0, .ref (ad 58))] := hl0
  have hFr : rFr [58, 61] F F := rFr.rf
  have hiX8 : ∀ w ∈ u_ws RX8 TX8 23, w ∈ wsX8_reads := by decide +kernel
  refine lv_iconst (v := (nI 0)) S.1 S.2.1 dX8_reads_0 (by decide +kernel) ?_
  refine lv_istore_n (lv' := [(1, .int (nI 0)), (0, .ref (ad 58))]) S.1 S.2.1 dX8_reads_1 rfl hl0 (by decide) rfl (fun ls1 hl1 => ?_)
  have lp2 : ∀ (n2 : Nat) (q12 : Nat), ∀ (Fl2 : Nat → va_E) (Hl2 : Heap) (lol2 : List Loc), q12 ≤ 52 → 52 - q12 < n2 → WT cA ad Fl2 → rFr [58, 61] F Fl2 → va_P D vwCl (rW ad Fl2) Hl2 → va_S (rA ad) s.heap Hl2 lol2 → ∀ (ls : Array Slot), lv_has ls 2 [(1, .int (nI q12)), (0, .ref (ad 58))] → W p l e { frames := 4, cells := 0, slots := 0, locals := 93 } s m args below meth c Hl2 lol2 0 0 Q (F0 m 2 ls []) := by
    intro n2
    induction n2 with
    | zero =>
      intro q12 Fl2 Hl2 lol2 iv2_0 hm2 hWl2 hFl2 hPl2 hSl2 ls2 hl2
      exact absurd hm2 (Nat.not_lt_zero _)
    | succ n2 ih2 =>
      intro q12 Fl2 Hl2 lol2 iv2_0 hm2 hWl2 hFl2 hPl2 hSl2 ls2 hl2
      refine lv_iload_n S.1 S.2.1 dX8_reads_2 rfl (lv_at hl2 0 rfl) ?_
      refine lv_bipush (v := (nI 52)) S.1 S.2.1 dX8_reads_3 (by decide +kernel) ?_
      refine lv_icmp_ge (tgt := 21) S.1 S.2.1 dX8_reads_5 (by decide) (fun c3 => ?_) (fun c3 => ?_)
      · skip
        have k4 := ci_le (nI_toInt (n := 52) (by omega)) (nI_toInt (n := q12) (by omega)) c3
        refine lv_aload_n S.1 S.2.1 dX8_reads_21 rfl (lv_at hl2 1 rfl) ?_
        refine lv_iconst (v := (nI 0)) S.1 S.2.1 dX8_reads_22 (by decide +kernel) ?_
        obtain ⟨ty5, kn5, no5, en5, at5, sa5, sd5, wr5, pl5, va5, hF5, hb5_1, hb5_2, hb5_3, hb5_4, hb5_5, hb5_6⟩ := wt_m hWl2
        refine r_put S hI hK hPl2 hSl2 58 (by decide) hF5 (C := RX8) (T := TX8) (N := 23) hiX8 tyX8_ok nmX8 rfl 15 (by decide) (by decide +kernel) rfl rfl rfl (Nat.le_of_ble_eq_true rfl) dX8_reads_23 (fun F6 H6 locs6 eF6 hP6 hS6 => ?_)
        have hF6 : F6 58 = .inr (8, [.ref (ad 59), .int (nI ty5), .ref (ad 60), .ref (ad 61), .ref (ad 62), .ref (ad 63), .int (nI kn5), .ref (ad 64), .ref (ad 65), .int sd5, .ref (ad 66), .int (nI no5), .ref (ad 67), .int (nI en5), .int (nI at5), .int (nI 0), .int pl5, .int va5, .int (nI sa5), .ref (ad 68), .ref (ad 69), .ref (ad 70), .ref (ad 71)]) := by rw [eF6]; exact va_up_self _ _ _
        have hW6 := hWl2.up eF6 (ok_m ⟨ty5, kn5, no5, en5, at5, sa5, sd5, (nI 0), pl5, va5, rfl, by omega, by omega, by omega, by omega, by omega, by omega⟩)
        have hFr6 := hFl2.up eF6 (by simp <;> first | omega | (simp only [isC, isJ] at *; omega))
        refine lv_aload_n S.1 S.2.1 dX8_reads_26 rfl (lv_at hl2 1 rfl) ?_
        refine lv_iconst (v := (nI 0)) S.1 S.2.1 dX8_reads_27 (by decide +kernel) ?_
        refine r_put S hI hK hP6 hS6 58 (by decide) hF6 (C := RX8) (T := TX8) (N := 23) hiX8 tyX8_ok nmX8 rfl 14 (by decide) (by decide +kernel) rfl rfl rfl (Nat.le_of_ble_eq_true rfl) dX8_reads_28 (fun F7 H7 locs7 eF7 hP7 hS7 => ?_)
        have hF7 : F7 58 = .inr (8, [.ref (ad 59), .int (nI ty5), .ref (ad 60), .ref (ad 61), .ref (ad 62), .ref (ad 63), .int (nI kn5), .ref (ad 64), .ref (ad 65), .int sd5, .ref (ad 66), .int (nI no5), .ref (ad 67), .int (nI en5), .int (nI 0), .int (nI 0), .int pl5, .int va5, .int (nI sa5), .ref (ad 68), .ref (ad 69), .ref (ad 70), .ref (ad 71)]) := by rw [eF7]; exact va_up_self _ _ _
        have hW7 := hW6.up eF7 (ok_m ⟨ty5, kn5, no5, en5, 0, sa5, sd5, (nI 0), pl5, va5, rfl, by omega, by omega, by omega, by omega, by omega, by omega⟩)
        have hFr7 := hFr6.up eF7 (by simp <;> first | omega | (simp only [isC, isJ] at *; omega))
        have lp8 : ∀ (n8 : Nat), ∀ (Fl8 : Nat → va_E) (Hl8 : Heap) (lol8 : List Loc), 240 - fN (Fl8 58) 14 < n8 → WT cA ad Fl8 → rFr [58, 61] F Fl8 → va_P D vwCl (rW ad Fl8) Hl8 → va_S (rA ad) s.heap Hl8 lol8 → ∀ (ls : Array Slot), lv_has ls 2 [(1, .int (nI q12)), (0, .ref (ad 58))] → W p l e { frames := 4, cells := 0, slots := 0, locals := 93 } s m args below meth c Hl8 lol8 0 0 Q (F0 m 31 ls []) := by
          intro n8
          induction n8 with
          | zero =>
            intro Fl8 Hl8 lol8 hm8 hWl8 hFl8 hPl8 hSl8 ls8 hl8
            exact absurd hm8 (Nat.not_lt_zero _)
          | succ n8 ih8 =>
            intro Fl8 Hl8 lol8 hm8 hWl8 hFl8 hPl8 hSl8 ls8 hl8
            obtain ⟨ty9, kn9, no9, en9, at9, sa9, sd9, wr9, pl9, va9, hF9, hb9_1, hb9_2, hb9_3, hb9_4, hb9_5, hb9_6⟩ := wt_m hWl8
            have hA10 := fN_of (k := 14) (a := at9) hF9 rfl (by omega)
            have hL10 := fN_of (k := 1) (a := ty9) hF9 rfl (by omega)
            refine lv_aload_n S.1 S.2.1 dX8_reads_31 rfl (lv_at hl8 1 rfl) ?_
            have hA11 := fN_of (k := 14) (a := at9) hF9 rfl (by omega)
            have hL11 := fN_of (k := 1) (a := ty9) hF9 rfl (by omega)
            refine r_cVi (As := []) (rest := []) S hK hZ hPl8 hSl8 hl8.1 58 (by decide) hF9 (C := RX8) rfl (c_X8_letter l D cA ad t hI Fl8 hWl8 ) (cwV 0 S.2.2.2.2 gX8_reads_X8_letter rfl rfl rfl (by decide +kernel) ⟨Nat.le_of_ble_eq_true rfl, Nat.le_of_ble_eq_true rfl⟩) rfl rfl (Nat.le_of_ble_eq_true rfl) ⟨Nat.zero_le _, Nat.zero_le _⟩ dX8_reads_32 (fun r12 F12 H12 locs12 hr12 hP12 hS12 => ?_)
            obtain ⟨hW12, hFc12, hr12⟩ := hr12
            have hFr12 := hFl8.tr hFc12 (by simp <;> first | omega | (simp only [isC, isJ] at *; omega))
            obtain ⟨hx13, hy13, hz13⟩ := hr12
            obtain ⟨ty14, kn14, no14, en14, at14, sa14, sd14, wr14, pl14, va14, hF14, hb14_1, hb14_2, hb14_3, hb14_4, hb14_5, hb14_6⟩ := wt_m hW12
            have hA15 := fN_of (k := 14) (a := at14) hF14 rfl (by omega)
            have hL15 := fN_of (k := 1) (a := ty14) hF14 rfl (by omega)
            refine lv_if_lt (tgt := 51) S.1 S.2.1 dX8_reads_35 (by decide) (fun c16 => ?_) (fun c16 => ?_)
            · skip
              have k17 := ci_lt rfl z_ti c16
              refine lv_iconst (v := (nI 1)) S.1 S.2.1 dX8_reads_51 (by decide +kernel) ?_
              exact hret 52 _ _ _ _ _ dX8_reads_52 rfl hP12 hS12 ⟨hW12, hFr12, ⟨1, by omega, rfl⟩⟩
            have k18 := ci_nlt rfl z_ti c16
            refine lv_aload_n S.1 S.2.1 dX8_reads_38 rfl (lv_at hl8 1 rfl) ?_
            refine lv_aload_n S.1 S.2.1 dX8_reads_39 rfl (lv_at hl8 1 rfl) ?_
            have hA19 := fN_of (k := 14) (a := at14) hF14 rfl (by omega)
            have hL19 := fN_of (k := 1) (a := ty14) hF14 rfl (by omega)
            refine r_cVi (As := []) (rest := [.ref (ad 58)]) S hK hZ hP12 hS12 hl8.1 58 (by decide) hF14 (C := RX8) rfl (c_X8_letter l D cA ad t hI F12 hW12 ) (cwV 0 S.2.2.2.2 gX8_reads_X8_letter rfl rfl rfl (by decide +kernel) ⟨Nat.le_of_ble_eq_true rfl, Nat.le_of_ble_eq_true rfl⟩) rfl rfl (Nat.le_of_ble_eq_true rfl) ⟨Nat.zero_le _, Nat.zero_le _⟩ dX8_reads_40 (fun r20 F20 H20 locs20 hr20 hP20 hS20 => ?_)
            obtain ⟨hW20, hFc20, hr20⟩ := hr20
            have hFr20 := hFr12.tr hFc20 (by simp <;> first | omega | (simp only [isC, isJ] at *; omega))
            obtain ⟨hx21, hy21, hz21⟩ := hr20
            obtain ⟨ty22, kn22, no22, en22, at22, sa22, sd22, wr22, pl22, va22, hF22, hb22_1, hb22_2, hb22_3, hb22_4, hb22_5, hb22_6⟩ := wt_m hW20
            have hA23 := fN_of (k := 14) (a := at22) hF22 rfl (by omega)
            have hL23 := fN_of (k := 1) (a := ty22) hF22 rfl (by omega)
            have hA24 := fN_of (k := 14) (a := at22) hF22 rfl (by omega)
            have hL24 := fN_of (k := 1) (a := ty22) hF22 rfl (by omega)
            refine r_cVi (As := [.int r20]) (rest := []) S hK hZ hP20 hS20 hl8.1 58 (by decide) hF22 (C := RX8) rfl (c_X8_readsClause l D cA ad t hI F20 hW20 r20 (hx21)) (cwV 1 S.2.2.2.2 gX8_reads_X8_readsClause rfl rfl rfl (by decide +kernel) ⟨Nat.le_of_ble_eq_true rfl, Nat.le_of_ble_eq_true rfl⟩) rfl rfl (Nat.le_of_ble_eq_true rfl) ⟨Nat.zero_le _, Nat.zero_le _⟩ dX8_reads_43 (fun r25 F25 H25 locs25 hr25 hP25 hS25 => ?_)
            obtain ⟨hW25, hFc25, hr25⟩ := hr25
            have hFr25 := hFr20.tr hFc25 (by simp <;> first | omega | (simp only [isC, isJ] at *; omega))
            obtain ⟨⟨b26, hb26, rfl⟩, hz26, hx26⟩ := hr25
            obtain ⟨ty27, kn27, no27, en27, at27, sa27, sd27, wr27, pl27, va27, hF27, hb27_1, hb27_2, hb27_3, hb27_4, hb27_5, hb27_6⟩ := wt_m hW25
            have hA28 := fN_of (k := 14) (a := at27) hF27 rfl (by omega)
            have hL28 := fN_of (k := 1) (a := ty27) hF27 rfl (by omega)
            have hy26 : b26 ≠ 0 → _ := fun q => hx26 (nI_ne0 (by omega) (by omega))
            refine lv_if_ne (tgt := 31) S.1 S.2.1 dX8_reads_46 (by decide) (fun c29 => ?_) (fun c29 => ?_)
            · skip
              have k30 := ci_ne (nI_toInt (n := b26) (by omega)) z_ti c29
              have hA31 := fN_of (k := 14) (a := at27) hF27 rfl (by omega)
              have hL31 := fN_of (k := 1) (a := ty27) hF27 rfl (by omega)
              exact ih8 F25 H25 locs25 (by omega) hW25 hFr25 hP25 hS25 ls8 (lv_sub hl8 [0, 1] rfl)
            have k32 := ci_eq (nI_toInt (n := b26) (by omega)) z_ti c29
            refine lv_iconst (v := (nI 0)) S.1 S.2.1 dX8_reads_49 (by decide +kernel) ?_
            exact hret 50 _ _ _ _ _ dX8_reads_50 rfl hP25 hS25 ⟨hW25, hFr25, ⟨0, by omega, rfl⟩⟩
        exact lp8 (240 - fN (F7 58) 14 + 1) F7 H7 locs7 (by omega) hW7 hFr7 hP7 hS7 ls2 (lv_sub hl2 [0, 1] rfl)
      have k33 := ci_nle (nI_toInt (n := 52) (by omega)) (nI_toInt (n := q12) (by omega)) c3
      refine lv_aload_n S.1 S.2.1 dX8_reads_8 rfl (lv_at hl2 1 rfl) ?_
      obtain ⟨ty34, kn34, no34, en34, at34, sa34, sd34, wr34, pl34, va34, hF34, hb34_1, hb34_2, hb34_3, hb34_4, hb34_5, hb34_6⟩ := wt_m hWl2
      refine r_get S hK hPl2 58 (by decide) hF34 (C := RX8) (T := TX8) (N := 23) hiX8 rfl 3 (by decide) (by decide +kernel) (v := .ref (ad 61)) rfl dX8_reads_9 ?_
      refine lv_iload_n S.1 S.2.1 dX8_reads_12 rfl (lv_at hl2 0 rfl) ?_
      refine lv_iconst (v := (nI 0)) S.1 S.2.1 dX8_reads_13 (by decide +kernel) ?_
      obtain ⟨g35, hF35, hg35⟩ := wt_I hWl2 (show (61, 52) ∈ rLI by decide)
      refine r_iast S hI hK hPl2 hSl2 61 (by decide) hF35 (vp_in_nI (show q12 < 52 by omega) (by omega)) dX8_reads_14 (fun F36 H36 locs36 eF36 hP36 hS36 => ?_)
      have hW36 := hWl2.up eF36 (ok_I (show (61, 52) ∈ rLI by decide) (okI_up hg35 (by rw [nI_clamp (by omega)]; exact to_T (by decide) (okT_z _))))
      have hFr36 := hFl2.up eF36 (by simp <;> first | omega | (simp only [isC, isJ] at *; omega))
      obtain ⟨gg36, eg36⟩ : ∃ g9, g9 = upd g35 (nI q12).toNatClampNeg (nI 0) := ⟨_, rfl⟩
      have hF36 : F36 61 = .inl (cA 0, 52, .inl gg36) := by rw [eF36, eg36]; exact va_up_self _ _ _
      have hg36 : ∀ j, j < 52 → rPr 61 j (gg36 j) := by rw [eg36]; exact pr_up hg35 (by rw [nI_clamp (by omega)]; exact to_T (by decide) (okT_z _))
      refine lv_iinc (v := (nI (q12 + 1))) (lv' := [(1, .int (nI (q12 + 1))), (0, .ref (ad 58))]) S.1 S.2.1 dX8_reads_15 hl2 (k := 0) rfl (nI_add _ 1) (by decide) rfl (fun ls37 hl37 => ?_)
      refine lv_goto (tgt := 2) S.1 S.2.1 dX8_reads_18 (by decide) ?_
      exact ih2 (q12 + 1) F36 H36 locs36 (by omega) (by omega) hW36 hFr36 hP36 hS36 ls37 (lv_sub hl37 [0, 1] rfl)
  exact lp2 (52 - (0) + 1) (0) F s.heap [] (by omega) (by omega) hW hFr hP hS ls1 (lv_sub hl1 [0, 1] rfl)
set_option maxHeartbeats 4000000 in
set_option maxRecDepth 100000 in
theorem c_X8_land (l : Launch) (D : va_G) (cA ad : Nat → Nat) (t : Nat) (hI : rI ad) (F : Nat → va_E) (hW : WT cA ad F) : MI l D cA ad t yX8_land wsX8_land { frames := 5, cells := 0, slots := 0, locals := 114 } [.ref (ad 58)] F (fun r F' => WT cA ad F' ∧ rFr [58, 60, 61, 62, 65] F F' ∧ (True)) := by
  refine en_I rfl (by decide +kernel) (Nat.le_of_ble_eq_true rfl) ?_
  intro p e s m args below meth c ls0 Q S hK hZ hP hS hl0 hret
  have hl0 : lv_has ls0 3 [(0, .ref (ad 58))] := hl0
  have hFr : rFr [58, 60, 61, 62, 65] F F := rFr.rf
  have hiX8 : ∀ w ∈ u_ws RX8 TX8 23, w ∈ wsX8_land := by decide +kernel
  refine lv_aload_n S.1 S.2.1 dX8_land_0 rfl (lv_at hl0 0 rfl) ?_
  obtain ⟨ty2, kn2, no2, en2, at2, sa2, sd2, wr2, pl2, va2, hF2, hb2_1, hb2_2, hb2_3, hb2_4, hb2_5, hb2_6⟩ := wt_m hW
  refine r_cVi (As := []) (rest := []) S hK hZ hP hS hl0.1 58 (by decide) hF2 (C := RX8) rfl (c_X8_reads l D cA ad t hI F hW ) (cwV 0 S.2.2.2.2 gX8_land_X8_reads rfl rfl rfl (by decide +kernel) ⟨Nat.le_of_ble_eq_true rfl, Nat.le_of_ble_eq_true rfl⟩) rfl rfl (Nat.le_of_ble_eq_true rfl) ⟨Nat.zero_le _, Nat.zero_le _⟩ dX8_land_1 (fun r1 F1 H1 locs1 hr1 hP1 hS1 => ?_)
  obtain ⟨hW1, hFc1, hr1⟩ := hr1
  have hFr1 := hFr.tr hFc1 (by simp <;> first | omega | (simp only [isC, isJ] at *; omega))
  obtain ⟨b3, hb3, rfl⟩ := hr1
  refine lv_istore_n (lv' := [(1, .int (nI b3)), (0, .ref (ad 58))]) S.1 S.2.1 dX8_land_4 rfl hl0 (by decide) rfl (fun ls4 hl4 => ?_)
  refine lv_aload_n S.1 S.2.1 dX8_land_5 rfl (lv_at hl4 1 rfl) ?_
  refine lv_iconst (v := (nI 0)) S.1 S.2.1 dX8_land_6 (by decide +kernel) ?_
  obtain ⟨ty5, kn5, no5, en5, at5, sa5, sd5, wr5, pl5, va5, hF5, hb5_1, hb5_2, hb5_3, hb5_4, hb5_5, hb5_6⟩ := wt_m hW1
  refine r_put S hI hK hP1 hS1 58 (by decide) hF5 (C := RX8) (T := TX8) (N := 23) hiX8 tyX8_ok nmX8 rfl 1 (by decide) (by decide +kernel) rfl rfl rfl (Nat.le_of_ble_eq_true rfl) dX8_land_7 (fun F6 H6 locs6 eF6 hP6 hS6 => ?_)
  have hF6 : F6 58 = .inr (8, [.ref (ad 59), .int (nI 0), .ref (ad 60), .ref (ad 61), .ref (ad 62), .ref (ad 63), .int (nI kn5), .ref (ad 64), .ref (ad 65), .int sd5, .ref (ad 66), .int (nI no5), .ref (ad 67), .int (nI en5), .int (nI at5), .int wr5, .int pl5, .int va5, .int (nI sa5), .ref (ad 68), .ref (ad 69), .ref (ad 70), .ref (ad 71)]) := by rw [eF6]; exact va_up_self _ _ _
  have hW6 := hW1.up eF6 (ok_m ⟨0, kn5, no5, en5, at5, sa5, sd5, wr5, pl5, va5, rfl, by omega, by omega, by omega, by omega, by omega, by omega⟩)
  have hFr6 := hFr1.up eF6 (by simp <;> first | omega | (simp only [isC, isJ] at *; omega))
  refine lv_aload_n S.1 S.2.1 dX8_land_10 rfl (lv_at hl4 1 rfl) ?_
  refine lv_iload_n S.1 S.2.1 dX8_land_11 rfl (lv_at hl4 0 rfl) ?_
  refine lv_if_eq (tgt := 19) S.1 S.2.1 dX8_land_12 (by decide) (fun c7 => ?_) (fun c7 => ?_)
  · skip
    have k8 := ci_eq (nI_toInt (n := b3) (by omega)) z_ti c7
    refine lv_aload_n S.1 S.2.1 dX8_land_19 rfl (lv_at hl4 1 rfl) ?_
    refine r_get S hK hP6 58 (by decide) hF6 (C := RX8) (T := TX8) (N := 23) hiX8 rfl 14 (by decide) (by decide +kernel) (v := .int (nI at5)) rfl dX8_land_20 ?_
    refine r_put S hI hK hP6 hS6 58 (by decide) hF6 (C := RX8) (T := TX8) (N := 23) hiX8 tyX8_ok nmX8 rfl 16 (by decide) (by decide +kernel) rfl rfl rfl (Nat.le_of_ble_eq_true rfl) dX8_land_23 (fun F9 H9 locs9 eF9 hP9 hS9 => ?_)
    have hF9 : F9 58 = .inr (8, [.ref (ad 59), .int (nI 0), .ref (ad 60), .ref (ad 61), .ref (ad 62), .ref (ad 63), .int (nI kn5), .ref (ad 64), .ref (ad 65), .int sd5, .ref (ad 66), .int (nI no5), .ref (ad 67), .int (nI en5), .int (nI at5), .int wr5, .int (nI at5), .int va5, .int (nI sa5), .ref (ad 68), .ref (ad 69), .ref (ad 70), .ref (ad 71)]) := by rw [eF9]; exact va_up_self _ _ _
    have hW9 := hW6.up eF9 (ok_m ⟨0, kn5, no5, en5, at5, sa5, sd5, wr5, (nI at5), va5, rfl, by omega, by omega, by omega, by omega, by omega, by omega⟩)
    have hFr9 := hFr6.up eF9 (by simp <;> first | omega | (simp only [isC, isJ] at *; omega))
    refine lv_iload_n S.1 S.2.1 dX8_land_26 rfl (lv_at hl4 0 rfl) ?_
    refine lv_if_ne (tgt := 38) S.1 S.2.1 dX8_land_27 (by decide) (fun c10 => absurd c7 c10) (fun c10 => ?_)
    have k11 := ci_eq (nI_toInt (n := b3) (by omega)) z_ti c10
    refine lv_bipush (v := (-10)) S.1 S.2.1 dX8_land_30 (by decide +kernel) ?_
    refine lv_aload_n S.1 S.2.1 dX8_land_32 rfl (lv_at hl4 1 rfl) ?_
    refine r_get S hK hP9 58 (by decide) hF9 (C := RX8) (T := TX8) (N := 23) hiX8 rfl 15 (by decide) (by decide +kernel) (v := .int wr5) rfl dX8_land_33 ?_
    refine lv_isub S.1 S.2.1 dX8_land_36 ?_
    refine lv_topi (fun v12 e12 => ?_)
    exact hret 37 _ _ _ _ _ dX8_land_37 rfl hP9 hS9 ⟨hW9, hFr9, trivial⟩
  have k13 := ci_ne (nI_toInt (n := b3) (by omega)) z_ti c7
  refine lv_iconst (v := (-1)) S.1 S.2.1 dX8_land_15 (by decide +kernel) ?_
  refine lv_goto (tgt := 23) S.1 S.2.1 dX8_land_16 (by decide) ?_
  refine r_put S hI hK hP6 hS6 58 (by decide) hF6 (C := RX8) (T := TX8) (N := 23) hiX8 tyX8_ok nmX8 rfl 16 (by decide) (by decide +kernel) rfl rfl rfl (Nat.le_of_ble_eq_true rfl) dX8_land_23 (fun F14 H14 locs14 eF14 hP14 hS14 => ?_)
  have hF14 : F14 58 = .inr (8, [.ref (ad 59), .int (nI 0), .ref (ad 60), .ref (ad 61), .ref (ad 62), .ref (ad 63), .int (nI kn5), .ref (ad 64), .ref (ad 65), .int sd5, .ref (ad 66), .int (nI no5), .ref (ad 67), .int (nI en5), .int (nI at5), .int wr5, .int (-1), .int va5, .int (nI sa5), .ref (ad 68), .ref (ad 69), .ref (ad 70), .ref (ad 71)]) := by rw [eF14]; exact va_up_self _ _ _
  have hW14 := hW6.up eF14 (ok_m ⟨0, kn5, no5, en5, at5, sa5, sd5, wr5, (-1), va5, rfl, by omega, by omega, by omega, by omega, by omega, by omega⟩)
  have hFr14 := hFr6.up eF14 (by simp <;> first | omega | (simp only [isC, isJ] at *; omega))
  refine lv_iload_n S.1 S.2.1 dX8_land_26 rfl (lv_at hl4 0 rfl) ?_
  refine lv_if_ne (tgt := 38) S.1 S.2.1 dX8_land_27 (by decide) (fun c15 => ?_) (fun c15 => absurd c15 c7)
  have k16 := ci_ne (nI_toInt (n := b3) (by omega)) z_ti c15
  refine lv_iconst (v := (nI 0)) S.1 S.2.1 dX8_land_38 (by decide +kernel) ?_
  refine lv_istore_n (lv' := [(2, .int (nI 0)), (1, .int (nI b3)), (0, .ref (ad 58))]) S.1 S.2.1 dX8_land_39 rfl hl4 (by decide) rfl (fun ls17 hl17 => ?_)
  have lp18 : ∀ (n18 : Nat) (q218 : Nat), ∀ (Fl18 : Nat → va_E) (Hl18 : Heap) (lol18 : List Loc), q218 ≤ 52 → 52 - q218 < n18 → WT cA ad Fl18 → rFr [58, 60, 61, 62, 65] F Fl18 → va_P D vwCl (rW ad Fl18) Hl18 → va_S (rA ad) s.heap Hl18 lol18 → ∀ (ls : Array Slot), lv_has ls 3 [(2, .int (nI q218)), (1, .int (nI b3)), (0, .ref (ad 58))] → W p l e { frames := 5, cells := 0, slots := 0, locals := 114 } s m args below meth c Hl18 lol18 0 0 Q (F0 m 40 ls []) := by
    intro n18
    induction n18 with
    | zero =>
      intro q218 Fl18 Hl18 lol18 iv18_0 hm18 hWl18 hFl18 hPl18 hSl18 ls18 hl18
      exact absurd hm18 (Nat.not_lt_zero _)
    | succ n18 ih18 =>
      intro q218 Fl18 Hl18 lol18 iv18_0 hm18 hWl18 hFl18 hPl18 hSl18 ls18 hl18
      refine lv_iload_n S.1 S.2.1 dX8_land_40 rfl (lv_at hl18 0 rfl) ?_
      refine lv_bipush (v := (nI 52)) S.1 S.2.1 dX8_land_41 (by decide +kernel) ?_
      refine lv_icmp_ge (tgt := 64) S.1 S.2.1 dX8_land_43 (by decide) (fun c19 => ?_) (fun c19 => ?_)
      · skip
        have k20 := ci_le (nI_toInt (n := 52) (by omega)) (nI_toInt (n := q218) (by omega)) c19
        refine lv_iconst (v := (nI 0)) S.1 S.2.1 dX8_land_64 (by decide +kernel) ?_
        refine lv_istore_n (lv' := [(2, .int (nI 0)), (1, .int (nI b3)), (0, .ref (ad 58))]) S.1 S.2.1 dX8_land_65 rfl hl18 (by decide) rfl (fun ls21 hl21 => ?_)
        have lp22 : ∀ (n22 : Nat) (q222 : Nat), ∀ (Fl22 : Nat → va_E) (Hl22 : Heap) (lol22 : List Loc), q222 ≤ 7 → 7 - q222 < n22 → WT cA ad Fl22 → rFr [58, 60, 61, 62, 65] F Fl22 → va_P D vwCl (rW ad Fl22) Hl22 → va_S (rA ad) s.heap Hl22 lol22 → ∀ (ls : Array Slot), lv_has ls 3 [(2, .int (nI q222)), (1, .int (nI b3)), (0, .ref (ad 58))] → W p l e { frames := 5, cells := 0, slots := 0, locals := 114 } s m args below meth c Hl22 lol22 0 0 Q (F0 m 66 ls []) := by
          intro n22
          induction n22 with
          | zero =>
            intro q222 Fl22 Hl22 lol22 iv22_0 hm22 hWl22 hFl22 hPl22 hSl22 ls22 hl22
            exact absurd hm22 (Nat.not_lt_zero _)
          | succ n22 ih22 =>
            intro q222 Fl22 Hl22 lol22 iv22_0 hm22 hWl22 hFl22 hPl22 hSl22 ls22 hl22
            refine lv_iload_n S.1 S.2.1 dX8_land_66 rfl (lv_at hl22 0 rfl) ?_
            refine lv_bipush (v := (nI 7)) S.1 S.2.1 dX8_land_67 (by decide +kernel) ?_
            refine lv_icmp_ge (tgt := 85) S.1 S.2.1 dX8_land_69 (by decide) (fun c23 => ?_) (fun c23 => ?_)
            · skip
              have k24 := ci_le (nI_toInt (n := 7) (by omega)) (nI_toInt (n := q222) (by omega)) c23
              refine lv_aload_n S.1 S.2.1 dX8_land_85 rfl (lv_at hl22 2 rfl) ?_
              refine lv_iconst (v := (nI 0)) S.1 S.2.1 dX8_land_86 (by decide +kernel) ?_
              obtain ⟨ty25, kn25, no25, en25, at25, sa25, sd25, wr25, pl25, va25, hF25, hb25_1, hb25_2, hb25_3, hb25_4, hb25_5, hb25_6⟩ := wt_m hWl22
              refine r_put S hI hK hPl22 hSl22 58 (by decide) hF25 (C := RX8) (T := TX8) (N := 23) hiX8 tyX8_ok nmX8 rfl 6 (by decide) (by decide +kernel) rfl rfl rfl (Nat.le_of_ble_eq_true rfl) dX8_land_87 (fun F26 H26 locs26 eF26 hP26 hS26 => ?_)
              have hF26 : F26 58 = .inr (8, [.ref (ad 59), .int (nI ty25), .ref (ad 60), .ref (ad 61), .ref (ad 62), .ref (ad 63), .int (nI 0), .ref (ad 64), .ref (ad 65), .int sd25, .ref (ad 66), .int (nI no25), .ref (ad 67), .int (nI en25), .int (nI at25), .int wr25, .int pl25, .int va25, .int (nI sa25), .ref (ad 68), .ref (ad 69), .ref (ad 70), .ref (ad 71)]) := by rw [eF26]; exact va_up_self _ _ _
              have hW26 := hWl22.up eF26 (ok_m ⟨ty25, 0, no25, en25, at25, sa25, sd25, wr25, pl25, va25, rfl, by omega, by omega, by omega, by omega, by omega, by omega⟩)
              have hFr26 := hFl22.up eF26 (by simp <;> first | omega | (simp only [isC, isJ] at *; omega))
              refine lv_aload_n S.1 S.2.1 dX8_land_90 rfl (lv_at hl22 2 rfl) ?_
              refine lv_iconst (v := (nI 0)) S.1 S.2.1 dX8_land_91 (by decide +kernel) ?_
              refine r_put S hI hK hP26 hS26 58 (by decide) hF26 (C := RX8) (T := TX8) (N := 23) hiX8 tyX8_ok nmX8 rfl 11 (by decide) (by decide +kernel) rfl rfl rfl (Nat.le_of_ble_eq_true rfl) dX8_land_92 (fun F27 H27 locs27 eF27 hP27 hS27 => ?_)
              have hF27 : F27 58 = .inr (8, [.ref (ad 59), .int (nI ty25), .ref (ad 60), .ref (ad 61), .ref (ad 62), .ref (ad 63), .int (nI 0), .ref (ad 64), .ref (ad 65), .int sd25, .ref (ad 66), .int (nI 0), .ref (ad 67), .int (nI en25), .int (nI at25), .int wr25, .int pl25, .int va25, .int (nI sa25), .ref (ad 68), .ref (ad 69), .ref (ad 70), .ref (ad 71)]) := by rw [eF27]; exact va_up_self _ _ _
              have hW27 := hW26.up eF27 (ok_m ⟨ty25, 0, 0, en25, at25, sa25, sd25, wr25, pl25, va25, rfl, by omega, by omega, by omega, by omega, by omega, by omega⟩)
              have hFr27 := hFr26.up eF27 (by simp <;> first | omega | (simp only [isC, isJ] at *; omega))
              refine lv_aload_n S.1 S.2.1 dX8_land_95 rfl (lv_at hl22 2 rfl) ?_
              refine lv_iconst (v := (nI 0)) S.1 S.2.1 dX8_land_96 (by decide +kernel) ?_
              refine r_put S hI hK hP27 hS27 58 (by decide) hF27 (C := RX8) (T := TX8) (N := 23) hiX8 tyX8_ok nmX8 rfl 13 (by decide) (by decide +kernel) rfl rfl rfl (Nat.le_of_ble_eq_true rfl) dX8_land_97 (fun F28 H28 locs28 eF28 hP28 hS28 => ?_)
              have hF28 : F28 58 = .inr (8, [.ref (ad 59), .int (nI ty25), .ref (ad 60), .ref (ad 61), .ref (ad 62), .ref (ad 63), .int (nI 0), .ref (ad 64), .ref (ad 65), .int sd25, .ref (ad 66), .int (nI 0), .ref (ad 67), .int (nI 0), .int (nI at25), .int wr25, .int pl25, .int va25, .int (nI sa25), .ref (ad 68), .ref (ad 69), .ref (ad 70), .ref (ad 71)]) := by rw [eF28]; exact va_up_self _ _ _
              have hW28 := hW27.up eF28 (ok_m ⟨ty25, 0, 0, 0, at25, sa25, sd25, wr25, pl25, va25, rfl, by omega, by omega, by omega, by omega, by omega, by omega⟩)
              have hFr28 := hFr27.up eF28 (by simp <;> first | omega | (simp only [isC, isJ] at *; omega))
              refine lv_aload_n S.1 S.2.1 dX8_land_100 rfl (lv_at hl22 2 rfl) ?_
              refine r_get S hK hP28 58 (by decide) hF28 (C := RX8) (T := TX8) (N := 23) hiX8 rfl 8 (by decide) (by decide +kernel) (v := .ref (ad 65)) rfl dX8_land_101 ?_
              refine lv_iconst (v := (nI 0)) S.1 S.2.1 dX8_land_104 (by decide +kernel) ?_
              refine lv_iconst (v := (nI 0)) S.1 S.2.1 dX8_land_105 (by decide +kernel) ?_
              obtain ⟨g29, hF29⟩ := wt_Z hW28 (show (65, 2) ∈ rLZ by decide)
              refine r_zast S hI hK hP28 hS28 65 (by decide) hF29 (vp_in_nI (show 0 < 2 by omega) (by omega)) dX8_land_106 (fun F30 H30 locs30 eF30 hP30 hS30 => ?_)
              have hW30 := hW28.up eF30 (ok_Z (show (65, 2) ∈ rLZ by decide) ⟨_, rfl⟩)
              have hFr30 := hFr28.up eF30 (by simp <;> first | omega | (simp only [isC, isJ] at *; omega))
              refine lv_aload_n S.1 S.2.1 dX8_land_107 rfl (lv_at hl22 2 rfl) ?_
              have hF31 := (show F30 58 = F28 58 by rw [eF30]; exact va_up_ne _ _ (by decide)).trans hF28
              refine r_get S hK hP30 58 (by decide) hF31 (C := RX8) (T := TX8) (N := 23) hiX8 rfl 8 (by decide) (by decide +kernel) (v := .ref (ad 65)) rfl dX8_land_108 ?_
              refine lv_iconst (v := (nI 1)) S.1 S.2.1 dX8_land_111 (by decide +kernel) ?_
              refine lv_iconst (v := (nI 0)) S.1 S.2.1 dX8_land_112 (by decide +kernel) ?_
              obtain ⟨g32, hF32⟩ := wt_Z hW30 (show (65, 2) ∈ rLZ by decide)
              refine r_zast S hI hK hP30 hS30 65 (by decide) hF32 (vp_in_nI (show 1 < 2 by omega) (by omega)) dX8_land_113 (fun F33 H33 locs33 eF33 hP33 hS33 => ?_)
              have hW33 := hW30.up eF33 (ok_Z (show (65, 2) ∈ rLZ by decide) ⟨_, rfl⟩)
              have hFr33 := hFr30.up eF33 (by simp <;> first | omega | (simp only [isC, isJ] at *; omega))
              refine lv_aload_n S.1 S.2.1 dX8_land_114 rfl (lv_at hl22 2 rfl) ?_
              have hF34 := (show F33 58 = F30 58 by rw [eF33]; exact va_up_ne _ _ (by decide)).trans hF31
              refine r_get S hK hP33 58 (by decide) hF34 (C := RX8) (T := TX8) (N := 23) hiX8 rfl 2 (by decide) (by decide +kernel) (v := .ref (ad 60)) rfl dX8_land_115 ?_
              refine lv_iconst (v := (nI 2)) S.1 S.2.1 dX8_land_118 (by decide +kernel) ?_
              obtain ⟨g35, hF35, hg35⟩ := wt_I hW33 (show (60, 52) ∈ rLI by decide)
              refine r_iald S hK hP33 60 (by decide) hF35 (vp_in_nI (show 2 < 52 by omega) (by omega)) dX8_land_119 ?_
              refine lv_topi (fun v37 e37 => ?_)
              obtain ⟨b38, hb38, he38⟩ := (pr_T (by decide) (hg35 2 (by decide))).2.1 rfl
              obtain rfl : v37 = nI b38 := e37.trans he38
              exact hret 120 _ _ _ _ _ dX8_land_120 rfl hP33 hS33 ⟨hW33, hFr33, trivial⟩
            have k39 := ci_nle (nI_toInt (n := 7) (by omega)) (nI_toInt (n := q222) (by omega)) c23
            refine lv_aload_n S.1 S.2.1 dX8_land_72 rfl (lv_at hl22 2 rfl) ?_
            obtain ⟨ty40, kn40, no40, en40, at40, sa40, sd40, wr40, pl40, va40, hF40, hb40_1, hb40_2, hb40_3, hb40_4, hb40_5, hb40_6⟩ := wt_m hWl22
            refine r_get S hK hPl22 58 (by decide) hF40 (C := RX8) (T := TX8) (N := 23) hiX8 rfl 4 (by decide) (by decide +kernel) (v := .ref (ad 62)) rfl dX8_land_73 ?_
            refine lv_iload_n S.1 S.2.1 dX8_land_76 rfl (lv_at hl22 0 rfl) ?_
            refine lv_iconst (v := (nI 0)) S.1 S.2.1 dX8_land_77 (by decide +kernel) ?_
            obtain ⟨g41, hF41, hg41⟩ := wt_I hWl22 (show (62, 7) ∈ rLI by decide)
            refine r_iast S hI hK hPl22 hSl22 62 (by decide) hF41 (vp_in_nI (show q222 < 7 by omega) (by omega)) dX8_land_78 (fun F42 H42 locs42 eF42 hP42 hS42 => ?_)
            have hW42 := hWl22.up eF42 (ok_I (show (62, 7) ∈ rLI by decide) (okI_up hg41 (by rw [nI_clamp (by omega)]; exact to_S (okS_z _))))
            have hFr42 := hFl22.up eF42 (by simp <;> first | omega | (simp only [isC, isJ] at *; omega))
            obtain ⟨gg42, eg42⟩ : ∃ g9, g9 = upd g41 (nI q222).toNatClampNeg (nI 0) := ⟨_, rfl⟩
            have hF42 : F42 62 = .inl (cA 0, 7, .inl gg42) := by rw [eF42, eg42]; exact va_up_self _ _ _
            have hg42 : ∀ j, j < 7 → rPr 62 j (gg42 j) := by rw [eg42]; exact pr_up hg41 (by rw [nI_clamp (by omega)]; exact to_S (okS_z _))
            refine lv_iinc (v := (nI (q222 + 1))) (lv' := [(2, .int (nI (q222 + 1))), (1, .int (nI b3)), (0, .ref (ad 58))]) S.1 S.2.1 dX8_land_79 hl22 (k := 0) rfl (nI_add _ 1) (by decide) rfl (fun ls43 hl43 => ?_)
            refine lv_goto (tgt := 66) S.1 S.2.1 dX8_land_82 (by decide) ?_
            exact ih22 (q222 + 1) F42 H42 locs42 (by omega) (by omega) hW42 hFr42 hP42 hS42 ls43 (lv_sub hl43 [0, 1, 2] rfl)
        exact lp22 (7 - (0) + 1) (0) Fl18 Hl18 lol18 (by omega) (by omega) hWl18 hFl18 hPl18 hSl18 ls21 (lv_sub hl21 [0, 1, 2] rfl)
      have k44 := ci_nle (nI_toInt (n := 52) (by omega)) (nI_toInt (n := q218) (by omega)) c19
      refine lv_aload_n S.1 S.2.1 dX8_land_46 rfl (lv_at hl18 2 rfl) ?_
      obtain ⟨ty45, kn45, no45, en45, at45, sa45, sd45, wr45, pl45, va45, hF45, hb45_1, hb45_2, hb45_3, hb45_4, hb45_5, hb45_6⟩ := wt_m hWl18
      refine r_get S hK hPl18 58 (by decide) hF45 (C := RX8) (T := TX8) (N := 23) hiX8 rfl 2 (by decide) (by decide +kernel) (v := .ref (ad 60)) rfl dX8_land_47 ?_
      refine lv_iload_n S.1 S.2.1 dX8_land_50 rfl (lv_at hl18 0 rfl) ?_
      refine lv_aload_n S.1 S.2.1 dX8_land_51 rfl (lv_at hl18 2 rfl) ?_
      refine r_get S hK hPl18 58 (by decide) hF45 (C := RX8) (T := TX8) (N := 23) hiX8 rfl 3 (by decide) (by decide +kernel) (v := .ref (ad 61)) rfl dX8_land_52 ?_
      refine lv_iload_n S.1 S.2.1 dX8_land_55 rfl (lv_at hl18 0 rfl) ?_
      obtain ⟨g46, hF46, hg46⟩ := wt_I hWl18 (show (61, 52) ∈ rLI by decide)
      refine r_iald S hK hPl18 61 (by decide) hF46 (vp_in_nI (show q218 < 52 by omega) (by omega)) dX8_land_56 ?_
      refine lv_topi (fun v48 e48 => ?_)
      obtain ⟨g49, hF49, hg49⟩ := wt_I hWl18 (show (60, 52) ∈ rLI by decide)
      refine r_iast S hI hK hPl18 hSl18 60 (by decide) hF49 (vp_in_nI (show q218 < 52 by omega) (by omega)) dX8_land_57 (fun F50 H50 locs50 eF50 hP50 hS50 => ?_)
      have hW50 := hWl18.up eF50 (ok_I (show (60, 52) ∈ rLI by decide) (okI_up hg49 (by rw [nI_clamp (by omega)]; apply to_T (by decide); rw [e48, nI_clamp (by omega)]; exact okT_cg (by omega) (pr_T (by decide) (hg46 (q218) (by omega))))))
      have hFr50 := hFl18.up eF50 (by simp <;> first | omega | (simp only [isC, isJ] at *; omega))
      obtain ⟨gg50, eg50⟩ : ∃ g9, g9 = upd g49 (nI q218).toNatClampNeg v48 := ⟨_, rfl⟩
      have hF50 : F50 60 = .inl (cA 0, 52, .inl gg50) := by rw [eF50, eg50]; exact va_up_self _ _ _
      have hg50 : ∀ j, j < 52 → rPr 60 j (gg50 j) := by rw [eg50]; exact pr_up hg49 (by rw [nI_clamp (by omega)]; apply to_T (by decide); rw [e48, nI_clamp (by omega)]; exact okT_cg (by omega) (pr_T (by decide) (hg46 (q218) (by omega))))
      refine lv_iinc (v := (nI (q218 + 1))) (lv' := [(2, .int (nI (q218 + 1))), (1, .int (nI b3)), (0, .ref (ad 58))]) S.1 S.2.1 dX8_land_58 hl18 (k := 0) rfl (nI_add _ 1) (by decide) rfl (fun ls51 hl51 => ?_)
      refine lv_goto (tgt := 40) S.1 S.2.1 dX8_land_61 (by decide) ?_
      exact ih18 (q218 + 1) F50 H50 locs50 (by omega) (by omega) hW50 hFr50 hP50 hS50 ls51 (lv_sub hl51 [0, 1, 2] rfl)
  exact lp18 (52 - (0) + 1) (0) F14 H14 locs14 (by omega) (by omega) hW14 hFr14 hP14 hS14 ls17 (lv_sub hl17 [0, 1, 2] rfl)
set_option maxHeartbeats 4000000 in
set_option maxRecDepth 100000 in
theorem c_X8_fault (l : Launch) (D : va_G) (cA ad : Nat → Nat) (t : Nat) (hI : rI ad) (F : Nat → va_E) (hW : WT cA ad F) : MP l D cA ad t yX8_fault wsX8_fault { frames := 0, cells := 0, slots := 0, locals := 0 } [.ref (ad 58)] F (fun r => True) := by
  refine en_P rfl (by decide +kernel) (Nat.le_of_ble_eq_true rfl) ?_
  intro p e s m args below meth c ls0 Q S hK hZ hP hS hl0 hret
  have hl0 : lv_has ls0 1 [(0, .ref (ad 58))] := hl0
  have hiX8 : ∀ w ∈ u_ws RX8 TX8 23, w ∈ wsX8_fault := by decide +kernel
  refine lv_aload_n S.1 S.2.1 dX8_fault_0 rfl (lv_at hl0 0 rfl) ?_
  obtain ⟨ty1, kn1, no1, en1, at1, sa1, sd1, wr1, pl1, va1, hF1, hb1_1, hb1_2, hb1_3, hb1_4, hb1_5, hb1_6⟩ := wt_m hW
  refine r_get S hK hP 58 (by decide) hF1 (C := RX8) (T := TX8) (N := 23) hiX8 rfl 16 (by decide) (by decide +kernel) (v := .int pl1) rfl dX8_fault_1 ?_
  exact hret 4 _ _ dX8_fault_4 rfl (trivial)
set_option maxHeartbeats 4000000 in
set_option maxRecDepth 100000 in
theorem c_X8_told (l : Launch) (D : va_G) (cA ad : Nat → Nat) (t : Nat) (hI : rI ad) (F : Nat → va_E) (hW : WT cA ad F) (p1 : Int32) : MP l D cA ad t yX8_told wsX8_told { frames := 0, cells := 0, slots := 0, locals := 0 } [.ref (ad 58), .int p1] F (fun r => True) := by
  refine en_P rfl (by decide +kernel) (Nat.le_of_ble_eq_true rfl) ?_
  intro p e s m args below meth c ls0 Q S hK hZ hP hS hl0 hret
  have hl0 : lv_has ls0 2 [(0, .ref (ad 58)), (1, .int p1)] := hl0
  have hiX8 : ∀ w ∈ u_ws RX8 TX8 23, w ∈ wsX8_told := by decide +kernel
  refine lv_iload_n S.1 S.2.1 dX8_told_0 rfl (lv_at hl0 1 rfl) ?_
  by_cases hs1_0 : p1.toInt = 0
  · refine lv_tableIn (off := 75) (tgt := 76) S.1 S.2.1 dX8_told_1 (by omega) (by omega) (by rw [hs1_0]; rfl) (by decide) ?_
    refine lv_aload_n S.1 S.2.1 dX8_told_76 rfl (lv_at hl0 0 rfl) ?_
    obtain ⟨ty2, kn2, no2, en2, at2, sa2, sd2, wr2, pl2, va2, hF2, hb2_1, hb2_2, hb2_3, hb2_4, hb2_5, hb2_6⟩ := wt_m hW
    refine r_get S hK hP 58 (by decide) hF2 (C := RX8) (T := TX8) (N := 23) hiX8 rfl 2 (by decide) (by decide +kernel) (v := .ref (ad 60)) rfl dX8_told_77 ?_
    refine lv_iconst (v := (nI 0)) S.1 S.2.1 dX8_told_80 (by decide +kernel) ?_
    obtain ⟨g3, hF3, hg3⟩ := wt_I hW (show (60, 52) ∈ rLI by decide)
    refine r_iald S hK hP 60 (by decide) hF3 (vp_in_nI (show 0 < 52 by omega) (by omega)) dX8_told_81 ?_
    refine lv_topi (fun v5 e5 => ?_)
    obtain ⟨b6, hb6, he6⟩ := (pr_T (by decide) (hg3 0 (by decide))).1 rfl
    obtain rfl : v5 = nI b6 := e5.trans he6
    exact hret 82 _ _ dX8_told_82 rfl (trivial)
  by_cases hs1_1 : p1.toInt = 1
  · refine lv_tableIn (off := 82) (tgt := 83) S.1 S.2.1 dX8_told_1 (by omega) (by omega) (by rw [hs1_1]; rfl) (by decide) ?_
    refine lv_aload_n S.1 S.2.1 dX8_told_83 rfl (lv_at hl0 0 rfl) ?_
    obtain ⟨ty7, kn7, no7, en7, at7, sa7, sd7, wr7, pl7, va7, hF7, hb7_1, hb7_2, hb7_3, hb7_4, hb7_5, hb7_6⟩ := wt_m hW
    refine r_get S hK hP 58 (by decide) hF7 (C := RX8) (T := TX8) (N := 23) hiX8 rfl 2 (by decide) (by decide +kernel) (v := .ref (ad 60)) rfl dX8_told_84 ?_
    refine lv_iconst (v := (nI 1)) S.1 S.2.1 dX8_told_87 (by decide +kernel) ?_
    obtain ⟨g8, hF8, hg8⟩ := wt_I hW (show (60, 52) ∈ rLI by decide)
    refine r_iald S hK hP 60 (by decide) hF8 (vp_in_nI (show 1 < 52 by omega) (by omega)) dX8_told_88 ?_
    refine lv_topi (fun v10 e10 => ?_)
    exact hret 89 _ _ dX8_told_89 rfl (trivial)
  by_cases hs1_2 : p1.toInt = 2
  · refine lv_tableIn (off := 89) (tgt := 90) S.1 S.2.1 dX8_told_1 (by omega) (by omega) (by rw [hs1_2]; rfl) (by decide) ?_
    refine lv_aload_n S.1 S.2.1 dX8_told_90 rfl (lv_at hl0 0 rfl) ?_
    obtain ⟨ty11, kn11, no11, en11, at11, sa11, sd11, wr11, pl11, va11, hF11, hb11_1, hb11_2, hb11_3, hb11_4, hb11_5, hb11_6⟩ := wt_m hW
    refine r_get S hK hP 58 (by decide) hF11 (C := RX8) (T := TX8) (N := 23) hiX8 rfl 2 (by decide) (by decide +kernel) (v := .ref (ad 60)) rfl dX8_told_91 ?_
    refine lv_iconst (v := (nI 2)) S.1 S.2.1 dX8_told_94 (by decide +kernel) ?_
    obtain ⟨g12, hF12, hg12⟩ := wt_I hW (show (60, 52) ∈ rLI by decide)
    refine r_iald S hK hP 60 (by decide) hF12 (vp_in_nI (show 2 < 52 by omega) (by omega)) dX8_told_95 ?_
    refine lv_topi (fun v14 e14 => ?_)
    obtain ⟨b15, hb15, he15⟩ := (pr_T (by decide) (hg12 2 (by decide))).2.1 rfl
    obtain rfl : v14 = nI b15 := e14.trans he15
    exact hret 96 _ _ dX8_told_96 rfl (trivial)
  by_cases hs1_3 : p1.toInt = 3
  · refine lv_tableIn (off := 96) (tgt := 97) S.1 S.2.1 dX8_told_1 (by omega) (by omega) (by rw [hs1_3]; rfl) (by decide) ?_
    refine lv_aload_n S.1 S.2.1 dX8_told_97 rfl (lv_at hl0 0 rfl) ?_
    obtain ⟨ty16, kn16, no16, en16, at16, sa16, sd16, wr16, pl16, va16, hF16, hb16_1, hb16_2, hb16_3, hb16_4, hb16_5, hb16_6⟩ := wt_m hW
    refine r_get S hK hP 58 (by decide) hF16 (C := RX8) (T := TX8) (N := 23) hiX8 rfl 2 (by decide) (by decide +kernel) (v := .ref (ad 60)) rfl dX8_told_98 ?_
    refine lv_iconst (v := (nI 3)) S.1 S.2.1 dX8_told_101 (by decide +kernel) ?_
    obtain ⟨g17, hF17, hg17⟩ := wt_I hW (show (60, 52) ∈ rLI by decide)
    refine r_iald S hK hP 60 (by decide) hF17 (vp_in_nI (show 3 < 52 by omega) (by omega)) dX8_told_102 ?_
    refine lv_topi (fun v19 e19 => ?_)
    obtain ⟨b20, hb20, he20⟩ := (pr_T (by decide) (hg17 3 (by decide))).2.2 rfl
    obtain rfl : v19 = nI b20 := e19.trans he20
    exact hret 103 _ _ dX8_told_103 rfl (trivial)
  by_cases hs1_4 : p1.toInt = 4
  · refine lv_tableIn (off := 103) (tgt := 104) S.1 S.2.1 dX8_told_1 (by omega) (by omega) (by rw [hs1_4]; rfl) (by decide) ?_
    refine lv_aload_n S.1 S.2.1 dX8_told_104 rfl (lv_at hl0 0 rfl) ?_
    obtain ⟨ty21, kn21, no21, en21, at21, sa21, sd21, wr21, pl21, va21, hF21, hb21_1, hb21_2, hb21_3, hb21_4, hb21_5, hb21_6⟩ := wt_m hW
    refine r_get S hK hP 58 (by decide) hF21 (C := RX8) (T := TX8) (N := 23) hiX8 rfl 1 (by decide) (by decide +kernel) (v := .int (nI ty21)) rfl dX8_told_105 ?_
    exact hret 108 _ _ dX8_told_108 rfl (trivial)
  by_cases hs1_5 : p1.toInt = 5
  · refine lv_tableIn (off := 108) (tgt := 109) S.1 S.2.1 dX8_told_1 (by omega) (by omega) (by rw [hs1_5]; rfl) (by decide) ?_
    refine lv_aload_n S.1 S.2.1 dX8_told_109 rfl (lv_at hl0 0 rfl) ?_
    obtain ⟨ty22, kn22, no22, en22, at22, sa22, sd22, wr22, pl22, va22, hF22, hb22_1, hb22_2, hb22_3, hb22_4, hb22_5, hb22_6⟩ := wt_m hW
    refine r_get S hK hP 58 (by decide) hF22 (C := RX8) (T := TX8) (N := 23) hiX8 rfl 4 (by decide) (by decide +kernel) (v := .ref (ad 62)) rfl dX8_told_110 ?_
    refine lv_iconst (v := (nI 1)) S.1 S.2.1 dX8_told_113 (by decide +kernel) ?_
    obtain ⟨g23, hF23, hg23⟩ := wt_I hW (show (62, 7) ∈ rLI by decide)
    refine r_iald S hK hP 62 (by decide) hF23 (vp_in_nI (show 1 < 7 by omega) (by omega)) dX8_told_114 ?_
    refine lv_topi (fun v25 e25 => ?_)
    exact hret 115 _ _ dX8_told_115 rfl (trivial)
  by_cases hs1_6 : p1.toInt = 6
  · refine lv_tableIn (off := 115) (tgt := 116) S.1 S.2.1 dX8_told_1 (by omega) (by omega) (by rw [hs1_6]; rfl) (by decide) ?_
    refine lv_aload_n S.1 S.2.1 dX8_told_116 rfl (lv_at hl0 0 rfl) ?_
    obtain ⟨ty26, kn26, no26, en26, at26, sa26, sd26, wr26, pl26, va26, hF26, hb26_1, hb26_2, hb26_3, hb26_4, hb26_5, hb26_6⟩ := wt_m hW
    refine r_get S hK hP 58 (by decide) hF26 (C := RX8) (T := TX8) (N := 23) hiX8 rfl 4 (by decide) (by decide +kernel) (v := .ref (ad 62)) rfl dX8_told_117 ?_
    refine lv_iconst (v := (nI 0)) S.1 S.2.1 dX8_told_120 (by decide +kernel) ?_
    obtain ⟨g27, hF27, hg27⟩ := wt_I hW (show (62, 7) ∈ rLI by decide)
    refine r_iald S hK hP 62 (by decide) hF27 (vp_in_nI (show 0 < 7 by omega) (by omega)) dX8_told_121 ?_
    refine lv_topi (fun v29 e29 => ?_)
    obtain ⟨b30, hb30, he30⟩ := (pr_S (hg27 0 (by decide))).1 rfl
    obtain rfl : v29 = nI b30 := e29.trans he30
    exact hret 122 _ _ dX8_told_122 rfl (trivial)
  by_cases hs1_7 : p1.toInt = 7
  · refine lv_tableIn (off := 122) (tgt := 123) S.1 S.2.1 dX8_told_1 (by omega) (by omega) (by rw [hs1_7]; rfl) (by decide) ?_
    refine lv_aload_n S.1 S.2.1 dX8_told_123 rfl (lv_at hl0 0 rfl) ?_
    obtain ⟨ty31, kn31, no31, en31, at31, sa31, sd31, wr31, pl31, va31, hF31, hb31_1, hb31_2, hb31_3, hb31_4, hb31_5, hb31_6⟩ := wt_m hW
    refine r_get S hK hP 58 (by decide) hF31 (C := RX8) (T := TX8) (N := 23) hiX8 rfl 4 (by decide) (by decide +kernel) (v := .ref (ad 62)) rfl dX8_told_124 ?_
    refine lv_iconst (v := (nI 2)) S.1 S.2.1 dX8_told_127 (by decide +kernel) ?_
    obtain ⟨g32, hF32, hg32⟩ := wt_I hW (show (62, 7) ∈ rLI by decide)
    refine r_iald S hK hP 62 (by decide) hF32 (vp_in_nI (show 2 < 7 by omega) (by omega)) dX8_told_128 ?_
    refine lv_topi (fun v34 e34 => ?_)
    obtain ⟨b35, hb35, he35⟩ := (pr_S (hg32 2 (by decide))).2.1 rfl
    obtain rfl : v34 = nI b35 := e34.trans he35
    exact hret 129 _ _ dX8_told_129 rfl (trivial)
  by_cases hs1_8 : p1.toInt = 8
  · refine lv_tableIn (off := 129) (tgt := 130) S.1 S.2.1 dX8_told_1 (by omega) (by omega) (by rw [hs1_8]; rfl) (by decide) ?_
    refine lv_aload_n S.1 S.2.1 dX8_told_130 rfl (lv_at hl0 0 rfl) ?_
    obtain ⟨ty36, kn36, no36, en36, at36, sa36, sd36, wr36, pl36, va36, hF36, hb36_1, hb36_2, hb36_3, hb36_4, hb36_5, hb36_6⟩ := wt_m hW
    refine r_get S hK hP 58 (by decide) hF36 (C := RX8) (T := TX8) (N := 23) hiX8 rfl 4 (by decide) (by decide +kernel) (v := .ref (ad 62)) rfl dX8_told_131 ?_
    refine lv_iconst (v := (nI 3)) S.1 S.2.1 dX8_told_134 (by decide +kernel) ?_
    obtain ⟨g37, hF37, hg37⟩ := wt_I hW (show (62, 7) ∈ rLI by decide)
    refine r_iald S hK hP 62 (by decide) hF37 (vp_in_nI (show 3 < 7 by omega) (by omega)) dX8_told_135 ?_
    refine lv_topi (fun v39 e39 => ?_)
    exact hret 136 _ _ dX8_told_136 rfl (trivial)
  by_cases hs1_9 : p1.toInt = 9
  · refine lv_tableIn (off := 136) (tgt := 137) S.1 S.2.1 dX8_told_1 (by omega) (by omega) (by rw [hs1_9]; rfl) (by decide) ?_
    refine lv_aload_n S.1 S.2.1 dX8_told_137 rfl (lv_at hl0 0 rfl) ?_
    obtain ⟨ty40, kn40, no40, en40, at40, sa40, sd40, wr40, pl40, va40, hF40, hb40_1, hb40_2, hb40_3, hb40_4, hb40_5, hb40_6⟩ := wt_m hW
    refine r_get S hK hP 58 (by decide) hF40 (C := RX8) (T := TX8) (N := 23) hiX8 rfl 4 (by decide) (by decide +kernel) (v := .ref (ad 62)) rfl dX8_told_138 ?_
    refine lv_iconst (v := (nI 4)) S.1 S.2.1 dX8_told_141 (by decide +kernel) ?_
    obtain ⟨g41, hF41, hg41⟩ := wt_I hW (show (62, 7) ∈ rLI by decide)
    refine r_iald S hK hP 62 (by decide) hF41 (vp_in_nI (show 4 < 7 by omega) (by omega)) dX8_told_142 ?_
    refine lv_topi (fun v43 e43 => ?_)
    obtain ⟨b44, hb44, he44⟩ := (pr_S (hg41 4 (by decide))).2.2 rfl
    obtain rfl : v43 = nI b44 := e43.trans he44
    exact hret 143 _ _ dX8_told_143 rfl (trivial)
  by_cases hs1_10 : p1.toInt = 10
  · refine lv_tableIn (off := 143) (tgt := 144) S.1 S.2.1 dX8_told_1 (by omega) (by omega) (by rw [hs1_10]; rfl) (by decide) ?_
    refine lv_aload_n S.1 S.2.1 dX8_told_144 rfl (lv_at hl0 0 rfl) ?_
    obtain ⟨ty45, kn45, no45, en45, at45, sa45, sd45, wr45, pl45, va45, hF45, hb45_1, hb45_2, hb45_3, hb45_4, hb45_5, hb45_6⟩ := wt_m hW
    refine r_get S hK hP 58 (by decide) hF45 (C := RX8) (T := TX8) (N := 23) hiX8 rfl 4 (by decide) (by decide +kernel) (v := .ref (ad 62)) rfl dX8_told_145 ?_
    refine lv_iconst (v := (nI 5)) S.1 S.2.1 dX8_told_148 (by decide +kernel) ?_
    obtain ⟨g46, hF46, hg46⟩ := wt_I hW (show (62, 7) ∈ rLI by decide)
    refine r_iald S hK hP 62 (by decide) hF46 (vp_in_nI (show 5 < 7 by omega) (by omega)) dX8_told_149 ?_
    refine lv_topi (fun v48 e48 => ?_)
    exact hret 150 _ _ dX8_told_150 rfl (trivial)
  by_cases hs1_11 : p1.toInt = 11
  · refine lv_tableIn (off := 150) (tgt := 151) S.1 S.2.1 dX8_told_1 (by omega) (by omega) (by rw [hs1_11]; rfl) (by decide) ?_
    refine lv_aload_n S.1 S.2.1 dX8_told_151 rfl (lv_at hl0 0 rfl) ?_
    obtain ⟨ty49, kn49, no49, en49, at49, sa49, sd49, wr49, pl49, va49, hF49, hb49_1, hb49_2, hb49_3, hb49_4, hb49_5, hb49_6⟩ := wt_m hW
    refine r_get S hK hP 58 (by decide) hF49 (C := RX8) (T := TX8) (N := 23) hiX8 rfl 4 (by decide) (by decide +kernel) (v := .ref (ad 62)) rfl dX8_told_152 ?_
    refine lv_bipush (v := (nI 6)) S.1 S.2.1 dX8_told_155 (by decide +kernel) ?_
    obtain ⟨g50, hF50, hg50⟩ := wt_I hW (show (62, 7) ∈ rLI by decide)
    refine r_iald S hK hP 62 (by decide) hF50 (vp_in_nI (show 6 < 7 by omega) (by omega)) dX8_told_157 ?_
    refine lv_topi (fun v52 e52 => ?_)
    exact hret 158 _ _ dX8_told_158 rfl (trivial)
  by_cases hs1_12 : p1.toInt = 12
  · refine lv_tableIn (off := 158) (tgt := 159) S.1 S.2.1 dX8_told_1 (by omega) (by omega) (by rw [hs1_12]; rfl) (by decide) ?_
    refine lv_aload_n S.1 S.2.1 dX8_told_159 rfl (lv_at hl0 0 rfl) ?_
    obtain ⟨ty53, kn53, no53, en53, at53, sa53, sd53, wr53, pl53, va53, hF53, hb53_1, hb53_2, hb53_3, hb53_4, hb53_5, hb53_6⟩ := wt_m hW
    refine r_get S hK hP 58 (by decide) hF53 (C := RX8) (T := TX8) (N := 23) hiX8 rfl 11 (by decide) (by decide +kernel) (v := .int (nI no53)) rfl dX8_told_160 ?_
    exact hret 163 _ _ dX8_told_163 rfl (trivial)
  by_cases hs1_13 : p1.toInt = 13
  · refine lv_tableIn (off := 163) (tgt := 164) S.1 S.2.1 dX8_told_1 (by omega) (by omega) (by rw [hs1_13]; rfl) (by decide) ?_
    refine lv_aload_n S.1 S.2.1 dX8_told_164 rfl (lv_at hl0 0 rfl) ?_
    obtain ⟨ty54, kn54, no54, en54, at54, sa54, sd54, wr54, pl54, va54, hF54, hb54_1, hb54_2, hb54_3, hb54_4, hb54_5, hb54_6⟩ := wt_m hW
    refine r_get S hK hP 58 (by decide) hF54 (C := RX8) (T := TX8) (N := 23) hiX8 rfl 13 (by decide) (by decide +kernel) (v := .int (nI en54)) rfl dX8_told_165 ?_
    exact hret 168 _ _ dX8_told_168 rfl (trivial)
  by_cases hs1_14 : p1.toInt = 14
  · refine lv_tableIn (off := 168) (tgt := 169) S.1 S.2.1 dX8_told_1 (by omega) (by omega) (by rw [hs1_14]; rfl) (by decide) ?_
    refine lv_aload_n S.1 S.2.1 dX8_told_169 rfl (lv_at hl0 0 rfl) ?_
    obtain ⟨ty55, kn55, no55, en55, at55, sa55, sd55, wr55, pl55, va55, hF55, hb55_1, hb55_2, hb55_3, hb55_4, hb55_5, hb55_6⟩ := wt_m hW
    refine r_get S hK hP 58 (by decide) hF55 (C := RX8) (T := TX8) (N := 23) hiX8 rfl 6 (by decide) (by decide +kernel) (v := .int (nI kn55)) rfl dX8_told_170 ?_
    exact hret 173 _ _ dX8_told_173 rfl (trivial)
  refine lv_tableOut (tgt := 174) S.1 S.2.1 dX8_told_1 (by omega) (by decide) ?_
  refine lv_ldc (v := (-1000000002)) S.1 S.2.1 S.2.2.2.1 (S.2.2.2.2 (.constant RX8 59 (-1000000002)) (by decide +kernel)) dX8_told_174 ?_
  exact hret 176 _ _ dX8_told_176 rfl (trivial)
