set_option maxHeartbeats 4000000 in
set_option maxRecDepth 100000 in
theorem c_X7_cannotGoOn (l : Launch) (D : va_G) (cA ad : Nat → Nat) (t : Nat) (hI : rI ad) (F : Nat → va_E) (hW : WT cA ad F) : MP l D cA ad t yX7_cannotGoOn wsX7_cannotGoOn { frames := 0, cells := 0, slots := 0, locals := 0 } [.ref (ad 0)] F (fun r => le32 1 r) := by
  refine en_P rfl (by decide +kernel) (Nat.le_of_ble_eq_true rfl) ?_
  intro p e s m args below meth c ls0 Q S hK hZ hP hS hl0 hret
  have hl0 : lv_has ls0 1 [(0, .ref (ad 0))] := hl0
  have hiX0 : ∀ w ∈ u_ws RX0 TX0 10, w ∈ wsX7_cannotGoOn := by decide +kernel
  have hiX1 : ∀ w ∈ u_ws RX1 TX1 7, w ∈ wsX7_cannotGoOn := by decide +kernel
  have hiX7 : ∀ w ∈ u_ws RX7 TX7 15, w ∈ wsX7_cannotGoOn := by decide +kernel
  refine lv_aload_n S.1 S.2.1 dX7_cannotGoOn_0 rfl (lv_at hl0 0 rfl) ?_
  obtain ⟨c1, d1, k1, dr1, hF1, hc1, hd1, hk1⟩ := wt_main hW
  refine r_get S hK hP 0 (by decide) hF1 (C := RX7) (T := TX7) (N := 15) hiX7 rfl 11 (by decide) (by decide +kernel) (v := .ref (ad c1)) rfl dX7_cannotGoOn_1 ?_
  obtain ⟨sl2, fm2, tn2, rn2, bn2, hF2, hb2_1, hb2_2, hb2_3⟩ := wt_C hW hc1
  refine r_get S hK hP c1 (lt_C hc1) hF2 (C := RX0) (T := TX0) (N := 10) hiX0 rfl 2 (by decide) (by decide +kernel) (v := .int (nI tn2)) rfl dX7_cannotGoOn_4 ?_
  refine lv_if_eq (tgt := 20) S.1 S.2.1 dX7_cannotGoOn_7 (by decide) (fun c3 => ?_) (fun c3 => ?_)
  · skip
    have k4 := ci_eq (nI_toInt (n := tn2) (by omega)) z_ti c3
    refine lv_iconst (v := (nI 1)) S.1 S.2.1 dX7_cannotGoOn_20 (by decide +kernel) ?_
    refine lv_goto (tgt := 25) S.1 S.2.1 dX7_cannotGoOn_21 (by decide) ?_
    exact hret 25 _ _ dX7_cannotGoOn_25 rfl (⟨1, by omega, rfl⟩)
  have k5 := ci_ne (nI_toInt (n := tn2) (by omega)) z_ti c3
  refine lv_aload_n S.1 S.2.1 dX7_cannotGoOn_10 rfl (lv_at hl0 0 rfl) ?_
  refine r_get S hK hP 0 (by decide) hF1 (C := RX7) (T := TX7) (N := 15) hiX7 rfl 1 (by decide) (by decide +kernel) (v := .ref (ad 3)) rfl dX7_cannotGoOn_11 ?_
  obtain ⟨ja6, jb6, jc6, jd6, jx6, jy6, jk6, hF6, hk6⟩ := wt_J hW (show isJ 3 from Or.inl rfl)
  refine r_get S hK hP 3 (by decide) hF6 (C := RX1) (T := TX1) (N := 7) hiX1 rfl 6 (by decide) (by decide +kernel) (v := .int (nI jk6)) rfl dX7_cannotGoOn_14 ?_
  refine lv_if_eq (tgt := 24) S.1 S.2.1 dX7_cannotGoOn_17 (by decide) (fun c7 => ?_) (fun c7 => ?_)
  · skip
    have k8 := ci_eq (nI_toInt (n := jk6) (by omega)) z_ti c7
    refine lv_iconst (v := (nI 0)) S.1 S.2.1 dX7_cannotGoOn_24 (by decide +kernel) ?_
    exact hret 25 _ _ dX7_cannotGoOn_25 rfl (⟨0, by omega, rfl⟩)
  have k9 := ci_ne (nI_toInt (n := jk6) (by omega)) z_ti c7
  refine lv_iconst (v := (nI 1)) S.1 S.2.1 dX7_cannotGoOn_20 (by decide +kernel) ?_
  refine lv_goto (tgt := 25) S.1 S.2.1 dX7_cannotGoOn_21 (by decide) ?_
  exact hret 25 _ _ dX7_cannotGoOn_25 rfl (⟨1, by omega, rfl⟩)
set_option maxHeartbeats 4000000 in
set_option maxRecDepth 100000 in
theorem c_X7_draw (l : Launch) (D : va_G) (cA ad : Nat → Nat) (t : Nat) (hI : rI ad) (F : Nat → va_E) (hW : WT cA ad F) (p1 : Int32) : MI l D cA ad t yX7_draw wsX7_draw { frames := 0, cells := 0, slots := 0, locals := 0 } [.ref (ad 0), .int p1] F (fun r F' => WT cA ad F' ∧ rFr [0] F F' ∧ (True)) := by
  refine en_I rfl (by decide +kernel) (Nat.le_of_ble_eq_true rfl) ?_
  intro p e s m args below meth c ls0 Q S hK hZ hP hS hl0 hret
  have hl0 : lv_has ls0 2 [(0, .ref (ad 0)), (1, .int p1)] := hl0
  have hFr : rFr [0] F F := rFr.rf
  have hiX7 : ∀ w ∈ u_ws RX7 TX7 15, w ∈ wsX7_draw := by decide +kernel
  refine lv_aload_n S.1 S.2.1 dX7_draw_0 rfl (lv_at hl0 0 rfl) ?_
  refine lv_aload_n S.1 S.2.1 dX7_draw_1 rfl (lv_at hl0 0 rfl) ?_
  obtain ⟨c1, d1, k1, dr1, hF1, hc1, hd1, hk1⟩ := wt_main hW
  refine r_get S hK hP 0 (by decide) hF1 (C := RX7) (T := TX7) (N := 15) hiX7 rfl 14 (by decide) (by decide +kernel) (v := .int dr1) rfl dX7_draw_2 ?_
  refine lv_i2l S.1 S.2.1 dX7_draw_5 rfl ?_
  refine lv_topl (fun v2 e2 => ?_)
  refine lv_ldc2 (v := 1103515245) S.1 S.2.1 S.2.2.2.1 (S.2.2.2.2 (.constantLong RX7 264 (1103515245)) (by decide +kernel)) dX7_draw_6 ?_
  refine lv_lmul S.1 S.2.1 dX7_draw_9 ?_
  refine lv_topl (fun v3 e3 => ?_)
  refine lv_ldc2 (v := 12345) S.1 S.2.1 S.2.2.2.1 (S.2.2.2.2 (.constantLong RX7 266 (12345)) (by decide +kernel)) dX7_draw_10 ?_
  refine lv_ladd S.1 S.2.1 dX7_draw_13 ?_
  refine lv_topl (fun v4 e4 => ?_)
  refine lv_ldc2 (v := 2147483647) S.1 S.2.1 S.2.2.2.1 (S.2.2.2.2 (.constantLong RX7 268 (2147483647)) (by decide +kernel)) dX7_draw_14 ?_
  refine lv_land S.1 S.2.1 dX7_draw_17 ?_
  refine lv_topl (fun v5 e5 => ?_)
  refine lv_l2i S.1 S.2.1 dX7_draw_18 rfl ?_
  refine lv_topi (fun v6 e6 => ?_)
  refine r_put S hI hK hP hS 0 (by decide) hF1 (C := RX7) (T := TX7) (N := 15) hiX7 tyX7_ok nmX7 rfl 14 (by decide) (by decide +kernel) rfl rfl rfl (Nat.le_of_ble_eq_true rfl) dX7_draw_19 (fun F7 H7 locs7 eF7 hP7 hS7 => ?_)
  have hF7 : F7 0 = .inr (7, [.ref (ad 1), .ref (ad 3), .ref (ad 4), .ref (ad 26), .ref (ad 30), .ref (ad 33), .ref (ad 39), .ref (ad 42), .ref (ad 43), .ref (ad 44), .ref (ad 45), .ref (ad c1), .ref (ad d1), .int (nI k1), .int v6]) := by rw [eF7]; exact va_up_self _ _ _
  have hW7 := hW.up eF7 (ok_main ⟨c1, d1, k1, v6, rfl, hc1, hd1, by omega⟩)
  have hFr7 := hFr.up eF7 (by simp <;> first | omega | (simp only [isC, isJ] at *; omega))
  refine lv_iload_n S.1 S.2.1 dX7_draw_22 rfl (lv_at hl0 1 rfl) ?_
  refine lv_if_le (tgt := 39) S.1 S.2.1 dX7_draw_23 (by decide) (fun c8 => ?_) (fun c8 => ?_)
  · skip
    have k9 := ci_le rfl z_ti c8
    refine lv_iconst (v := (nI 0)) S.1 S.2.1 dX7_draw_39 (by decide +kernel) ?_
    exact hret 40 _ _ _ _ _ dX7_draw_40 rfl hP7 hS7 ⟨hW7, hFr7, trivial⟩
  have k10 := ci_nle rfl z_ti c8
  refine lv_aload_n S.1 S.2.1 dX7_draw_26 rfl (lv_at hl0 0 rfl) ?_
  refine r_get S hK hP7 0 (by decide) hF7 (C := RX7) (T := TX7) (N := 15) hiX7 rfl 14 (by decide) (by decide +kernel) (v := .int v6) rfl dX7_draw_27 ?_
  refine lv_ldcw (v := (65536)) S.1 S.2.1 S.2.2.2.1 (S.2.2.2.2 (.constant RX7 270 (65536)) (by decide +kernel)) dX7_draw_30 ?_
  refine lv_idiv S.1 S.2.1 dX7_draw_33 (by decide +kernel) ?_
  refine lv_topi (fun v11 e11 => ?_)
  refine lv_iload_n S.1 S.2.1 dX7_draw_34 rfl (lv_at hl0 1 rfl) ?_
  refine lv_irem S.1 S.2.1 dX7_draw_35 (ne_of_ti (by omega)) ?_
  refine lv_topi (fun v12 e12 => ?_)
  refine lv_goto (tgt := 40) S.1 S.2.1 dX7_draw_36 (by decide) ?_
  exact hret 40 _ _ _ _ _ dX7_draw_40 rfl hP7 hS7 ⟨hW7, hFr7, trivial⟩
set_option maxHeartbeats 4000000 in
set_option maxRecDepth 100000 in
theorem c_X7_driftMonth (l : Launch) (D : va_G) (cA ad : Nat → Nat) (t : Nat) (hI : rI ad) (F : Nat → va_E) (hW : WT cA ad F) : MV l D cA ad t yX7_driftMonth wsX7_driftMonth { frames := 4, cells := 0, slots := 0, locals := 87 } [.ref (ad 0)] F (fun F' => WT cA ad F' ∧ rFr [0, 3] F F' ∧ (True)) := by
  refine en_V rfl (by decide +kernel) (Nat.le_of_ble_eq_true rfl) ?_
  intro p e s m args below meth c ls0 Q S hK hZ hP hS hl0 hret
  have hl0 : lv_has ls0 3 [(0, .ref (ad 0))] := hl0
  have hFr : rFr [0, 3] F F := rFr.rf
  have hiX0 : ∀ w ∈ u_ws RX0 TX0 10, w ∈ wsX7_driftMonth := by decide +kernel
  have hiX1 : ∀ w ∈ u_ws RX1 TX1 7, w ∈ wsX7_driftMonth := by decide +kernel
  have hiX7 : ∀ w ∈ u_ws RX7 TX7 15, w ∈ wsX7_driftMonth := by decide +kernel
  refine lv_aload_n S.1 S.2.1 dX7_driftMonth_0 rfl (lv_at hl0 0 rfl) ?_
  refine lv_iconst (v := (nI 4)) S.1 S.2.1 dX7_driftMonth_1 (by decide +kernel) ?_
  obtain ⟨c2, d2, k2, dr2, hF2, hc2, hd2, hk2⟩ := wt_main hW
  refine r_cVi (As := [.int (nI 4)]) (rest := []) S hK hZ hP hS hl0.1 0 (by decide) hF2 (C := RX7) rfl (c_X7_draw l D cA ad t hI F hW (nI 4)) (cwV 1 S.2.2.2.2 gX7_driftMonth_X7_draw rfl rfl rfl (by decide +kernel) ⟨Nat.le_of_ble_eq_true rfl, Nat.le_of_ble_eq_true rfl⟩) rfl rfl (Nat.le_of_ble_eq_true rfl) ⟨Nat.zero_le _, Nat.zero_le _⟩ dX7_driftMonth_2 (fun r1 F1 H1 locs1 hr1 hP1 hS1 => ?_)
  obtain ⟨hW1, hFc1, hr1⟩ := hr1
  have hFr1 := hFr.tr hFc1 (by simp <;> first | omega | (simp only [isC, isJ] at *; omega))
  refine lv_if_ne (tgt := 43) S.1 S.2.1 dX7_driftMonth_5 (by decide) (fun c3 => ?_) (fun c3 => ?_)
  · skip
    have k4 := ci_ne rfl z_ti c3
    refine lv_aload_n S.1 S.2.1 dX7_driftMonth_43 rfl (lv_at hl0 0 rfl) ?_
    refine lv_iconst (v := (nI 2)) S.1 S.2.1 dX7_driftMonth_44 (by decide +kernel) ?_
    obtain ⟨c6, d6, k6, dr6, hF6, hc6, hd6, hk6⟩ := wt_main hW1
    refine r_cVi (As := [.int (nI 2)]) (rest := []) S hK hZ hP1 hS1 hl0.1 0 (by decide) hF6 (C := RX7) rfl (c_X7_draw l D cA ad t hI F1 hW1 (nI 2)) (cwV 1 S.2.2.2.2 gX7_driftMonth_X7_draw rfl rfl rfl (by decide +kernel) ⟨Nat.le_of_ble_eq_true rfl, Nat.le_of_ble_eq_true rfl⟩) rfl rfl (Nat.le_of_ble_eq_true rfl) ⟨Nat.zero_le _, Nat.zero_le _⟩ dX7_driftMonth_45 (fun r5 F5 H5 locs5 hr5 hP5 hS5 => ?_)
    obtain ⟨hW5, hFc5, hr5⟩ := hr5
    have hFr5 := hFr1.tr hFc5 (by simp <;> first | omega | (simp only [isC, isJ] at *; omega))
    refine lv_if_ne (tgt := 78) S.1 S.2.1 dX7_driftMonth_48 (by decide) (fun c7 => ?_) (fun c7 => ?_)
    · skip
      have k8 := ci_ne rfl z_ti c7
      refine lv_aload_n S.1 S.2.1 dX7_driftMonth_78 rfl (lv_at hl0 0 rfl) ?_
      obtain ⟨c9, d9, k9, dr9, hF9, hc9, hd9, hk9⟩ := wt_main hW5
      refine r_get S hK hP5 0 (by decide) hF9 (C := RX7) (T := TX7) (N := 15) hiX7 rfl 1 (by decide) (by decide +kernel) (v := .ref (ad 3)) rfl dX7_driftMonth_79 ?_
      refine lv_aload_n S.1 S.2.1 dX7_driftMonth_82 rfl (lv_at hl0 0 rfl) ?_
      refine r_get S hK hP5 0 (by decide) hF9 (C := RX7) (T := TX7) (N := 15) hiX7 rfl 11 (by decide) (by decide +kernel) (v := .ref (ad c9)) rfl dX7_driftMonth_83 ?_
      obtain ⟨ja11, jb11, jc11, jd11, jx11, jy11, jk11, hF11, hk11⟩ := wt_J hW5 (show isJ 3 from Or.inl rfl)
      refine r_cVp (As := [.ref (ad c9)]) (rest := []) S hK hZ hP5 hS5 hl0.1 3 (by decide) hF11 (C := RX1) rfl (c_X1_walks l D cA ad t hI F5 hW5 3 (show isJ 3 from Or.inl rfl) c9 hc9) (cwV 1 S.2.2.2.2 gX7_driftMonth_X1_walks rfl rfl rfl (by decide +kernel) ⟨Nat.le_of_ble_eq_true rfl, Nat.le_of_ble_eq_true rfl⟩) rfl rfl (Nat.le_of_ble_eq_true rfl) ⟨Nat.zero_le _, Nat.zero_le _⟩ dX7_driftMonth_86 (fun r10 hr10 => ?_)
      refine lv_istore_n (lv' := [(1, .int r10), (0, .ref (ad 0))]) S.1 S.2.1 dX7_driftMonth_89 rfl hl0 (by decide) rfl (fun ls12 hl12 => ?_)
      refine lv_iconst (v := (nI 0)) S.1 S.2.1 dX7_driftMonth_90 (by decide +kernel) ?_
      refine lv_istore_n (lv' := [(2, .int (nI 0)), (1, .int r10), (0, .ref (ad 0))]) S.1 S.2.1 dX7_driftMonth_91 rfl hl12 (by decide) rfl (fun ls13 hl13 => ?_)
      have lp14 : ∀ (n14 : Nat) (q214 : Nat), ∀ (Fl14 : Nat → va_E) (Hl14 : Heap) (lol14 : List Loc), q214 ≤ 8 → 8 - q214 < n14 → WT cA ad Fl14 → rFr [0, 3] F Fl14 → va_P D vwCl (rW ad Fl14) Hl14 → va_S (rA ad) s.heap Hl14 lol14 → ∀ (ls : Array Slot), lv_has ls 3 [(2, .int (nI q214)), (1, .int r10), (0, .ref (ad 0))] → W p l e { frames := 4, cells := 0, slots := 0, locals := 87 } s m args below meth c Hl14 lol14 0 0 Q (F0 m 92 ls []) := by
        intro n14
        induction n14 with
        | zero =>
          intro q214 Fl14 Hl14 lol14 iv14_0 hm14 hWl14 hFl14 hPl14 hSl14 ls14 hl14
          exact absurd hm14 (Nat.not_lt_zero _)
        | succ n14 ih14 =>
          intro q214 Fl14 Hl14 lol14 iv14_0 hm14 hWl14 hFl14 hPl14 hSl14 ls14 hl14
          refine lv_iload_n S.1 S.2.1 dX7_driftMonth_92 rfl (lv_at hl14 0 rfl) ?_
          refine lv_aload_n S.1 S.2.1 dX7_driftMonth_93 rfl (lv_at hl14 2 rfl) ?_
          obtain ⟨c15, d15, k15, dr15, hF15, hc15, hd15, hk15⟩ := wt_main hWl14
          refine r_get S hK hPl14 0 (by decide) hF15 (C := RX7) (T := TX7) (N := 15) hiX7 rfl 11 (by decide) (by decide +kernel) (v := .ref (ad c15)) rfl dX7_driftMonth_94 ?_
          obtain ⟨sl16, fm16, tn16, rn16, bn16, hF16, hb16_1, hb16_2, hb16_3⟩ := wt_C hWl14 hc15
          refine r_get S hK hPl14 c15 (lt_C hc15) hF16 (C := RX0) (T := TX0) (N := 10) hiX0 rfl 2 (by decide) (by decide +kernel) (v := .int (nI tn16)) rfl dX7_driftMonth_97 ?_
          refine lv_icmp_ge (tgt := 126) S.1 S.2.1 dX7_driftMonth_100 (by decide) (fun c17 => ?_) (fun c17 => ?_)
          · skip
            have k18 := ci_le (nI_toInt (n := tn16) (by omega)) (nI_toInt (n := q214) (by omega)) c17
            exact hret 126 _ _ _ _ dX7_driftMonth_126 hPl14 hSl14 ⟨hWl14, hFl14, trivial⟩
          have k19 := ci_nle (nI_toInt (n := tn16) (by omega)) (nI_toInt (n := q214) (by omega)) c17
          refine lv_iload_n S.1 S.2.1 dX7_driftMonth_103 rfl (lv_at hl14 1 rfl) ?_
          refine lv_iload_n S.1 S.2.1 dX7_driftMonth_104 rfl (lv_at hl14 0 rfl) ?_
          refine lv_ishr S.1 S.2.1 dX7_driftMonth_105 ?_
          refine lv_topi (fun v20 e20 => ?_)
          refine lv_iconst (v := (nI 1)) S.1 S.2.1 dX7_driftMonth_106 (by decide +kernel) ?_
          refine lv_iand S.1 S.2.1 dX7_driftMonth_107 ?_
          refine lv_topi (fun v21 e21 => ?_)
          refine lv_if_eq (tgt := 120) S.1 S.2.1 dX7_driftMonth_108 (by decide) (fun c22 => ?_) (fun c22 => ?_)
          · skip
            have k23 := ci_eq rfl z_ti c22
            refine lv_iinc (v := (nI (q214 + 1))) (lv' := [(2, .int (nI (q214 + 1))), (1, .int r10), (0, .ref (ad 0))]) S.1 S.2.1 dX7_driftMonth_120 hl14 (k := 0) rfl (nI_add _ 1) (by decide) rfl (fun ls24 hl24 => ?_)
            refine lv_goto (tgt := 92) S.1 S.2.1 dX7_driftMonth_123 (by decide) ?_
            exact ih14 (q214 + 1) Fl14 Hl14 lol14 (by omega) (by omega) hWl14 hFl14 hPl14 hSl14 ls24 (lv_sub hl24 [0, 1, 2] rfl)
          have k25 := ci_ne rfl z_ti c22
          refine lv_aload_n S.1 S.2.1 dX7_driftMonth_111 rfl (lv_at hl14 2 rfl) ?_
          refine r_get S hK hPl14 0 (by decide) hF15 (C := RX7) (T := TX7) (N := 15) hiX7 rfl 1 (by decide) (by decide +kernel) (v := .ref (ad 3)) rfl dX7_driftMonth_112 ?_
          refine lv_iload_n S.1 S.2.1 dX7_driftMonth_115 rfl (lv_at hl14 0 rfl) ?_
          obtain ⟨ja27, jb27, jc27, jd27, jx27, jy27, jk27, hF27, hk27⟩ := wt_J hWl14 (show isJ 3 from Or.inl rfl)
          refine r_cVv (As := [.int (nI q214)]) (rest := []) S hK hZ hPl14 hSl14 hl14.1 3 (by decide) hF27 (C := RX1) rfl (c_X1_walkMonth l D cA ad t hI Fl14 hWl14 3 (show isJ 3 from Or.inl rfl) (nI q214)) (cwV 1 S.2.2.2.2 gX7_driftMonth_X1_walkMonth rfl rfl rfl (by decide +kernel) ⟨Nat.le_of_ble_eq_true rfl, Nat.le_of_ble_eq_true rfl⟩) rfl rfl (Nat.le_of_ble_eq_true rfl) ⟨Nat.zero_le _, Nat.zero_le _⟩ dX7_driftMonth_116 (fun F26 H26 locs26 hr26 hP26 hS26 => ?_)
          obtain ⟨hW26, hFc26, hr26⟩ := hr26
          have hFr26 := hFl14.tr hFc26 (by simp <;> first | omega | (simp only [isC, isJ] at *; omega))
          exact hret 119 _ _ _ _ dX7_driftMonth_119 hP26 hS26 ⟨hW26, hFr26, trivial⟩
      exact lp14 (8 - (0) + 1) (0) F5 H5 locs5 (by omega) (by omega) hW5 hFr5 hP5 hS5 ls13 (lv_sub hl13 [0, 1, 2] rfl)
    have k28 := ci_eq rfl z_ti c7
    refine lv_aload_n S.1 S.2.1 dX7_driftMonth_51 rfl (lv_at hl0 0 rfl) ?_
    obtain ⟨c29, d29, k29, dr29, hF29, hc29, hd29, hk29⟩ := wt_main hW5
    refine r_get S hK hP5 0 (by decide) hF29 (C := RX7) (T := TX7) (N := 15) hiX7 rfl 1 (by decide) (by decide +kernel) (v := .ref (ad 3)) rfl dX7_driftMonth_52 ?_
    refine lv_aload_n S.1 S.2.1 dX7_driftMonth_55 rfl (lv_at hl0 0 rfl) ?_
    refine r_get S hK hP5 0 (by decide) hF29 (C := RX7) (T := TX7) (N := 15) hiX7 rfl 11 (by decide) (by decide +kernel) (v := .ref (ad c29)) rfl dX7_driftMonth_56 ?_
    obtain ⟨ja31, jb31, jc31, jd31, jx31, jy31, jk31, hF31, hk31⟩ := wt_J hW5 (show isJ 3 from Or.inl rfl)
    refine r_cVp (As := [.ref (ad c29)]) (rest := []) S hK hZ hP5 hS5 hl0.1 3 (by decide) hF31 (C := RX1) rfl (c_X1_mayStay l D cA ad t hI F5 hW5 3 (show isJ 3 from Or.inl rfl) c29 hc29) (cwV 1 S.2.2.2.2 gX7_driftMonth_X1_mayStay rfl rfl rfl (by decide +kernel) ⟨Nat.le_of_ble_eq_true rfl, Nat.le_of_ble_eq_true rfl⟩) rfl rfl (Nat.le_of_ble_eq_true rfl) ⟨Nat.zero_le _, Nat.zero_le _⟩ dX7_driftMonth_59 (fun r30 hr30 => ?_)
    obtain ⟨b32, hb32, rfl⟩ := hr30
    refine lv_if_eq (tgt := 78) S.1 S.2.1 dX7_driftMonth_62 (by decide) (fun c33 => ?_) (fun c33 => ?_)
    · skip
      have k34 := ci_eq (nI_toInt (n := b32) (by omega)) z_ti c33
      refine lv_aload_n S.1 S.2.1 dX7_driftMonth_78 rfl (lv_at hl0 0 rfl) ?_
      refine r_get S hK hP5 0 (by decide) hF29 (C := RX7) (T := TX7) (N := 15) hiX7 rfl 1 (by decide) (by decide +kernel) (v := .ref (ad 3)) rfl dX7_driftMonth_79 ?_
      refine lv_aload_n S.1 S.2.1 dX7_driftMonth_82 rfl (lv_at hl0 0 rfl) ?_
      refine r_get S hK hP5 0 (by decide) hF29 (C := RX7) (T := TX7) (N := 15) hiX7 rfl 11 (by decide) (by decide +kernel) (v := .ref (ad c29)) rfl dX7_driftMonth_83 ?_
      refine r_cVp (As := [.ref (ad c29)]) (rest := []) S hK hZ hP5 hS5 hl0.1 3 (by decide) hF31 (C := RX1) rfl (c_X1_walks l D cA ad t hI F5 hW5 3 (show isJ 3 from Or.inl rfl) c29 hc29) (cwV 1 S.2.2.2.2 gX7_driftMonth_X1_walks rfl rfl rfl (by decide +kernel) ⟨Nat.le_of_ble_eq_true rfl, Nat.le_of_ble_eq_true rfl⟩) rfl rfl (Nat.le_of_ble_eq_true rfl) ⟨Nat.zero_le _, Nat.zero_le _⟩ dX7_driftMonth_86 (fun r35 hr35 => ?_)
      refine lv_istore_n (lv' := [(1, .int r35), (0, .ref (ad 0))]) S.1 S.2.1 dX7_driftMonth_89 rfl hl0 (by decide) rfl (fun ls36 hl36 => ?_)
      refine lv_iconst (v := (nI 0)) S.1 S.2.1 dX7_driftMonth_90 (by decide +kernel) ?_
      refine lv_istore_n (lv' := [(2, .int (nI 0)), (1, .int r35), (0, .ref (ad 0))]) S.1 S.2.1 dX7_driftMonth_91 rfl hl36 (by decide) rfl (fun ls37 hl37 => ?_)
      have lp38 : ∀ (n38 : Nat) (q238 : Nat), ∀ (Fl38 : Nat → va_E) (Hl38 : Heap) (lol38 : List Loc), q238 ≤ 8 → 8 - q238 < n38 → WT cA ad Fl38 → rFr [0, 3] F Fl38 → va_P D vwCl (rW ad Fl38) Hl38 → va_S (rA ad) s.heap Hl38 lol38 → ∀ (ls : Array Slot), lv_has ls 3 [(2, .int (nI q238)), (1, .int r35), (0, .ref (ad 0))] → W p l e { frames := 4, cells := 0, slots := 0, locals := 87 } s m args below meth c Hl38 lol38 0 0 Q (F0 m 92 ls []) := by
        intro n38
        induction n38 with
        | zero =>
          intro q238 Fl38 Hl38 lol38 iv38_0 hm38 hWl38 hFl38 hPl38 hSl38 ls38 hl38
          exact absurd hm38 (Nat.not_lt_zero _)
        | succ n38 ih38 =>
          intro q238 Fl38 Hl38 lol38 iv38_0 hm38 hWl38 hFl38 hPl38 hSl38 ls38 hl38
          refine lv_iload_n S.1 S.2.1 dX7_driftMonth_92 rfl (lv_at hl38 0 rfl) ?_
          refine lv_aload_n S.1 S.2.1 dX7_driftMonth_93 rfl (lv_at hl38 2 rfl) ?_
          obtain ⟨c39, d39, k39, dr39, hF39, hc39, hd39, hk39⟩ := wt_main hWl38
          refine r_get S hK hPl38 0 (by decide) hF39 (C := RX7) (T := TX7) (N := 15) hiX7 rfl 11 (by decide) (by decide +kernel) (v := .ref (ad c39)) rfl dX7_driftMonth_94 ?_
          obtain ⟨sl40, fm40, tn40, rn40, bn40, hF40, hb40_1, hb40_2, hb40_3⟩ := wt_C hWl38 hc39
          refine r_get S hK hPl38 c39 (lt_C hc39) hF40 (C := RX0) (T := TX0) (N := 10) hiX0 rfl 2 (by decide) (by decide +kernel) (v := .int (nI tn40)) rfl dX7_driftMonth_97 ?_
          refine lv_icmp_ge (tgt := 126) S.1 S.2.1 dX7_driftMonth_100 (by decide) (fun c41 => ?_) (fun c41 => ?_)
          · skip
            have k42 := ci_le (nI_toInt (n := tn40) (by omega)) (nI_toInt (n := q238) (by omega)) c41
            exact hret 126 _ _ _ _ dX7_driftMonth_126 hPl38 hSl38 ⟨hWl38, hFl38, trivial⟩
          have k43 := ci_nle (nI_toInt (n := tn40) (by omega)) (nI_toInt (n := q238) (by omega)) c41
          refine lv_iload_n S.1 S.2.1 dX7_driftMonth_103 rfl (lv_at hl38 1 rfl) ?_
          refine lv_iload_n S.1 S.2.1 dX7_driftMonth_104 rfl (lv_at hl38 0 rfl) ?_
          refine lv_ishr S.1 S.2.1 dX7_driftMonth_105 ?_
          refine lv_topi (fun v44 e44 => ?_)
          refine lv_iconst (v := (nI 1)) S.1 S.2.1 dX7_driftMonth_106 (by decide +kernel) ?_
          refine lv_iand S.1 S.2.1 dX7_driftMonth_107 ?_
          refine lv_topi (fun v45 e45 => ?_)
          refine lv_if_eq (tgt := 120) S.1 S.2.1 dX7_driftMonth_108 (by decide) (fun c46 => ?_) (fun c46 => ?_)
          · skip
            have k47 := ci_eq rfl z_ti c46
            refine lv_iinc (v := (nI (q238 + 1))) (lv' := [(2, .int (nI (q238 + 1))), (1, .int r35), (0, .ref (ad 0))]) S.1 S.2.1 dX7_driftMonth_120 hl38 (k := 0) rfl (nI_add _ 1) (by decide) rfl (fun ls48 hl48 => ?_)
            refine lv_goto (tgt := 92) S.1 S.2.1 dX7_driftMonth_123 (by decide) ?_
            exact ih38 (q238 + 1) Fl38 Hl38 lol38 (by omega) (by omega) hWl38 hFl38 hPl38 hSl38 ls48 (lv_sub hl48 [0, 1, 2] rfl)
          have k49 := ci_ne rfl z_ti c46
          refine lv_aload_n S.1 S.2.1 dX7_driftMonth_111 rfl (lv_at hl38 2 rfl) ?_
          refine r_get S hK hPl38 0 (by decide) hF39 (C := RX7) (T := TX7) (N := 15) hiX7 rfl 1 (by decide) (by decide +kernel) (v := .ref (ad 3)) rfl dX7_driftMonth_112 ?_
          refine lv_iload_n S.1 S.2.1 dX7_driftMonth_115 rfl (lv_at hl38 0 rfl) ?_
          obtain ⟨ja51, jb51, jc51, jd51, jx51, jy51, jk51, hF51, hk51⟩ := wt_J hWl38 (show isJ 3 from Or.inl rfl)
          refine r_cVv (As := [.int (nI q238)]) (rest := []) S hK hZ hPl38 hSl38 hl38.1 3 (by decide) hF51 (C := RX1) rfl (c_X1_walkMonth l D cA ad t hI Fl38 hWl38 3 (show isJ 3 from Or.inl rfl) (nI q238)) (cwV 1 S.2.2.2.2 gX7_driftMonth_X1_walkMonth rfl rfl rfl (by decide +kernel) ⟨Nat.le_of_ble_eq_true rfl, Nat.le_of_ble_eq_true rfl⟩) rfl rfl (Nat.le_of_ble_eq_true rfl) ⟨Nat.zero_le _, Nat.zero_le _⟩ dX7_driftMonth_116 (fun F50 H50 locs50 hr50 hP50 hS50 => ?_)
          obtain ⟨hW50, hFc50, hr50⟩ := hr50
          have hFr50 := hFl38.tr hFc50 (by simp <;> first | omega | (simp only [isC, isJ] at *; omega))
          exact hret 119 _ _ _ _ dX7_driftMonth_119 hP50 hS50 ⟨hW50, hFr50, trivial⟩
      exact lp38 (8 - (0) + 1) (0) F5 H5 locs5 (by omega) (by omega) hW5 hFr5 hP5 hS5 ls37 (lv_sub hl37 [0, 1, 2] rfl)
    have k52 := ci_ne (nI_toInt (n := b32) (by omega)) z_ti c33
    refine lv_aload_n S.1 S.2.1 dX7_driftMonth_65 rfl (lv_at hl0 0 rfl) ?_
    refine r_get S hK hP5 0 (by decide) hF29 (C := RX7) (T := TX7) (N := 15) hiX7 rfl 1 (by decide) (by decide +kernel) (v := .ref (ad 3)) rfl dX7_driftMonth_66 ?_
    refine lv_aload_n S.1 S.2.1 dX7_driftMonth_69 rfl (lv_at hl0 0 rfl) ?_
    refine r_get S hK hP5 0 (by decide) hF29 (C := RX7) (T := TX7) (N := 15) hiX7 rfl 11 (by decide) (by decide +kernel) (v := .ref (ad c29)) rfl dX7_driftMonth_70 ?_
    refine r_cVi (As := [.ref (ad c29)]) (rest := []) S hK hZ hP5 hS5 hl0.1 3 (by decide) hF31 (C := RX1) rfl (c_X1_stayMonth l D cA ad t hI F5 hW5 3 (show isJ 3 from Or.inl rfl) c29 hc29) (cwV 1 S.2.2.2.2 gX7_driftMonth_X1_stayMonth rfl rfl rfl (by decide +kernel) ⟨Nat.le_of_ble_eq_true rfl, Nat.le_of_ble_eq_true rfl⟩) rfl rfl (Nat.le_of_ble_eq_true rfl) ⟨Nat.zero_le _, Nat.zero_le _⟩ dX7_driftMonth_73 (fun r53 F53 H53 locs53 hr53 hP53 hS53 => ?_)
    obtain ⟨hW53, hFc53, hr53⟩ := hr53
    have hFr53 := hFr5.tr hFc53 (by simp <;> first | omega | (simp only [isC, isJ] at *; omega))
    refine lv_pop S.1 S.2.1 dX7_driftMonth_76 rfl ?_
    exact hret 77 _ _ _ _ dX7_driftMonth_77 hP53 hS53 ⟨hW53, hFr53, trivial⟩
  have k54 := ci_eq rfl z_ti c3
  refine lv_aload_n S.1 S.2.1 dX7_driftMonth_8 rfl (lv_at hl0 0 rfl) ?_
  obtain ⟨c55, d55, k55, dr55, hF55, hc55, hd55, hk55⟩ := wt_main hW1
  refine r_get S hK hP1 0 (by decide) hF55 (C := RX7) (T := TX7) (N := 15) hiX7 rfl 11 (by decide) (by decide +kernel) (v := .ref (ad c55)) rfl dX7_driftMonth_9 ?_
  obtain ⟨sl56, fm56, tn56, rn56, bn56, hF56, hb56_1, hb56_2, hb56_3⟩ := wt_C hW1 hc55
  refine r_get S hK hP1 c55 (lt_C hc55) hF56 (C := RX0) (T := TX0) (N := 10) hiX0 rfl 3 (by decide) (by decide +kernel) (v := .int (nI rn56)) rfl dX7_driftMonth_12 ?_
  refine lv_if_le (tgt := 43) S.1 S.2.1 dX7_driftMonth_15 (by decide) (fun c57 => ?_) (fun c57 => ?_)
  · skip
    have k58 := ci_le (nI_toInt (n := rn56) (by omega)) z_ti c57
    refine lv_aload_n S.1 S.2.1 dX7_driftMonth_43 rfl (lv_at hl0 0 rfl) ?_
    refine lv_iconst (v := (nI 2)) S.1 S.2.1 dX7_driftMonth_44 (by decide +kernel) ?_
    refine r_cVi (As := [.int (nI 2)]) (rest := []) S hK hZ hP1 hS1 hl0.1 0 (by decide) hF55 (C := RX7) rfl (c_X7_draw l D cA ad t hI F1 hW1 (nI 2)) (cwV 1 S.2.2.2.2 gX7_driftMonth_X7_draw rfl rfl rfl (by decide +kernel) ⟨Nat.le_of_ble_eq_true rfl, Nat.le_of_ble_eq_true rfl⟩) rfl rfl (Nat.le_of_ble_eq_true rfl) ⟨Nat.zero_le _, Nat.zero_le _⟩ dX7_driftMonth_45 (fun r59 F59 H59 locs59 hr59 hP59 hS59 => ?_)
    obtain ⟨hW59, hFc59, hr59⟩ := hr59
    have hFr59 := hFr1.tr hFc59 (by simp <;> first | omega | (simp only [isC, isJ] at *; omega))
    refine lv_if_ne (tgt := 78) S.1 S.2.1 dX7_driftMonth_48 (by decide) (fun c60 => ?_) (fun c60 => ?_)
    · skip
      have k61 := ci_ne rfl z_ti c60
      refine lv_aload_n S.1 S.2.1 dX7_driftMonth_78 rfl (lv_at hl0 0 rfl) ?_
      obtain ⟨c62, d62, k62, dr62, hF62, hc62, hd62, hk62⟩ := wt_main hW59
      refine r_get S hK hP59 0 (by decide) hF62 (C := RX7) (T := TX7) (N := 15) hiX7 rfl 1 (by decide) (by decide +kernel) (v := .ref (ad 3)) rfl dX7_driftMonth_79 ?_
      refine lv_aload_n S.1 S.2.1 dX7_driftMonth_82 rfl (lv_at hl0 0 rfl) ?_
      refine r_get S hK hP59 0 (by decide) hF62 (C := RX7) (T := TX7) (N := 15) hiX7 rfl 11 (by decide) (by decide +kernel) (v := .ref (ad c62)) rfl dX7_driftMonth_83 ?_
      obtain ⟨ja64, jb64, jc64, jd64, jx64, jy64, jk64, hF64, hk64⟩ := wt_J hW59 (show isJ 3 from Or.inl rfl)
      refine r_cVp (As := [.ref (ad c62)]) (rest := []) S hK hZ hP59 hS59 hl0.1 3 (by decide) hF64 (C := RX1) rfl (c_X1_walks l D cA ad t hI F59 hW59 3 (show isJ 3 from Or.inl rfl) c62 hc62) (cwV 1 S.2.2.2.2 gX7_driftMonth_X1_walks rfl rfl rfl (by decide +kernel) ⟨Nat.le_of_ble_eq_true rfl, Nat.le_of_ble_eq_true rfl⟩) rfl rfl (Nat.le_of_ble_eq_true rfl) ⟨Nat.zero_le _, Nat.zero_le _⟩ dX7_driftMonth_86 (fun r63 hr63 => ?_)
      refine lv_istore_n (lv' := [(1, .int r63), (0, .ref (ad 0))]) S.1 S.2.1 dX7_driftMonth_89 rfl hl0 (by decide) rfl (fun ls65 hl65 => ?_)
      refine lv_iconst (v := (nI 0)) S.1 S.2.1 dX7_driftMonth_90 (by decide +kernel) ?_
      refine lv_istore_n (lv' := [(2, .int (nI 0)), (1, .int r63), (0, .ref (ad 0))]) S.1 S.2.1 dX7_driftMonth_91 rfl hl65 (by decide) rfl (fun ls66 hl66 => ?_)
      have lp67 : ∀ (n67 : Nat) (q267 : Nat), ∀ (Fl67 : Nat → va_E) (Hl67 : Heap) (lol67 : List Loc), q267 ≤ 8 → 8 - q267 < n67 → WT cA ad Fl67 → rFr [0, 3] F Fl67 → va_P D vwCl (rW ad Fl67) Hl67 → va_S (rA ad) s.heap Hl67 lol67 → ∀ (ls : Array Slot), lv_has ls 3 [(2, .int (nI q267)), (1, .int r63), (0, .ref (ad 0))] → W p l e { frames := 4, cells := 0, slots := 0, locals := 87 } s m args below meth c Hl67 lol67 0 0 Q (F0 m 92 ls []) := by
        intro n67
        induction n67 with
        | zero =>
          intro q267 Fl67 Hl67 lol67 iv67_0 hm67 hWl67 hFl67 hPl67 hSl67 ls67 hl67
          exact absurd hm67 (Nat.not_lt_zero _)
        | succ n67 ih67 =>
          intro q267 Fl67 Hl67 lol67 iv67_0 hm67 hWl67 hFl67 hPl67 hSl67 ls67 hl67
          refine lv_iload_n S.1 S.2.1 dX7_driftMonth_92 rfl (lv_at hl67 0 rfl) ?_
          refine lv_aload_n S.1 S.2.1 dX7_driftMonth_93 rfl (lv_at hl67 2 rfl) ?_
          obtain ⟨c68, d68, k68, dr68, hF68, hc68, hd68, hk68⟩ := wt_main hWl67
          refine r_get S hK hPl67 0 (by decide) hF68 (C := RX7) (T := TX7) (N := 15) hiX7 rfl 11 (by decide) (by decide +kernel) (v := .ref (ad c68)) rfl dX7_driftMonth_94 ?_
          obtain ⟨sl69, fm69, tn69, rn69, bn69, hF69, hb69_1, hb69_2, hb69_3⟩ := wt_C hWl67 hc68
          refine r_get S hK hPl67 c68 (lt_C hc68) hF69 (C := RX0) (T := TX0) (N := 10) hiX0 rfl 2 (by decide) (by decide +kernel) (v := .int (nI tn69)) rfl dX7_driftMonth_97 ?_
          refine lv_icmp_ge (tgt := 126) S.1 S.2.1 dX7_driftMonth_100 (by decide) (fun c70 => ?_) (fun c70 => ?_)
          · skip
            have k71 := ci_le (nI_toInt (n := tn69) (by omega)) (nI_toInt (n := q267) (by omega)) c70
            exact hret 126 _ _ _ _ dX7_driftMonth_126 hPl67 hSl67 ⟨hWl67, hFl67, trivial⟩
          have k72 := ci_nle (nI_toInt (n := tn69) (by omega)) (nI_toInt (n := q267) (by omega)) c70
          refine lv_iload_n S.1 S.2.1 dX7_driftMonth_103 rfl (lv_at hl67 1 rfl) ?_
          refine lv_iload_n S.1 S.2.1 dX7_driftMonth_104 rfl (lv_at hl67 0 rfl) ?_
          refine lv_ishr S.1 S.2.1 dX7_driftMonth_105 ?_
          refine lv_topi (fun v73 e73 => ?_)
          refine lv_iconst (v := (nI 1)) S.1 S.2.1 dX7_driftMonth_106 (by decide +kernel) ?_
          refine lv_iand S.1 S.2.1 dX7_driftMonth_107 ?_
          refine lv_topi (fun v74 e74 => ?_)
          refine lv_if_eq (tgt := 120) S.1 S.2.1 dX7_driftMonth_108 (by decide) (fun c75 => ?_) (fun c75 => ?_)
          · skip
            have k76 := ci_eq rfl z_ti c75
            refine lv_iinc (v := (nI (q267 + 1))) (lv' := [(2, .int (nI (q267 + 1))), (1, .int r63), (0, .ref (ad 0))]) S.1 S.2.1 dX7_driftMonth_120 hl67 (k := 0) rfl (nI_add _ 1) (by decide) rfl (fun ls77 hl77 => ?_)
            refine lv_goto (tgt := 92) S.1 S.2.1 dX7_driftMonth_123 (by decide) ?_
            exact ih67 (q267 + 1) Fl67 Hl67 lol67 (by omega) (by omega) hWl67 hFl67 hPl67 hSl67 ls77 (lv_sub hl77 [0, 1, 2] rfl)
          have k78 := ci_ne rfl z_ti c75
          refine lv_aload_n S.1 S.2.1 dX7_driftMonth_111 rfl (lv_at hl67 2 rfl) ?_
          refine r_get S hK hPl67 0 (by decide) hF68 (C := RX7) (T := TX7) (N := 15) hiX7 rfl 1 (by decide) (by decide +kernel) (v := .ref (ad 3)) rfl dX7_driftMonth_112 ?_
          refine lv_iload_n S.1 S.2.1 dX7_driftMonth_115 rfl (lv_at hl67 0 rfl) ?_
          obtain ⟨ja80, jb80, jc80, jd80, jx80, jy80, jk80, hF80, hk80⟩ := wt_J hWl67 (show isJ 3 from Or.inl rfl)
          refine r_cVv (As := [.int (nI q267)]) (rest := []) S hK hZ hPl67 hSl67 hl67.1 3 (by decide) hF80 (C := RX1) rfl (c_X1_walkMonth l D cA ad t hI Fl67 hWl67 3 (show isJ 3 from Or.inl rfl) (nI q267)) (cwV 1 S.2.2.2.2 gX7_driftMonth_X1_walkMonth rfl rfl rfl (by decide +kernel) ⟨Nat.le_of_ble_eq_true rfl, Nat.le_of_ble_eq_true rfl⟩) rfl rfl (Nat.le_of_ble_eq_true rfl) ⟨Nat.zero_le _, Nat.zero_le _⟩ dX7_driftMonth_116 (fun F79 H79 locs79 hr79 hP79 hS79 => ?_)
          obtain ⟨hW79, hFc79, hr79⟩ := hr79
          have hFr79 := hFl67.tr hFc79 (by simp <;> first | omega | (simp only [isC, isJ] at *; omega))
          exact hret 119 _ _ _ _ dX7_driftMonth_119 hP79 hS79 ⟨hW79, hFr79, trivial⟩
      exact lp67 (8 - (0) + 1) (0) F59 H59 locs59 (by omega) (by omega) hW59 hFr59 hP59 hS59 ls66 (lv_sub hl66 [0, 1, 2] rfl)
    have k81 := ci_eq rfl z_ti c60
    refine lv_aload_n S.1 S.2.1 dX7_driftMonth_51 rfl (lv_at hl0 0 rfl) ?_
    obtain ⟨c82, d82, k82, dr82, hF82, hc82, hd82, hk82⟩ := wt_main hW59
    refine r_get S hK hP59 0 (by decide) hF82 (C := RX7) (T := TX7) (N := 15) hiX7 rfl 1 (by decide) (by decide +kernel) (v := .ref (ad 3)) rfl dX7_driftMonth_52 ?_
    refine lv_aload_n S.1 S.2.1 dX7_driftMonth_55 rfl (lv_at hl0 0 rfl) ?_
    refine r_get S hK hP59 0 (by decide) hF82 (C := RX7) (T := TX7) (N := 15) hiX7 rfl 11 (by decide) (by decide +kernel) (v := .ref (ad c82)) rfl dX7_driftMonth_56 ?_
    obtain ⟨ja84, jb84, jc84, jd84, jx84, jy84, jk84, hF84, hk84⟩ := wt_J hW59 (show isJ 3 from Or.inl rfl)
    refine r_cVp (As := [.ref (ad c82)]) (rest := []) S hK hZ hP59 hS59 hl0.1 3 (by decide) hF84 (C := RX1) rfl (c_X1_mayStay l D cA ad t hI F59 hW59 3 (show isJ 3 from Or.inl rfl) c82 hc82) (cwV 1 S.2.2.2.2 gX7_driftMonth_X1_mayStay rfl rfl rfl (by decide +kernel) ⟨Nat.le_of_ble_eq_true rfl, Nat.le_of_ble_eq_true rfl⟩) rfl rfl (Nat.le_of_ble_eq_true rfl) ⟨Nat.zero_le _, Nat.zero_le _⟩ dX7_driftMonth_59 (fun r83 hr83 => ?_)
    obtain ⟨b85, hb85, rfl⟩ := hr83
    refine lv_if_eq (tgt := 78) S.1 S.2.1 dX7_driftMonth_62 (by decide) (fun c86 => ?_) (fun c86 => ?_)
    · skip
      have k87 := ci_eq (nI_toInt (n := b85) (by omega)) z_ti c86
      refine lv_aload_n S.1 S.2.1 dX7_driftMonth_78 rfl (lv_at hl0 0 rfl) ?_
      refine r_get S hK hP59 0 (by decide) hF82 (C := RX7) (T := TX7) (N := 15) hiX7 rfl 1 (by decide) (by decide +kernel) (v := .ref (ad 3)) rfl dX7_driftMonth_79 ?_
      refine lv_aload_n S.1 S.2.1 dX7_driftMonth_82 rfl (lv_at hl0 0 rfl) ?_
      refine r_get S hK hP59 0 (by decide) hF82 (C := RX7) (T := TX7) (N := 15) hiX7 rfl 11 (by decide) (by decide +kernel) (v := .ref (ad c82)) rfl dX7_driftMonth_83 ?_
      refine r_cVp (As := [.ref (ad c82)]) (rest := []) S hK hZ hP59 hS59 hl0.1 3 (by decide) hF84 (C := RX1) rfl (c_X1_walks l D cA ad t hI F59 hW59 3 (show isJ 3 from Or.inl rfl) c82 hc82) (cwV 1 S.2.2.2.2 gX7_driftMonth_X1_walks rfl rfl rfl (by decide +kernel) ⟨Nat.le_of_ble_eq_true rfl, Nat.le_of_ble_eq_true rfl⟩) rfl rfl (Nat.le_of_ble_eq_true rfl) ⟨Nat.zero_le _, Nat.zero_le _⟩ dX7_driftMonth_86 (fun r88 hr88 => ?_)
      refine lv_istore_n (lv' := [(1, .int r88), (0, .ref (ad 0))]) S.1 S.2.1 dX7_driftMonth_89 rfl hl0 (by decide) rfl (fun ls89 hl89 => ?_)
      refine lv_iconst (v := (nI 0)) S.1 S.2.1 dX7_driftMonth_90 (by decide +kernel) ?_
      refine lv_istore_n (lv' := [(2, .int (nI 0)), (1, .int r88), (0, .ref (ad 0))]) S.1 S.2.1 dX7_driftMonth_91 rfl hl89 (by decide) rfl (fun ls90 hl90 => ?_)
      have lp91 : ∀ (n91 : Nat) (q291 : Nat), ∀ (Fl91 : Nat → va_E) (Hl91 : Heap) (lol91 : List Loc), q291 ≤ 8 → 8 - q291 < n91 → WT cA ad Fl91 → rFr [0, 3] F Fl91 → va_P D vwCl (rW ad Fl91) Hl91 → va_S (rA ad) s.heap Hl91 lol91 → ∀ (ls : Array Slot), lv_has ls 3 [(2, .int (nI q291)), (1, .int r88), (0, .ref (ad 0))] → W p l e { frames := 4, cells := 0, slots := 0, locals := 87 } s m args below meth c Hl91 lol91 0 0 Q (F0 m 92 ls []) := by
        intro n91
        induction n91 with
        | zero =>
          intro q291 Fl91 Hl91 lol91 iv91_0 hm91 hWl91 hFl91 hPl91 hSl91 ls91 hl91
          exact absurd hm91 (Nat.not_lt_zero _)
        | succ n91 ih91 =>
          intro q291 Fl91 Hl91 lol91 iv91_0 hm91 hWl91 hFl91 hPl91 hSl91 ls91 hl91
          refine lv_iload_n S.1 S.2.1 dX7_driftMonth_92 rfl (lv_at hl91 0 rfl) ?_
          refine lv_aload_n S.1 S.2.1 dX7_driftMonth_93 rfl (lv_at hl91 2 rfl) ?_
          obtain ⟨c92, d92, k92, dr92, hF92, hc92, hd92, hk92⟩ := wt_main hWl91
          refine r_get S hK hPl91 0 (by decide) hF92 (C := RX7) (T := TX7) (N := 15) hiX7 rfl 11 (by decide) (by decide +kernel) (v := .ref (ad c92)) rfl dX7_driftMonth_94 ?_
          obtain ⟨sl93, fm93, tn93, rn93, bn93, hF93, hb93_1, hb93_2, hb93_3⟩ := wt_C hWl91 hc92
          refine r_get S hK hPl91 c92 (lt_C hc92) hF93 (C := RX0) (T := TX0) (N := 10) hiX0 rfl 2 (by decide) (by decide +kernel) (v := .int (nI tn93)) rfl dX7_driftMonth_97 ?_
          refine lv_icmp_ge (tgt := 126) S.1 S.2.1 dX7_driftMonth_100 (by decide) (fun c94 => ?_) (fun c94 => ?_)
          · skip
            have k95 := ci_le (nI_toInt (n := tn93) (by omega)) (nI_toInt (n := q291) (by omega)) c94
            exact hret 126 _ _ _ _ dX7_driftMonth_126 hPl91 hSl91 ⟨hWl91, hFl91, trivial⟩
          have k96 := ci_nle (nI_toInt (n := tn93) (by omega)) (nI_toInt (n := q291) (by omega)) c94
          refine lv_iload_n S.1 S.2.1 dX7_driftMonth_103 rfl (lv_at hl91 1 rfl) ?_
          refine lv_iload_n S.1 S.2.1 dX7_driftMonth_104 rfl (lv_at hl91 0 rfl) ?_
          refine lv_ishr S.1 S.2.1 dX7_driftMonth_105 ?_
          refine lv_topi (fun v97 e97 => ?_)
          refine lv_iconst (v := (nI 1)) S.1 S.2.1 dX7_driftMonth_106 (by decide +kernel) ?_
          refine lv_iand S.1 S.2.1 dX7_driftMonth_107 ?_
          refine lv_topi (fun v98 e98 => ?_)
          refine lv_if_eq (tgt := 120) S.1 S.2.1 dX7_driftMonth_108 (by decide) (fun c99 => ?_) (fun c99 => ?_)
          · skip
            have k100 := ci_eq rfl z_ti c99
            refine lv_iinc (v := (nI (q291 + 1))) (lv' := [(2, .int (nI (q291 + 1))), (1, .int r88), (0, .ref (ad 0))]) S.1 S.2.1 dX7_driftMonth_120 hl91 (k := 0) rfl (nI_add _ 1) (by decide) rfl (fun ls101 hl101 => ?_)
            refine lv_goto (tgt := 92) S.1 S.2.1 dX7_driftMonth_123 (by decide) ?_
            exact ih91 (q291 + 1) Fl91 Hl91 lol91 (by omega) (by omega) hWl91 hFl91 hPl91 hSl91 ls101 (lv_sub hl101 [0, 1, 2] rfl)
          have k102 := ci_ne rfl z_ti c99
          refine lv_aload_n S.1 S.2.1 dX7_driftMonth_111 rfl (lv_at hl91 2 rfl) ?_
          refine r_get S hK hPl91 0 (by decide) hF92 (C := RX7) (T := TX7) (N := 15) hiX7 rfl 1 (by decide) (by decide +kernel) (v := .ref (ad 3)) rfl dX7_driftMonth_112 ?_
          refine lv_iload_n S.1 S.2.1 dX7_driftMonth_115 rfl (lv_at hl91 0 rfl) ?_
          obtain ⟨ja104, jb104, jc104, jd104, jx104, jy104, jk104, hF104, hk104⟩ := wt_J hWl91 (show isJ 3 from Or.inl rfl)
          refine r_cVv (As := [.int (nI q291)]) (rest := []) S hK hZ hPl91 hSl91 hl91.1 3 (by decide) hF104 (C := RX1) rfl (c_X1_walkMonth l D cA ad t hI Fl91 hWl91 3 (show isJ 3 from Or.inl rfl) (nI q291)) (cwV 1 S.2.2.2.2 gX7_driftMonth_X1_walkMonth rfl rfl rfl (by decide +kernel) ⟨Nat.le_of_ble_eq_true rfl, Nat.le_of_ble_eq_true rfl⟩) rfl rfl (Nat.le_of_ble_eq_true rfl) ⟨Nat.zero_le _, Nat.zero_le _⟩ dX7_driftMonth_116 (fun F103 H103 locs103 hr103 hP103 hS103 => ?_)
          obtain ⟨hW103, hFc103, hr103⟩ := hr103
          have hFr103 := hFl91.tr hFc103 (by simp <;> first | omega | (simp only [isC, isJ] at *; omega))
          exact hret 119 _ _ _ _ dX7_driftMonth_119 hP103 hS103 ⟨hW103, hFr103, trivial⟩
      exact lp91 (8 - (0) + 1) (0) F59 H59 locs59 (by omega) (by omega) hW59 hFr59 hP59 hS59 ls90 (lv_sub hl90 [0, 1, 2] rfl)
    have k105 := ci_ne (nI_toInt (n := b85) (by omega)) z_ti c86
    refine lv_aload_n S.1 S.2.1 dX7_driftMonth_65 rfl (lv_at hl0 0 rfl) ?_
    refine r_get S hK hP59 0 (by decide) hF82 (C := RX7) (T := TX7) (N := 15) hiX7 rfl 1 (by decide) (by decide +kernel) (v := .ref (ad 3)) rfl dX7_driftMonth_66 ?_
    refine lv_aload_n S.1 S.2.1 dX7_driftMonth_69 rfl (lv_at hl0 0 rfl) ?_
    refine r_get S hK hP59 0 (by decide) hF82 (C := RX7) (T := TX7) (N := 15) hiX7 rfl 11 (by decide) (by decide +kernel) (v := .ref (ad c82)) rfl dX7_driftMonth_70 ?_
    refine r_cVi (As := [.ref (ad c82)]) (rest := []) S hK hZ hP59 hS59 hl0.1 3 (by decide) hF84 (C := RX1) rfl (c_X1_stayMonth l D cA ad t hI F59 hW59 3 (show isJ 3 from Or.inl rfl) c82 hc82) (cwV 1 S.2.2.2.2 gX7_driftMonth_X1_stayMonth rfl rfl rfl (by decide +kernel) ⟨Nat.le_of_ble_eq_true rfl, Nat.le_of_ble_eq_true rfl⟩) rfl rfl (Nat.le_of_ble_eq_true rfl) ⟨Nat.zero_le _, Nat.zero_le _⟩ dX7_driftMonth_73 (fun r106 F106 H106 locs106 hr106 hP106 hS106 => ?_)
    obtain ⟨hW106, hFc106, hr106⟩ := hr106
    have hFr106 := hFr59.tr hFc106 (by simp <;> first | omega | (simp only [isC, isJ] at *; omega))
    refine lv_pop S.1 S.2.1 dX7_driftMonth_76 rfl ?_
    exact hret 77 _ _ _ _ dX7_driftMonth_77 hP106 hS106 ⟨hW106, hFr106, trivial⟩
  have k107 := ci_nle (nI_toInt (n := rn56) (by omega)) z_ti c57
  refine lv_aload_n S.1 S.2.1 dX7_driftMonth_18 rfl (lv_at hl0 0 rfl) ?_
  refine r_get S hK hP1 0 (by decide) hF55 (C := RX7) (T := TX7) (N := 15) hiX7 rfl 1 (by decide) (by decide +kernel) (v := .ref (ad 3)) rfl dX7_driftMonth_19 ?_
  refine lv_dup S.1 S.2.1 dX7_driftMonth_22 rfl ?_
  obtain ⟨ja108, jb108, jc108, jd108, jx108, jy108, jk108, hF108, hk108⟩ := wt_J hW1 (show isJ 3 from Or.inl rfl)
  refine r_get S hK hP1 3 (by decide) hF108 (C := RX1) (T := TX1) (N := 7) hiX1 rfl 5 (by decide) (by decide +kernel) (v := .int jy108) rfl dX7_driftMonth_23 ?_
  refine lv_iconst (v := (nI 1)) S.1 S.2.1 dX7_driftMonth_26 (by decide +kernel) ?_
  refine lv_aload_n S.1 S.2.1 dX7_driftMonth_27 rfl (lv_at hl0 0 rfl) ?_
  refine lv_aload_n S.1 S.2.1 dX7_driftMonth_28 rfl (lv_at hl0 0 rfl) ?_
  refine r_get S hK hP1 0 (by decide) hF55 (C := RX7) (T := TX7) (N := 15) hiX7 rfl 11 (by decide) (by decide +kernel) (v := .ref (ad c55)) rfl dX7_driftMonth_29 ?_
  refine r_get S hK hP1 c55 (lt_C hc55) hF56 (C := RX0) (T := TX0) (N := 10) hiX0 rfl 3 (by decide) (by decide +kernel) (v := .int (nI rn56)) rfl dX7_driftMonth_32 ?_
  refine r_cVi (As := [.int (nI rn56)]) (rest := [.int (nI 1), .int jy108, .ref (ad 3)]) S hK hZ hP1 hS1 hl0.1 0 (by decide) hF55 (C := RX7) rfl (c_X7_draw l D cA ad t hI F1 hW1 (nI rn56)) (cwV 1 S.2.2.2.2 gX7_driftMonth_X7_draw rfl rfl rfl (by decide +kernel) ⟨Nat.le_of_ble_eq_true rfl, Nat.le_of_ble_eq_true rfl⟩) rfl rfl (Nat.le_of_ble_eq_true rfl) ⟨Nat.zero_le _, Nat.zero_le _⟩ dX7_driftMonth_35 (fun r109 F109 H109 locs109 hr109 hP109 hS109 => ?_)
  obtain ⟨hW109, hFc109, hr109⟩ := hr109
  have hFr109 := hFr1.tr hFc109 (by simp <;> first | omega | (simp only [isC, isJ] at *; omega))
  refine lv_ishl S.1 S.2.1 dX7_driftMonth_38 ?_
  refine lv_topi (fun v110 e110 => ?_)
  refine lv_ixor S.1 S.2.1 dX7_driftMonth_39 ?_
  refine lv_topi (fun v111 e111 => ?_)
  have hF112 := (hFc109 3 (by decide)).trans hF108
  refine r_put S hI hK hP109 hS109 3 (by decide) hF112 (C := RX1) (T := TX1) (N := 7) hiX1 tyX1_ok nmX1 rfl 5 (by decide) (by decide +kernel) rfl rfl rfl (Nat.le_of_ble_eq_true rfl) dX7_driftMonth_40 (fun F113 H113 locs113 eF113 hP113 hS113 => ?_)
  have hF113 : F113 3 = .inr (1, [.int ja108, .int jb108, .int jc108, .int jd108, .int jx108, .int v111, .int (nI jk108)]) := by rw [eF113]; exact va_up_self _ _ _
  have hW113 := hW109.up eF113 (ok_J (show isJ 3 from Or.inl rfl) ⟨ja108, jb108, jc108, jd108, jx108, v111, jk108, rfl, by omega⟩)
  have hFr113 := hFr109.up eF113 (by simp <;> first | omega | (simp only [isC, isJ] at *; omega))
  refine lv_aload_n S.1 S.2.1 dX7_driftMonth_43 rfl (lv_at hl0 0 rfl) ?_
  refine lv_iconst (v := (nI 2)) S.1 S.2.1 dX7_driftMonth_44 (by decide +kernel) ?_
  obtain ⟨c115, d115, k115, dr115, hF115, hc115, hd115, hk115⟩ := wt_main hW113
  refine r_cVi (As := [.int (nI 2)]) (rest := []) S hK hZ hP113 hS113 hl0.1 0 (by decide) hF115 (C := RX7) rfl (c_X7_draw l D cA ad t hI F113 hW113 (nI 2)) (cwV 1 S.2.2.2.2 gX7_driftMonth_X7_draw rfl rfl rfl (by decide +kernel) ⟨Nat.le_of_ble_eq_true rfl, Nat.le_of_ble_eq_true rfl⟩) rfl rfl (Nat.le_of_ble_eq_true rfl) ⟨Nat.zero_le _, Nat.zero_le _⟩ dX7_driftMonth_45 (fun r114 F114 H114 locs114 hr114 hP114 hS114 => ?_)
  obtain ⟨hW114, hFc114, hr114⟩ := hr114
  have hFr114 := hFr113.tr hFc114 (by simp <;> first | omega | (simp only [isC, isJ] at *; omega))
  refine lv_if_ne (tgt := 78) S.1 S.2.1 dX7_driftMonth_48 (by decide) (fun c116 => ?_) (fun c116 => ?_)
  · skip
    have k117 := ci_ne rfl z_ti c116
    refine lv_aload_n S.1 S.2.1 dX7_driftMonth_78 rfl (lv_at hl0 0 rfl) ?_
    obtain ⟨c118, d118, k118, dr118, hF118, hc118, hd118, hk118⟩ := wt_main hW114
    refine r_get S hK hP114 0 (by decide) hF118 (C := RX7) (T := TX7) (N := 15) hiX7 rfl 1 (by decide) (by decide +kernel) (v := .ref (ad 3)) rfl dX7_driftMonth_79 ?_
    refine lv_aload_n S.1 S.2.1 dX7_driftMonth_82 rfl (lv_at hl0 0 rfl) ?_
    refine r_get S hK hP114 0 (by decide) hF118 (C := RX7) (T := TX7) (N := 15) hiX7 rfl 11 (by decide) (by decide +kernel) (v := .ref (ad c118)) rfl dX7_driftMonth_83 ?_
    have hF120 := (hFc114 3 (by decide)).trans hF113
    refine r_cVp (As := [.ref (ad c118)]) (rest := []) S hK hZ hP114 hS114 hl0.1 3 (by decide) hF120 (C := RX1) rfl (c_X1_walks l D cA ad t hI F114 hW114 3 (show isJ 3 from Or.inl rfl) c118 hc118) (cwV 1 S.2.2.2.2 gX7_driftMonth_X1_walks rfl rfl rfl (by decide +kernel) ⟨Nat.le_of_ble_eq_true rfl, Nat.le_of_ble_eq_true rfl⟩) rfl rfl (Nat.le_of_ble_eq_true rfl) ⟨Nat.zero_le _, Nat.zero_le _⟩ dX7_driftMonth_86 (fun r119 hr119 => ?_)
    refine lv_istore_n (lv' := [(1, .int r119), (0, .ref (ad 0))]) S.1 S.2.1 dX7_driftMonth_89 rfl hl0 (by decide) rfl (fun ls121 hl121 => ?_)
    refine lv_iconst (v := (nI 0)) S.1 S.2.1 dX7_driftMonth_90 (by decide +kernel) ?_
    refine lv_istore_n (lv' := [(2, .int (nI 0)), (1, .int r119), (0, .ref (ad 0))]) S.1 S.2.1 dX7_driftMonth_91 rfl hl121 (by decide) rfl (fun ls122 hl122 => ?_)
    have lp123 : ∀ (n123 : Nat) (q2123 : Nat), ∀ (Fl123 : Nat → va_E) (Hl123 : Heap) (lol123 : List Loc), q2123 ≤ 8 → 8 - q2123 < n123 → WT cA ad Fl123 → rFr [0, 3] F Fl123 → va_P D vwCl (rW ad Fl123) Hl123 → va_S (rA ad) s.heap Hl123 lol123 → ∀ (ls : Array Slot), lv_has ls 3 [(2, .int (nI q2123)), (1, .int r119), (0, .ref (ad 0))] → W p l e { frames := 4, cells := 0, slots := 0, locals := 87 } s m args below meth c Hl123 lol123 0 0 Q (F0 m 92 ls []) := by
      intro n123
      induction n123 with
      | zero =>
        intro q2123 Fl123 Hl123 lol123 iv123_0 hm123 hWl123 hFl123 hPl123 hSl123 ls123 hl123
        exact absurd hm123 (Nat.not_lt_zero _)
      | succ n123 ih123 =>
        intro q2123 Fl123 Hl123 lol123 iv123_0 hm123 hWl123 hFl123 hPl123 hSl123 ls123 hl123
        refine lv_iload_n S.1 S.2.1 dX7_driftMonth_92 rfl (lv_at hl123 0 rfl) ?_
        refine lv_aload_n S.1 S.2.1 dX7_driftMonth_93 rfl (lv_at hl123 2 rfl) ?_
        obtain ⟨c124, d124, k124, dr124, hF124, hc124, hd124, hk124⟩ := wt_main hWl123
        refine r_get S hK hPl123 0 (by decide) hF124 (C := RX7) (T := TX7) (N := 15) hiX7 rfl 11 (by decide) (by decide +kernel) (v := .ref (ad c124)) rfl dX7_driftMonth_94 ?_
        obtain ⟨sl125, fm125, tn125, rn125, bn125, hF125, hb125_1, hb125_2, hb125_3⟩ := wt_C hWl123 hc124
        refine r_get S hK hPl123 c124 (lt_C hc124) hF125 (C := RX0) (T := TX0) (N := 10) hiX0 rfl 2 (by decide) (by decide +kernel) (v := .int (nI tn125)) rfl dX7_driftMonth_97 ?_
        refine lv_icmp_ge (tgt := 126) S.1 S.2.1 dX7_driftMonth_100 (by decide) (fun c126 => ?_) (fun c126 => ?_)
        · skip
          have k127 := ci_le (nI_toInt (n := tn125) (by omega)) (nI_toInt (n := q2123) (by omega)) c126
          exact hret 126 _ _ _ _ dX7_driftMonth_126 hPl123 hSl123 ⟨hWl123, hFl123, trivial⟩
        have k128 := ci_nle (nI_toInt (n := tn125) (by omega)) (nI_toInt (n := q2123) (by omega)) c126
        refine lv_iload_n S.1 S.2.1 dX7_driftMonth_103 rfl (lv_at hl123 1 rfl) ?_
        refine lv_iload_n S.1 S.2.1 dX7_driftMonth_104 rfl (lv_at hl123 0 rfl) ?_
        refine lv_ishr S.1 S.2.1 dX7_driftMonth_105 ?_
        refine lv_topi (fun v129 e129 => ?_)
        refine lv_iconst (v := (nI 1)) S.1 S.2.1 dX7_driftMonth_106 (by decide +kernel) ?_
        refine lv_iand S.1 S.2.1 dX7_driftMonth_107 ?_
        refine lv_topi (fun v130 e130 => ?_)
        refine lv_if_eq (tgt := 120) S.1 S.2.1 dX7_driftMonth_108 (by decide) (fun c131 => ?_) (fun c131 => ?_)
        · skip
          have k132 := ci_eq rfl z_ti c131
          refine lv_iinc (v := (nI (q2123 + 1))) (lv' := [(2, .int (nI (q2123 + 1))), (1, .int r119), (0, .ref (ad 0))]) S.1 S.2.1 dX7_driftMonth_120 hl123 (k := 0) rfl (nI_add _ 1) (by decide) rfl (fun ls133 hl133 => ?_)
          refine lv_goto (tgt := 92) S.1 S.2.1 dX7_driftMonth_123 (by decide) ?_
          exact ih123 (q2123 + 1) Fl123 Hl123 lol123 (by omega) (by omega) hWl123 hFl123 hPl123 hSl123 ls133 (lv_sub hl133 [0, 1, 2] rfl)
        have k134 := ci_ne rfl z_ti c131
        refine lv_aload_n S.1 S.2.1 dX7_driftMonth_111 rfl (lv_at hl123 2 rfl) ?_
        refine r_get S hK hPl123 0 (by decide) hF124 (C := RX7) (T := TX7) (N := 15) hiX7 rfl 1 (by decide) (by decide +kernel) (v := .ref (ad 3)) rfl dX7_driftMonth_112 ?_
        refine lv_iload_n S.1 S.2.1 dX7_driftMonth_115 rfl (lv_at hl123 0 rfl) ?_
        obtain ⟨ja136, jb136, jc136, jd136, jx136, jy136, jk136, hF136, hk136⟩ := wt_J hWl123 (show isJ 3 from Or.inl rfl)
        refine r_cVv (As := [.int (nI q2123)]) (rest := []) S hK hZ hPl123 hSl123 hl123.1 3 (by decide) hF136 (C := RX1) rfl (c_X1_walkMonth l D cA ad t hI Fl123 hWl123 3 (show isJ 3 from Or.inl rfl) (nI q2123)) (cwV 1 S.2.2.2.2 gX7_driftMonth_X1_walkMonth rfl rfl rfl (by decide +kernel) ⟨Nat.le_of_ble_eq_true rfl, Nat.le_of_ble_eq_true rfl⟩) rfl rfl (Nat.le_of_ble_eq_true rfl) ⟨Nat.zero_le _, Nat.zero_le _⟩ dX7_driftMonth_116 (fun F135 H135 locs135 hr135 hP135 hS135 => ?_)
        obtain ⟨hW135, hFc135, hr135⟩ := hr135
        have hFr135 := hFl123.tr hFc135 (by simp <;> first | omega | (simp only [isC, isJ] at *; omega))
        exact hret 119 _ _ _ _ dX7_driftMonth_119 hP135 hS135 ⟨hW135, hFr135, trivial⟩
    exact lp123 (8 - (0) + 1) (0) F114 H114 locs114 (by omega) (by omega) hW114 hFr114 hP114 hS114 ls122 (lv_sub hl122 [0, 1, 2] rfl)
  have k137 := ci_eq rfl z_ti c116
  refine lv_aload_n S.1 S.2.1 dX7_driftMonth_51 rfl (lv_at hl0 0 rfl) ?_
  obtain ⟨c138, d138, k138, dr138, hF138, hc138, hd138, hk138⟩ := wt_main hW114
  refine r_get S hK hP114 0 (by decide) hF138 (C := RX7) (T := TX7) (N := 15) hiX7 rfl 1 (by decide) (by decide +kernel) (v := .ref (ad 3)) rfl dX7_driftMonth_52 ?_
  refine lv_aload_n S.1 S.2.1 dX7_driftMonth_55 rfl (lv_at hl0 0 rfl) ?_
  refine r_get S hK hP114 0 (by decide) hF138 (C := RX7) (T := TX7) (N := 15) hiX7 rfl 11 (by decide) (by decide +kernel) (v := .ref (ad c138)) rfl dX7_driftMonth_56 ?_
  have hF140 := (hFc114 3 (by decide)).trans hF113
  refine r_cVp (As := [.ref (ad c138)]) (rest := []) S hK hZ hP114 hS114 hl0.1 3 (by decide) hF140 (C := RX1) rfl (c_X1_mayStay l D cA ad t hI F114 hW114 3 (show isJ 3 from Or.inl rfl) c138 hc138) (cwV 1 S.2.2.2.2 gX7_driftMonth_X1_mayStay rfl rfl rfl (by decide +kernel) ⟨Nat.le_of_ble_eq_true rfl, Nat.le_of_ble_eq_true rfl⟩) rfl rfl (Nat.le_of_ble_eq_true rfl) ⟨Nat.zero_le _, Nat.zero_le _⟩ dX7_driftMonth_59 (fun r139 hr139 => ?_)
  obtain ⟨b141, hb141, rfl⟩ := hr139
  refine lv_if_eq (tgt := 78) S.1 S.2.1 dX7_driftMonth_62 (by decide) (fun c142 => ?_) (fun c142 => ?_)
  · skip
    have k143 := ci_eq (nI_toInt (n := b141) (by omega)) z_ti c142
    refine lv_aload_n S.1 S.2.1 dX7_driftMonth_78 rfl (lv_at hl0 0 rfl) ?_
    refine r_get S hK hP114 0 (by decide) hF138 (C := RX7) (T := TX7) (N := 15) hiX7 rfl 1 (by decide) (by decide +kernel) (v := .ref (ad 3)) rfl dX7_driftMonth_79 ?_
    refine lv_aload_n S.1 S.2.1 dX7_driftMonth_82 rfl (lv_at hl0 0 rfl) ?_
    refine r_get S hK hP114 0 (by decide) hF138 (C := RX7) (T := TX7) (N := 15) hiX7 rfl 11 (by decide) (by decide +kernel) (v := .ref (ad c138)) rfl dX7_driftMonth_83 ?_
    refine r_cVp (As := [.ref (ad c138)]) (rest := []) S hK hZ hP114 hS114 hl0.1 3 (by decide) hF140 (C := RX1) rfl (c_X1_walks l D cA ad t hI F114 hW114 3 (show isJ 3 from Or.inl rfl) c138 hc138) (cwV 1 S.2.2.2.2 gX7_driftMonth_X1_walks rfl rfl rfl (by decide +kernel) ⟨Nat.le_of_ble_eq_true rfl, Nat.le_of_ble_eq_true rfl⟩) rfl rfl (Nat.le_of_ble_eq_true rfl) ⟨Nat.zero_le _, Nat.zero_le _⟩ dX7_driftMonth_86 (fun r144 hr144 => ?_)
    refine lv_istore_n (lv' := [(1, .int r144), (0, .ref (ad 0))]) S.1 S.2.1 dX7_driftMonth_89 rfl hl0 (by decide) rfl (fun ls145 hl145 => ?_)
    refine lv_iconst (v := (nI 0)) S.1 S.2.1 dX7_driftMonth_90 (by decide +kernel) ?_
    refine lv_istore_n (lv' := [(2, .int (nI 0)), (1, .int r144), (0, .ref (ad 0))]) S.1 S.2.1 dX7_driftMonth_91 rfl hl145 (by decide) rfl (fun ls146 hl146 => ?_)
    have lp147 : ∀ (n147 : Nat) (q2147 : Nat), ∀ (Fl147 : Nat → va_E) (Hl147 : Heap) (lol147 : List Loc), q2147 ≤ 8 → 8 - q2147 < n147 → WT cA ad Fl147 → rFr [0, 3] F Fl147 → va_P D vwCl (rW ad Fl147) Hl147 → va_S (rA ad) s.heap Hl147 lol147 → ∀ (ls : Array Slot), lv_has ls 3 [(2, .int (nI q2147)), (1, .int r144), (0, .ref (ad 0))] → W p l e { frames := 4, cells := 0, slots := 0, locals := 87 } s m args below meth c Hl147 lol147 0 0 Q (F0 m 92 ls []) := by
      intro n147
      induction n147 with
      | zero =>
        intro q2147 Fl147 Hl147 lol147 iv147_0 hm147 hWl147 hFl147 hPl147 hSl147 ls147 hl147
        exact absurd hm147 (Nat.not_lt_zero _)
      | succ n147 ih147 =>
        intro q2147 Fl147 Hl147 lol147 iv147_0 hm147 hWl147 hFl147 hPl147 hSl147 ls147 hl147
        refine lv_iload_n S.1 S.2.1 dX7_driftMonth_92 rfl (lv_at hl147 0 rfl) ?_
        refine lv_aload_n S.1 S.2.1 dX7_driftMonth_93 rfl (lv_at hl147 2 rfl) ?_
        obtain ⟨c148, d148, k148, dr148, hF148, hc148, hd148, hk148⟩ := wt_main hWl147
        refine r_get S hK hPl147 0 (by decide) hF148 (C := RX7) (T := TX7) (N := 15) hiX7 rfl 11 (by decide) (by decide +kernel) (v := .ref (ad c148)) rfl dX7_driftMonth_94 ?_
        obtain ⟨sl149, fm149, tn149, rn149, bn149, hF149, hb149_1, hb149_2, hb149_3⟩ := wt_C hWl147 hc148
        refine r_get S hK hPl147 c148 (lt_C hc148) hF149 (C := RX0) (T := TX0) (N := 10) hiX0 rfl 2 (by decide) (by decide +kernel) (v := .int (nI tn149)) rfl dX7_driftMonth_97 ?_
        refine lv_icmp_ge (tgt := 126) S.1 S.2.1 dX7_driftMonth_100 (by decide) (fun c150 => ?_) (fun c150 => ?_)
        · skip
          have k151 := ci_le (nI_toInt (n := tn149) (by omega)) (nI_toInt (n := q2147) (by omega)) c150
          exact hret 126 _ _ _ _ dX7_driftMonth_126 hPl147 hSl147 ⟨hWl147, hFl147, trivial⟩
        have k152 := ci_nle (nI_toInt (n := tn149) (by omega)) (nI_toInt (n := q2147) (by omega)) c150
        refine lv_iload_n S.1 S.2.1 dX7_driftMonth_103 rfl (lv_at hl147 1 rfl) ?_
        refine lv_iload_n S.1 S.2.1 dX7_driftMonth_104 rfl (lv_at hl147 0 rfl) ?_
        refine lv_ishr S.1 S.2.1 dX7_driftMonth_105 ?_
        refine lv_topi (fun v153 e153 => ?_)
        refine lv_iconst (v := (nI 1)) S.1 S.2.1 dX7_driftMonth_106 (by decide +kernel) ?_
        refine lv_iand S.1 S.2.1 dX7_driftMonth_107 ?_
        refine lv_topi (fun v154 e154 => ?_)
        refine lv_if_eq (tgt := 120) S.1 S.2.1 dX7_driftMonth_108 (by decide) (fun c155 => ?_) (fun c155 => ?_)
        · skip
          have k156 := ci_eq rfl z_ti c155
          refine lv_iinc (v := (nI (q2147 + 1))) (lv' := [(2, .int (nI (q2147 + 1))), (1, .int r144), (0, .ref (ad 0))]) S.1 S.2.1 dX7_driftMonth_120 hl147 (k := 0) rfl (nI_add _ 1) (by decide) rfl (fun ls157 hl157 => ?_)
          refine lv_goto (tgt := 92) S.1 S.2.1 dX7_driftMonth_123 (by decide) ?_
          exact ih147 (q2147 + 1) Fl147 Hl147 lol147 (by omega) (by omega) hWl147 hFl147 hPl147 hSl147 ls157 (lv_sub hl157 [0, 1, 2] rfl)
        have k158 := ci_ne rfl z_ti c155
        refine lv_aload_n S.1 S.2.1 dX7_driftMonth_111 rfl (lv_at hl147 2 rfl) ?_
        refine r_get S hK hPl147 0 (by decide) hF148 (C := RX7) (T := TX7) (N := 15) hiX7 rfl 1 (by decide) (by decide +kernel) (v := .ref (ad 3)) rfl dX7_driftMonth_112 ?_
        refine lv_iload_n S.1 S.2.1 dX7_driftMonth_115 rfl (lv_at hl147 0 rfl) ?_
        obtain ⟨ja160, jb160, jc160, jd160, jx160, jy160, jk160, hF160, hk160⟩ := wt_J hWl147 (show isJ 3 from Or.inl rfl)
        refine r_cVv (As := [.int (nI q2147)]) (rest := []) S hK hZ hPl147 hSl147 hl147.1 3 (by decide) hF160 (C := RX1) rfl (c_X1_walkMonth l D cA ad t hI Fl147 hWl147 3 (show isJ 3 from Or.inl rfl) (nI q2147)) (cwV 1 S.2.2.2.2 gX7_driftMonth_X1_walkMonth rfl rfl rfl (by decide +kernel) ⟨Nat.le_of_ble_eq_true rfl, Nat.le_of_ble_eq_true rfl⟩) rfl rfl (Nat.le_of_ble_eq_true rfl) ⟨Nat.zero_le _, Nat.zero_le _⟩ dX7_driftMonth_116 (fun F159 H159 locs159 hr159 hP159 hS159 => ?_)
        obtain ⟨hW159, hFc159, hr159⟩ := hr159
        have hFr159 := hFl147.tr hFc159 (by simp <;> first | omega | (simp only [isC, isJ] at *; omega))
        exact hret 119 _ _ _ _ dX7_driftMonth_119 hP159 hS159 ⟨hW159, hFr159, trivial⟩
    exact lp147 (8 - (0) + 1) (0) F114 H114 locs114 (by omega) (by omega) hW114 hFr114 hP114 hS114 ls146 (lv_sub hl146 [0, 1, 2] rfl)
  have k161 := ci_ne (nI_toInt (n := b141) (by omega)) z_ti c142
  refine lv_aload_n S.1 S.2.1 dX7_driftMonth_65 rfl (lv_at hl0 0 rfl) ?_
  refine r_get S hK hP114 0 (by decide) hF138 (C := RX7) (T := TX7) (N := 15) hiX7 rfl 1 (by decide) (by decide +kernel) (v := .ref (ad 3)) rfl dX7_driftMonth_66 ?_
  refine lv_aload_n S.1 S.2.1 dX7_driftMonth_69 rfl (lv_at hl0 0 rfl) ?_
  refine r_get S hK hP114 0 (by decide) hF138 (C := RX7) (T := TX7) (N := 15) hiX7 rfl 11 (by decide) (by decide +kernel) (v := .ref (ad c138)) rfl dX7_driftMonth_70 ?_
  refine r_cVi (As := [.ref (ad c138)]) (rest := []) S hK hZ hP114 hS114 hl0.1 3 (by decide) hF140 (C := RX1) rfl (c_X1_stayMonth l D cA ad t hI F114 hW114 3 (show isJ 3 from Or.inl rfl) c138 hc138) (cwV 1 S.2.2.2.2 gX7_driftMonth_X1_stayMonth rfl rfl rfl (by decide +kernel) ⟨Nat.le_of_ble_eq_true rfl, Nat.le_of_ble_eq_true rfl⟩) rfl rfl (Nat.le_of_ble_eq_true rfl) ⟨Nat.zero_le _, Nat.zero_le _⟩ dX7_driftMonth_73 (fun r162 F162 H162 locs162 hr162 hP162 hS162 => ?_)
  obtain ⟨hW162, hFc162, hr162⟩ := hr162
  have hFr162 := hFr114.tr hFc162 (by simp <;> first | omega | (simp only [isC, isJ] at *; omega))
  refine lv_pop S.1 S.2.1 dX7_driftMonth_76 rfl ?_
  exact hret 77 _ _ _ _ dX7_driftMonth_77 hP162 hS162 ⟨hW162, hFr162, trivial⟩
set_option maxHeartbeats 4000000 in
set_option maxRecDepth 100000 in
theorem c_X7_feed (l : Launch) (D : va_G) (cA ad : Nat → Nat) (t : Nat) (hI : rI ad) (F : Nat → va_E) (hW : WT cA ad F) (p1 : Int32) : MI l D cA ad t yX7_feed wsX7_feed { frames := 0, cells := 0, slots := 0, locals := 0 } [.ref (ad 0), .int p1] F (fun r F' => WT cA ad F' ∧ rFr [1, 2] F F' ∧ (True)) := by
  refine en_I rfl (by decide +kernel) (Nat.le_of_ble_eq_true rfl) ?_
  intro p e s m args below meth c ls0 Q S hK hZ hP hS hl0 hret
  have hl0 : lv_has ls0 2 [(0, .ref (ad 0)), (1, .int p1)] := hl0
  have hFr : rFr [1, 2] F F := rFr.rf
  have hiX5 : ∀ w ∈ u_ws RX5 TX5 6, w ∈ wsX7_feed := by decide +kernel
  have hiX7 : ∀ w ∈ u_ws RX7 TX7 15, w ∈ wsX7_feed := by decide +kernel
  refine lv_iload_n S.1 S.2.1 dX7_feed_0 rfl (lv_at hl0 1 rfl) ?_
  refine lv_if_lt (tgt := 11) S.1 S.2.1 dX7_feed_1 (by decide) (fun c1 => ?_) (fun c1 => ?_)
  · skip
    have k2 := ci_lt rfl z_ti c1
    refine lv_ldc (v := (-1000000002)) S.1 S.2.1 S.2.2.2.1 (S.2.2.2.2 (.constant RX7 79 (-1000000002)) (by decide +kernel)) dX7_feed_11 ?_
    exact hret 13 _ _ _ _ _ dX7_feed_13 rfl hP hS ⟨hW, hFr, trivial⟩
  have k3 := ci_nlt rfl z_ti c1
  refine lv_iload_n S.1 S.2.1 dX7_feed_4 rfl (lv_at hl0 1 rfl) ?_
  refine lv_sipush (v := (nI 255)) S.1 S.2.1 dX7_feed_5 (by decide +kernel) ?_
  refine lv_icmp_le (tgt := 14) S.1 S.2.1 dX7_feed_8 (by decide) (fun c4 => ?_) (fun c4 => ?_)
  · skip
    have k5 := ci_le rfl (nI_toInt (n := 255) (by omega)) c4
    refine lv_aload_n S.1 S.2.1 dX7_feed_14 rfl (lv_at hl0 0 rfl) ?_
    obtain ⟨c6, d6, k6, dr6, hF6, hc6, hd6, hk6⟩ := wt_main hW
    refine r_get S hK hP 0 (by decide) hF6 (C := RX7) (T := TX7) (N := 15) hiX7 rfl 0 (by decide) (by decide +kernel) (v := .ref (ad 1)) rfl dX7_feed_15 ?_
    obtain ⟨n7, a7, f7, fa7, nu7, hF7, hn7, ha7⟩ := wt_text hW
    refine r_get S hK hP 1 (by decide) hF7 (C := RX5) (T := TX5) (N := 6) hiX5 rfl 1 (by decide) (by decide +kernel) (v := .int (nI n7)) rfl dX7_feed_18 ?_
    refine lv_sipush (v := (nI 240)) S.1 S.2.1 dX7_feed_21 (by decide +kernel) ?_
    refine lv_icmp_lt (tgt := 30) S.1 S.2.1 dX7_feed_24 (by decide) (fun c8 => ?_) (fun c8 => ?_)
    · skip
      have k9 := ci_lt (nI_toInt (n := n7) (by omega)) (nI_toInt (n := 240) (by omega)) c8
      refine lv_aload_n S.1 S.2.1 dX7_feed_30 rfl (lv_at hl0 0 rfl) ?_
      refine r_get S hK hP 0 (by decide) hF6 (C := RX7) (T := TX7) (N := 15) hiX7 rfl 0 (by decide) (by decide +kernel) (v := .ref (ad 1)) rfl dX7_feed_31 ?_
      refine r_get S hK hP 1 (by decide) hF7 (C := RX5) (T := TX5) (N := 6) hiX5 rfl 0 (by decide) (by decide +kernel) (v := .ref (ad 2)) rfl dX7_feed_34 ?_
      refine lv_aload_n S.1 S.2.1 dX7_feed_37 rfl (lv_at hl0 0 rfl) ?_
      refine r_get S hK hP 0 (by decide) hF6 (C := RX7) (T := TX7) (N := 15) hiX7 rfl 0 (by decide) (by decide +kernel) (v := .ref (ad 1)) rfl dX7_feed_38 ?_
      refine r_get S hK hP 1 (by decide) hF7 (C := RX5) (T := TX5) (N := 6) hiX5 rfl 1 (by decide) (by decide +kernel) (v := .int (nI n7)) rfl dX7_feed_41 ?_
      refine lv_iload_n S.1 S.2.1 dX7_feed_44 rfl (lv_at hl0 1 rfl) ?_
      refine lv_i2c S.1 S.2.1 dX7_feed_45 rfl ?_
      refine lv_topi (fun v10 e10 => ?_)
      obtain ⟨g11, hF11⟩ := wt_let hW
      refine r_cast S hI hK hP hS 2 (by decide) hF11 (vp_in_nI (show n7 < 240 by omega) (by omega)) dX7_feed_46 (fun F12 H12 locs12 eF12 hP12 hS12 => ?_)
      have hW12 := hW.up eF12 (ok_let ⟨_, rfl⟩)
      have hFr12 := hFr.up eF12 (by simp <;> first | omega | (simp only [isC, isJ] at *; omega))
      refine lv_aload_n S.1 S.2.1 dX7_feed_47 rfl (lv_at hl0 0 rfl) ?_
      have hF13 := (show F12 0 = F 0 by rw [eF12]; exact va_up_ne _ _ (by decide)).trans hF6
      refine r_get S hK hP12 0 (by decide) hF13 (C := RX7) (T := TX7) (N := 15) hiX7 rfl 0 (by decide) (by decide +kernel) (v := .ref (ad 1)) rfl dX7_feed_48 ?_
      refine lv_dup S.1 S.2.1 dX7_feed_51 rfl ?_
      have hF14 := (show F12 1 = F 1 by rw [eF12]; exact va_up_ne _ _ (by decide)).trans hF7
      refine r_get S hK hP12 1 (by decide) hF14 (C := RX5) (T := TX5) (N := 6) hiX5 rfl 1 (by decide) (by decide +kernel) (v := .int (nI n7)) rfl dX7_feed_52 ?_
      refine lv_iconst (v := (nI 1)) S.1 S.2.1 dX7_feed_55 (by decide +kernel) ?_
      refine lv_iadd S.1 S.2.1 dX7_feed_56 ?_
      refine lv_topi (fun v15 e15 => ?_)
      obtain rfl : v15 = nI (n7 + 1) := e15.trans (nI_add _ _)
      refine r_put S hI hK hP12 hS12 1 (by decide) hF14 (C := RX5) (T := TX5) (N := 6) hiX5 tyX5_ok nmX5 rfl 1 (by decide) (by decide +kernel) rfl rfl rfl (Nat.le_of_ble_eq_true rfl) dX7_feed_57 (fun F16 H16 locs16 eF16 hP16 hS16 => ?_)
      have hF16 : F16 1 = .inr (5, [.ref (ad 2), .int (nI (n7 + 1)), .int f7, .int fa7, .int (nI a7), .int nu7]) := by rw [eF16]; exact va_up_self _ _ _
      have hW16 := hW12.up eF16 (ok_text ⟨n7 + 1, a7, f7, fa7, nu7, rfl, by omega, by omega⟩)
      have hFr16 := hFr12.up eF16 (by simp <;> first | omega | (simp only [isC, isJ] at *; omega))
      refine lv_aload_n S.1 S.2.1 dX7_feed_60 rfl (lv_at hl0 0 rfl) ?_
      have hF17 := (show F16 0 = F12 0 by rw [eF16]; exact va_up_ne _ _ (by decide)).trans hF13
      refine r_get S hK hP16 0 (by decide) hF17 (C := RX7) (T := TX7) (N := 15) hiX7 rfl 0 (by decide) (by decide +kernel) (v := .ref (ad 1)) rfl dX7_feed_61 ?_
      refine r_get S hK hP16 1 (by decide) hF16 (C := RX5) (T := TX5) (N := 6) hiX5 rfl 1 (by decide) (by decide +kernel) (v := .int (nI (n7 + 1))) rfl dX7_feed_64 ?_
      exact hret 67 _ _ _ _ _ dX7_feed_67 rfl hP16 hS16 ⟨hW16, hFr16, trivial⟩
    have k18 := ci_nlt (nI_toInt (n := n7) (by omega)) (nI_toInt (n := 240) (by omega)) c8
    refine lv_ldc (v := (-1000000004)) S.1 S.2.1 S.2.2.2.1 (S.2.2.2.2 (.constant RX7 84 (-1000000004)) (by decide +kernel)) dX7_feed_27 ?_
    exact hret 29 _ _ _ _ _ dX7_feed_29 rfl hP hS ⟨hW, hFr, trivial⟩
  have k19 := ci_nle rfl (nI_toInt (n := 255) (by omega)) c4
  refine lv_ldc (v := (-1000000002)) S.1 S.2.1 S.2.2.2.1 (S.2.2.2.2 (.constant RX7 79 (-1000000002)) (by decide +kernel)) dX7_feed_11 ?_
  exact hret 13 _ _ _ _ _ dX7_feed_13 rfl hP hS ⟨hW, hFr, trivial⟩
set_option maxHeartbeats 4000000 in
set_option maxRecDepth 100000 in
theorem c_X7_land (l : Launch) (D : va_G) (cA ad : Nat → Nat) (t : Nat) (hI : rI ad) (F : Nat → va_E) (hW : WT cA ad F) : MI l D cA ad t yX7_land wsX7_land { frames := 5, cells := 0, slots := 0, locals := 114 } [.ref (ad 0)] F (fun r F' => WT cA ad F' ∧ rFr [0, 1, 3, 4, 33, 43, 46, 47, 48, 49, 50, 51, 52, 53, 54, 55, 56, 57] F F' ∧ (True)) := by
  refine en_I rfl (by decide +kernel) (Nat.le_of_ble_eq_true rfl) ?_
  intro p e s m args below meth c ls0 Q S hK hZ hP hS hl0 hret
  have hl0 : lv_has ls0 3 [(0, .ref (ad 0))] := hl0
  have hFr : rFr [0, 1, 3, 4, 33, 43, 46, 47, 48, 49, 50, 51, 52, 53, 54, 55, 56, 57] F F := rFr.rf
  have hiX0 : ∀ w ∈ u_ws RX0 TX0 10, w ∈ wsX7_land := by decide +kernel
  have hiX2 : ∀ w ∈ u_ws RX2 TX2 2, w ∈ wsX7_land := by decide +kernel
  have hiX5 : ∀ w ∈ u_ws RX5 TX5 6, w ∈ wsX7_land := by decide +kernel
  have hiX6 : ∀ w ∈ u_ws RX6 TX6 6, w ∈ wsX7_land := by decide +kernel
  have hiX7 : ∀ w ∈ u_ws RX7 TX7 15, w ∈ wsX7_land := by decide +kernel
  refine lv_aload_n S.1 S.2.1 dX7_land_0 rfl (lv_at hl0 0 rfl) ?_
  obtain ⟨c1, d1, k1, dr1, hF1, hc1, hd1, hk1⟩ := wt_main hW
  refine r_get S hK hP 0 (by decide) hF1 (C := RX7) (T := TX7) (N := 15) hiX7 rfl 0 (by decide) (by decide +kernel) (v := .ref (ad 1)) rfl dX7_land_1 ?_
  refine lv_aload_n S.1 S.2.1 dX7_land_4 rfl (lv_at hl0 0 rfl) ?_
  refine r_get S hK hP 0 (by decide) hF1 (C := RX7) (T := TX7) (N := 15) hiX7 rfl 12 (by decide) (by decide +kernel) (v := .ref (ad d1)) rfl dX7_land_5 ?_
  obtain ⟨n3, a3, f3, fa3, nu3, hF3, hn3, ha3⟩ := wt_text hW
  refine r_cVv (As := [.ref (ad d1)]) (rest := []) S hK hZ hP hS hl0.1 1 (by decide) hF3 (C := RX5) rfl (c_X5_readInto l D cA ad t hI F hW d1 hd1) (cwV 1 S.2.2.2.2 gX7_land_X5_readInto rfl rfl rfl (by decide +kernel) ⟨Nat.le_of_ble_eq_true rfl, Nat.le_of_ble_eq_true rfl⟩) rfl rfl (Nat.le_of_ble_eq_true rfl) ⟨Nat.zero_le _, Nat.zero_le _⟩ dX7_land_8 (fun F2 H2 locs2 hr2 hP2 hS2 => ?_)
  obtain ⟨hW2, hFc2, hr2⟩ := hr2
  have hFr2 := hFr.tr hFc2 (by simp <;> first | omega | (simp only [isC, isJ] at *; omega))
  refine lv_aload_n S.1 S.2.1 dX7_land_11 rfl (lv_at hl0 0 rfl) ?_
  obtain ⟨c4, d4, k4, dr4, hF4, hc4, hd4, hk4⟩ := wt_main hW2
  refine r_get S hK hP2 0 (by decide) hF4 (C := RX7) (T := TX7) (N := 15) hiX7 rfl 0 (by decide) (by decide +kernel) (v := .ref (ad 1)) rfl dX7_land_12 ?_
  obtain ⟨n5, a5, f5, fa5, nu5, hF5, hn5, ha5⟩ := wt_text hW2
  refine r_get S hK hP2 1 (by decide) hF5 (C := RX5) (T := TX5) (N := 6) hiX5 rfl 2 (by decide) (by decide +kernel) (v := .int f5) rfl dX7_land_15 ?_
  refine lv_if_eq (tgt := 32) S.1 S.2.1 dX7_land_18 (by decide) (fun c6 => ?_) (fun c6 => ?_)
  · skip
    have k7 := ci_eq rfl z_ti c6
    refine lv_aload_n S.1 S.2.1 dX7_land_32 rfl (lv_at hl0 0 rfl) ?_
    refine r_get S hK hP2 0 (by decide) hF4 (C := RX7) (T := TX7) (N := 15) hiX7 rfl 12 (by decide) (by decide +kernel) (v := .ref (ad d4)) rfl dX7_land_33 ?_
    refine lv_astore_n (lv' := [(1, .ref (ad d4)), (0, .ref (ad 0))]) S.1 S.2.1 dX7_land_36 rfl hl0 (by decide) rfl (fun ls8 hl8 => ?_)
    refine lv_aload_n S.1 S.2.1 dX7_land_37 rfl (lv_at hl8 1 rfl) ?_
    refine lv_aload_n S.1 S.2.1 dX7_land_38 rfl (lv_at hl8 1 rfl) ?_
    refine r_get S hK hP2 0 (by decide) hF4 (C := RX7) (T := TX7) (N := 15) hiX7 rfl 11 (by decide) (by decide +kernel) (v := .ref (ad c4)) rfl dX7_land_39 ?_
    refine r_put S hI hK hP2 hS2 0 (by decide) hF4 (C := RX7) (T := TX7) (N := 15) hiX7 tyX7_ok nmX7 rfl 12 (by decide) (by decide +kernel) rfl rfl rfl (Nat.le_of_ble_eq_true rfl) dX7_land_42 (fun F9 H9 locs9 eF9 hP9 hS9 => ?_)
    have hF9 : F9 0 = .inr (7, [.ref (ad 1), .ref (ad 3), .ref (ad 4), .ref (ad 26), .ref (ad 30), .ref (ad 33), .ref (ad 39), .ref (ad 42), .ref (ad 43), .ref (ad 44), .ref (ad 45), .ref (ad c4), .ref (ad c4), .int (nI k4), .int dr4]) := by rw [eF9]; exact va_up_self _ _ _
    have hW9 := hW2.up eF9 (ok_main ⟨c4, c4, k4, dr4, rfl, hc4, hc4, by omega⟩)
    have hFr9 := hFr2.up eF9 (by simp <;> first | omega | (simp only [isC, isJ] at *; omega))
    refine lv_aload_n S.1 S.2.1 dX7_land_45 rfl (lv_at hl8 1 rfl) ?_
    refine lv_aload_n S.1 S.2.1 dX7_land_46 rfl (lv_at hl8 0 rfl) ?_
    refine r_put S hI hK hP9 hS9 0 (by decide) hF9 (C := RX7) (T := TX7) (N := 15) hiX7 tyX7_ok nmX7 rfl 11 (by decide) (by decide +kernel) rfl rfl rfl (Nat.le_of_ble_eq_true rfl) dX7_land_47 (fun F10 H10 locs10 eF10 hP10 hS10 => ?_)
    have hF10 : F10 0 = .inr (7, [.ref (ad 1), .ref (ad 3), .ref (ad 4), .ref (ad 26), .ref (ad 30), .ref (ad 33), .ref (ad 39), .ref (ad 42), .ref (ad 43), .ref (ad 44), .ref (ad 45), .ref (ad d4), .ref (ad c4), .int (nI k4), .int dr4]) := by rw [eF10]; exact va_up_self _ _ _
    have hW10 := hW9.up eF10 (ok_main ⟨d4, c4, k4, dr4, rfl, hd4, hc4, by omega⟩)
    have hFr10 := hFr9.up eF10 (by simp <;> first | omega | (simp only [isC, isJ] at *; omega))
    refine lv_aload_n S.1 S.2.1 dX7_land_50 rfl (lv_at hl8 1 rfl) ?_
    refine r_get S hK hP10 0 (by decide) hF10 (C := RX7) (T := TX7) (N := 15) hiX7 rfl 1 (by decide) (by decide +kernel) (v := .ref (ad 3)) rfl dX7_land_51 ?_
    obtain ⟨ja12, jb12, jc12, jd12, jx12, jy12, jk12, hF12, hk12⟩ := wt_J hW10 (show isJ 3 from Or.inl rfl)
    refine r_cVv (As := []) (rest := []) S hK hZ hP10 hS10 hl8.1 3 (by decide) hF12 (C := RX1) rfl (c_X1_clear l D cA ad t hI F10 hW10 3 (show isJ 3 from Or.inl rfl)) (cwV 0 S.2.2.2.2 gX7_land_X1_clear rfl rfl rfl (by decide +kernel) ⟨Nat.le_of_ble_eq_true rfl, Nat.le_of_ble_eq_true rfl⟩) rfl rfl (Nat.le_of_ble_eq_true rfl) ⟨Nat.zero_le _, Nat.zero_le _⟩ dX7_land_54 (fun F11 H11 locs11 hr11 hP11 hS11 => ?_)
    obtain ⟨hW11, hFc11, hr11⟩ := hr11
    have hFr11 := hFr10.tr hFc11 (by simp <;> first | omega | (simp only [isC, isJ] at *; omega))
    refine lv_aload_n S.1 S.2.1 dX7_land_57 rfl (lv_at hl8 1 rfl) ?_
    have hF13 := (hFc11 0 (by decide)).trans hF10
    refine r_get S hK hP11 0 (by decide) hF13 (C := RX7) (T := TX7) (N := 15) hiX7 rfl 2 (by decide) (by decide +kernel) (v := .ref (ad 4)) rfl dX7_land_58 ?_
    refine lv_iconst (v := (nI 0)) S.1 S.2.1 dX7_land_61 (by decide +kernel) ?_
    obtain ⟨k14, hF14, hk14⟩ := wt_past hW11
    refine r_put S hI hK hP11 hS11 4 (by decide) hF14 (C := RX2) (T := TX2) (N := 2) hiX2 tyX2_ok nmX2 rfl 1 (by decide) (by decide +kernel) rfl rfl rfl (Nat.le_of_ble_eq_true rfl) dX7_land_62 (fun F15 H15 locs15 eF15 hP15 hS15 => ?_)
    have hF15 : F15 4 = .inr (2, [.ref (ad 5), .int (nI 0)]) := by rw [eF15]; exact va_up_self _ _ _
    have hW15 := hW11.up eF15 (ok_past ⟨0, rfl, by omega⟩)
    have hFr15 := hFr11.up eF15 (by simp <;> first | omega | (simp only [isC, isJ] at *; omega))
    refine lv_aload_n S.1 S.2.1 dX7_land_65 rfl (lv_at hl8 1 rfl) ?_
    have hF16 := (show F15 0 = F11 0 by rw [eF15]; exact va_up_ne _ _ (by decide)).trans hF13
    refine r_get S hK hP15 0 (by decide) hF16 (C := RX7) (T := TX7) (N := 15) hiX7 rfl 5 (by decide) (by decide +kernel) (v := .ref (ad 33)) rfl dX7_land_66 ?_
    refine lv_iconst (v := (nI 0)) S.1 S.2.1 dX7_land_69 (by decide +kernel) ?_
    obtain ⟨k17, hF17, hk17⟩ := wt_ways hW15
    refine r_put S hI hK hP15 hS15 33 (by decide) hF17 (C := RX6) (T := TX6) (N := 6) hiX6 tyX6_ok nmX6 rfl 0 (by decide) (by decide +kernel) rfl rfl rfl (Nat.le_of_ble_eq_true rfl) dX7_land_70 (fun F18 H18 locs18 eF18 hP18 hS18 => ?_)
    have hF18 : F18 33 = .inr (6, [.int (nI 0), .ref (ad 34), .ref (ad 35), .ref (ad 36), .ref (ad 37), .ref (ad 38)]) := by rw [eF18]; exact va_up_self _ _ _
    have hW18 := hW15.up eF18 (ok_ways ⟨0, rfl, by omega⟩)
    have hFr18 := hFr15.up eF18 (by simp <;> first | omega | (simp only [isC, isJ] at *; omega))
    refine lv_aload_n S.1 S.2.1 dX7_land_73 rfl (lv_at hl8 1 rfl) ?_
    refine lv_iconst (v := (nI 0)) S.1 S.2.1 dX7_land_74 (by decide +kernel) ?_
    have hF19 := (show F18 0 = F15 0 by rw [eF18]; exact va_up_ne _ _ (by decide)).trans hF16
    refine r_put S hI hK hP18 hS18 0 (by decide) hF19 (C := RX7) (T := TX7) (N := 15) hiX7 tyX7_ok nmX7 rfl 13 (by decide) (by decide +kernel) rfl rfl rfl (Nat.le_of_ble_eq_true rfl) dX7_land_75 (fun F20 H20 locs20 eF20 hP20 hS20 => ?_)
    have hF20 : F20 0 = .inr (7, [.ref (ad 1), .ref (ad 3), .ref (ad 4), .ref (ad 26), .ref (ad 30), .ref (ad 33), .ref (ad 39), .ref (ad 42), .ref (ad 43), .ref (ad 44), .ref (ad 45), .ref (ad d4), .ref (ad c4), .int (nI 0), .int dr4]) := by rw [eF20]; exact va_up_self _ _ _
    have hW20 := hW18.up eF20 (ok_main ⟨d4, c4, 0, dr4, rfl, hd4, hc4, by omega⟩)
    have hFr20 := hFr18.up eF20 (by simp <;> first | omega | (simp only [isC, isJ] at *; omega))
    refine lv_iconst (v := (nI 0)) S.1 S.2.1 dX7_land_78 (by decide +kernel) ?_
    refine lv_istore_n (lv' := [(2, .int (nI 0)), (1, .ref (ad d4)), (0, .ref (ad 0))]) S.1 S.2.1 dX7_land_79 rfl hl8 (by decide) rfl (fun ls21 hl21 => ?_)
    have lp22 : ∀ (n22 : Nat) (q222 : Nat), ∀ (Fl22 : Nat → va_E) (Hl22 : Heap) (lol22 : List Loc), q222 ≤ 2 → 2 - q222 < n22 → WT cA ad Fl22 → rFr [0, 1, 3, 4, 33, 43, 46, 47, 48, 49, 50, 51, 52, 53, 54, 55, 56, 57] F Fl22 → va_P D vwCl (rW ad Fl22) Hl22 → va_S (rA ad) s.heap Hl22 lol22 → ∀ (ls : Array Slot), lv_has ls 3 [(2, .int (nI q222)), (1, .ref (ad d4)), (0, .ref (ad 0))] → W p l e { frames := 5, cells := 0, slots := 0, locals := 114 } s m args below meth c Hl22 lol22 0 0 Q (F0 m 80 ls []) := by
      intro n22
      induction n22 with
      | zero =>
        intro q222 Fl22 Hl22 lol22 iv22_0 hm22 hWl22 hFl22 hPl22 hSl22 ls22 hl22
        exact absurd hm22 (Nat.not_lt_zero _)
      | succ n22 ih22 =>
        intro q222 Fl22 Hl22 lol22 iv22_0 hm22 hWl22 hFl22 hPl22 hSl22 ls22 hl22
        refine lv_iload_n S.1 S.2.1 dX7_land_80 rfl (lv_at hl22 0 rfl) ?_
        refine lv_iconst (v := (nI 2)) S.1 S.2.1 dX7_land_81 (by decide +kernel) ?_
        refine lv_icmp_ge (tgt := 98) S.1 S.2.1 dX7_land_82 (by decide) (fun c23 => ?_) (fun c23 => ?_)
        · skip
          have k24 := ci_le (nI_toInt (n := 2) (by omega)) (nI_toInt (n := q222) (by omega)) c23
          refine lv_aload_n S.1 S.2.1 dX7_land_98 rfl (lv_at hl22 2 rfl) ?_
          obtain ⟨c25, d25, k25, dr25, hF25, hc25, hd25, hk25⟩ := wt_main hWl22
          refine r_get S hK hPl22 0 (by decide) hF25 (C := RX7) (T := TX7) (N := 15) hiX7 rfl 11 (by decide) (by decide +kernel) (v := .ref (ad c25)) rfl dX7_land_99 ?_
          obtain ⟨sl26, fm26, tn26, rn26, bn26, hF26, hb26_1, hb26_2, hb26_3⟩ := wt_C hWl22 hc25
          refine r_get S hK hPl22 c25 (lt_C hc25) hF26 (C := RX0) (T := TX0) (N := 10) hiX0 rfl 2 (by decide) (by decide +kernel) (v := .int (nI tn26)) rfl dX7_land_102 ?_
          exact hret 105 _ _ _ _ _ dX7_land_105 rfl hPl22 hSl22 ⟨hWl22, hFl22, trivial⟩
        have k27 := ci_nle (nI_toInt (n := 2) (by omega)) (nI_toInt (n := q222) (by omega)) c23
        refine lv_aload_n S.1 S.2.1 dX7_land_85 rfl (lv_at hl22 2 rfl) ?_
        obtain ⟨c28, d28, k28, dr28, hF28, hc28, hd28, hk28⟩ := wt_main hWl22
        refine r_get S hK hPl22 0 (by decide) hF28 (C := RX7) (T := TX7) (N := 15) hiX7 rfl 8 (by decide) (by decide +kernel) (v := .ref (ad 43)) rfl dX7_land_86 ?_
        refine lv_iload_n S.1 S.2.1 dX7_land_89 rfl (lv_at hl22 0 rfl) ?_
        refine lv_iconst (v := (nI 0)) S.1 S.2.1 dX7_land_90 (by decide +kernel) ?_
        obtain ⟨g29, hF29⟩ := wt_Z hWl22 (show (43, 2) ∈ rLZ by decide)
        refine r_zast S hI hK hPl22 hSl22 43 (by decide) hF29 (vp_in_nI (show q222 < 2 by omega) (by omega)) dX7_land_91 (fun F30 H30 locs30 eF30 hP30 hS30 => ?_)
        have hW30 := hWl22.up eF30 (ok_Z (show (43, 2) ∈ rLZ by decide) ⟨_, rfl⟩)
        have hFr30 := hFl22.up eF30 (by simp <;> first | omega | (simp only [isC, isJ] at *; omega))
        refine lv_iinc (v := (nI (q222 + 1))) (lv' := [(2, .int (nI (q222 + 1))), (1, .ref (ad d4)), (0, .ref (ad 0))]) S.1 S.2.1 dX7_land_92 hl22 (k := 0) rfl (nI_add _ 1) (by decide) rfl (fun ls31 hl31 => ?_)
        refine lv_goto (tgt := 80) S.1 S.2.1 dX7_land_95 (by decide) ?_
        exact ih22 (q222 + 1) F30 H30 locs30 (by omega) (by omega) hW30 hFr30 hP30 hS30 ls31 (lv_sub hl31 [0, 1, 2] rfl)
    exact lp22 (2 - (0) + 1) (0) F20 H20 locs20 (by omega) (by omega) hW20 hFr20 hP20 hS20 ls21 (lv_sub hl21 [0, 1, 2] rfl)
  have k32 := ci_ne rfl z_ti c6
  refine lv_bipush (v := (-10)) S.1 S.2.1 dX7_land_21 (by decide +kernel) ?_
  refine lv_aload_n S.1 S.2.1 dX7_land_23 rfl (lv_at hl0 0 rfl) ?_
  refine r_get S hK hP2 0 (by decide) hF4 (C := RX7) (T := TX7) (N := 15) hiX7 rfl 0 (by decide) (by decide +kernel) (v := .ref (ad 1)) rfl dX7_land_24 ?_
  refine r_get S hK hP2 1 (by decide) hF5 (C := RX5) (T := TX5) (N := 6) hiX5 rfl 2 (by decide) (by decide +kernel) (v := .int f5) rfl dX7_land_27 ?_
  refine lv_isub S.1 S.2.1 dX7_land_30 ?_
  refine lv_topi (fun v33 e33 => ?_)
  exact hret 31 _ _ _ _ _ dX7_land_31 rfl hP2 hS2 ⟨hW2, hFr2, trivial⟩
set_option maxHeartbeats 4000000 in
set_option maxRecDepth 100000 in
theorem c_X7_fault (l : Launch) (D : va_G) (cA ad : Nat → Nat) (t : Nat) (hI : rI ad) (F : Nat → va_E) (hW : WT cA ad F) : MP l D cA ad t yX7_fault wsX7_fault { frames := 0, cells := 0, slots := 0, locals := 0 } [.ref (ad 0)] F (fun r => True) := by
  refine en_P rfl (by decide +kernel) (Nat.le_of_ble_eq_true rfl) ?_
  intro p e s m args below meth c ls0 Q S hK hZ hP hS hl0 hret
  have hl0 : lv_has ls0 1 [(0, .ref (ad 0))] := hl0
  have hiX5 : ∀ w ∈ u_ws RX5 TX5 6, w ∈ wsX7_fault := by decide +kernel
  have hiX7 : ∀ w ∈ u_ws RX7 TX7 15, w ∈ wsX7_fault := by decide +kernel
  refine lv_aload_n S.1 S.2.1 dX7_fault_0 rfl (lv_at hl0 0 rfl) ?_
  obtain ⟨c1, d1, k1, dr1, hF1, hc1, hd1, hk1⟩ := wt_main hW
  refine r_get S hK hP 0 (by decide) hF1 (C := RX7) (T := TX7) (N := 15) hiX7 rfl 0 (by decide) (by decide +kernel) (v := .ref (ad 1)) rfl dX7_fault_1 ?_
  obtain ⟨n2, a2, f2, fa2, nu2, hF2, hn2, ha2⟩ := wt_text hW
  refine r_get S hK hP 1 (by decide) hF2 (C := RX5) (T := TX5) (N := 6) hiX5 rfl 3 (by decide) (by decide +kernel) (v := .int fa2) rfl dX7_fault_4 ?_
  exact hret 7 _ _ dX7_fault_7 rfl (trivial)
set_option maxHeartbeats 4000000 in
set_option maxRecDepth 100000 in
theorem c_X7_told (l : Launch) (D : va_G) (cA ad : Nat → Nat) (t : Nat) (hI : rI ad) (F : Nat → va_E) (hW : WT cA ad F) (p1 : Int32) : MP l D cA ad t yX7_told wsX7_told { frames := 0, cells := 0, slots := 0, locals := 0 } [.ref (ad 0), .int p1] F (fun r => True) := by
  refine en_P rfl (by decide +kernel) (Nat.le_of_ble_eq_true rfl) ?_
  intro p e s m args below meth c ls0 Q S hK hZ hP hS hl0 hret
  have hl0 : lv_has ls0 2 [(0, .ref (ad 0)), (1, .int p1)] := hl0
  have hiX0 : ∀ w ∈ u_ws RX0 TX0 10, w ∈ wsX7_told := by decide +kernel
  have hiX1 : ∀ w ∈ u_ws RX1 TX1 7, w ∈ wsX7_told := by decide +kernel
  have hiX2 : ∀ w ∈ u_ws RX2 TX2 2, w ∈ wsX7_told := by decide +kernel
  have hiX5 : ∀ w ∈ u_ws RX5 TX5 6, w ∈ wsX7_told := by decide +kernel
  have hiX6 : ∀ w ∈ u_ws RX6 TX6 6, w ∈ wsX7_told := by decide +kernel
  have hiX7 : ∀ w ∈ u_ws RX7 TX7 15, w ∈ wsX7_told := by decide +kernel
  refine lv_iload_n S.1 S.2.1 dX7_told_0 rfl (lv_at hl0 1 rfl) ?_
  by_cases hs1_0 : p1.toInt = 0
  · refine lv_tableIn (off := 75) (tgt := 76) S.1 S.2.1 dX7_told_1 (by omega) (by omega) (by rw [hs1_0]; rfl) (by decide) ?_
    refine lv_aload_n S.1 S.2.1 dX7_told_76 rfl (lv_at hl0 0 rfl) ?_
    obtain ⟨c2, d2, k2, dr2, hF2, hc2, hd2, hk2⟩ := wt_main hW
    refine r_get S hK hP 0 (by decide) hF2 (C := RX7) (T := TX7) (N := 15) hiX7 rfl 11 (by decide) (by decide +kernel) (v := .ref (ad c2)) rfl dX7_told_77 ?_
    obtain ⟨sl3, fm3, tn3, rn3, bn3, hF3, hb3_1, hb3_2, hb3_3⟩ := wt_C hW hc2
    refine r_get S hK hP c2 (lt_C hc2) hF3 (C := RX0) (T := TX0) (N := 10) hiX0 rfl 0 (by decide) (by decide +kernel) (v := .int (nI sl3)) rfl dX7_told_80 ?_
    exact hret 83 _ _ dX7_told_83 rfl (trivial)
  by_cases hs1_1 : p1.toInt = 1
  · refine lv_tableIn (off := 83) (tgt := 84) S.1 S.2.1 dX7_told_1 (by omega) (by omega) (by rw [hs1_1]; rfl) (by decide) ?_
    refine lv_aload_n S.1 S.2.1 dX7_told_84 rfl (lv_at hl0 0 rfl) ?_
    obtain ⟨c4, d4, k4, dr4, hF4, hc4, hd4, hk4⟩ := wt_main hW
    refine r_get S hK hP 0 (by decide) hF4 (C := RX7) (T := TX7) (N := 15) hiX7 rfl 11 (by decide) (by decide +kernel) (v := .ref (ad c4)) rfl dX7_told_85 ?_
    obtain ⟨sl5, fm5, tn5, rn5, bn5, hF5, hb5_1, hb5_2, hb5_3⟩ := wt_C hW hc4
    refine r_get S hK hP c4 (lt_C hc4) hF5 (C := RX0) (T := TX0) (N := 10) hiX0 rfl 1 (by decide) (by decide +kernel) (v := .int fm5) rfl dX7_told_88 ?_
    exact hret 91 _ _ dX7_told_91 rfl (trivial)
  by_cases hs1_2 : p1.toInt = 2
  · refine lv_tableIn (off := 91) (tgt := 92) S.1 S.2.1 dX7_told_1 (by omega) (by omega) (by rw [hs1_2]; rfl) (by decide) ?_
    refine lv_aload_n S.1 S.2.1 dX7_told_92 rfl (lv_at hl0 0 rfl) ?_
    obtain ⟨c6, d6, k6, dr6, hF6, hc6, hd6, hk6⟩ := wt_main hW
    refine r_get S hK hP 0 (by decide) hF6 (C := RX7) (T := TX7) (N := 15) hiX7 rfl 11 (by decide) (by decide +kernel) (v := .ref (ad c6)) rfl dX7_told_93 ?_
    obtain ⟨sl7, fm7, tn7, rn7, bn7, hF7, hb7_1, hb7_2, hb7_3⟩ := wt_C hW hc6
    refine r_get S hK hP c6 (lt_C hc6) hF7 (C := RX0) (T := TX0) (N := 10) hiX0 rfl 2 (by decide) (by decide +kernel) (v := .int (nI tn7)) rfl dX7_told_96 ?_
    exact hret 99 _ _ dX7_told_99 rfl (trivial)
  by_cases hs1_3 : p1.toInt = 3
  · refine lv_tableIn (off := 99) (tgt := 100) S.1 S.2.1 dX7_told_1 (by omega) (by omega) (by rw [hs1_3]; rfl) (by decide) ?_
    refine lv_aload_n S.1 S.2.1 dX7_told_100 rfl (lv_at hl0 0 rfl) ?_
    obtain ⟨c8, d8, k8, dr8, hF8, hc8, hd8, hk8⟩ := wt_main hW
    refine r_get S hK hP 0 (by decide) hF8 (C := RX7) (T := TX7) (N := 15) hiX7 rfl 11 (by decide) (by decide +kernel) (v := .ref (ad c8)) rfl dX7_told_101 ?_
    obtain ⟨sl9, fm9, tn9, rn9, bn9, hF9, hb9_1, hb9_2, hb9_3⟩ := wt_C hW hc8
    refine r_get S hK hP c8 (lt_C hc8) hF9 (C := RX0) (T := TX0) (N := 10) hiX0 rfl 3 (by decide) (by decide +kernel) (v := .int (nI rn9)) rfl dX7_told_104 ?_
    exact hret 107 _ _ dX7_told_107 rfl (trivial)
  by_cases hs1_4 : p1.toInt = 4
  · refine lv_tableIn (off := 107) (tgt := 108) S.1 S.2.1 dX7_told_1 (by omega) (by omega) (by rw [hs1_4]; rfl) (by decide) ?_
    refine lv_aload_n S.1 S.2.1 dX7_told_108 rfl (lv_at hl0 0 rfl) ?_
    obtain ⟨c10, d10, k10, dr10, hF10, hc10, hd10, hk10⟩ := wt_main hW
    refine r_get S hK hP 0 (by decide) hF10 (C := RX7) (T := TX7) (N := 15) hiX7 rfl 0 (by decide) (by decide +kernel) (v := .ref (ad 1)) rfl dX7_told_109 ?_
    obtain ⟨n11, a11, f11, fa11, nu11, hF11, hn11, ha11⟩ := wt_text hW
    refine r_get S hK hP 1 (by decide) hF11 (C := RX5) (T := TX5) (N := 6) hiX5 rfl 1 (by decide) (by decide +kernel) (v := .int (nI n11)) rfl dX7_told_112 ?_
    exact hret 115 _ _ dX7_told_115 rfl (trivial)
  by_cases hs1_5 : p1.toInt = 5
  · refine lv_tableIn (off := 115) (tgt := 116) S.1 S.2.1 dX7_told_1 (by omega) (by omega) (by rw [hs1_5]; rfl) (by decide) ?_
    refine lv_aload_n S.1 S.2.1 dX7_told_116 rfl (lv_at hl0 0 rfl) ?_
    obtain ⟨c12, d12, k12, dr12, hF12, hc12, hd12, hk12⟩ := wt_main hW
    refine r_get S hK hP 0 (by decide) hF12 (C := RX7) (T := TX7) (N := 15) hiX7 rfl 1 (by decide) (by decide +kernel) (v := .ref (ad 3)) rfl dX7_told_117 ?_
    obtain ⟨ja13, jb13, jc13, jd13, jx13, jy13, jk13, hF13, hk13⟩ := wt_J hW (show isJ 3 from Or.inl rfl)
    refine r_get S hK hP 3 (by decide) hF13 (C := RX1) (T := TX1) (N := 7) hiX1 rfl 1 (by decide) (by decide +kernel) (v := .int jb13) rfl dX7_told_120 ?_
    exact hret 123 _ _ dX7_told_123 rfl (trivial)
  by_cases hs1_6 : p1.toInt = 6
  · refine lv_tableIn (off := 123) (tgt := 124) S.1 S.2.1 dX7_told_1 (by omega) (by omega) (by rw [hs1_6]; rfl) (by decide) ?_
    refine lv_aload_n S.1 S.2.1 dX7_told_124 rfl (lv_at hl0 0 rfl) ?_
    obtain ⟨c14, d14, k14, dr14, hF14, hc14, hd14, hk14⟩ := wt_main hW
    refine r_get S hK hP 0 (by decide) hF14 (C := RX7) (T := TX7) (N := 15) hiX7 rfl 1 (by decide) (by decide +kernel) (v := .ref (ad 3)) rfl dX7_told_125 ?_
    obtain ⟨ja15, jb15, jc15, jd15, jx15, jy15, jk15, hF15, hk15⟩ := wt_J hW (show isJ 3 from Or.inl rfl)
    refine r_get S hK hP 3 (by decide) hF15 (C := RX1) (T := TX1) (N := 7) hiX1 rfl 0 (by decide) (by decide +kernel) (v := .int ja15) rfl dX7_told_128 ?_
    exact hret 131 _ _ dX7_told_131 rfl (trivial)
  by_cases hs1_7 : p1.toInt = 7
  · refine lv_tableIn (off := 131) (tgt := 132) S.1 S.2.1 dX7_told_1 (by omega) (by omega) (by rw [hs1_7]; rfl) (by decide) ?_
    refine lv_aload_n S.1 S.2.1 dX7_told_132 rfl (lv_at hl0 0 rfl) ?_
    obtain ⟨c16, d16, k16, dr16, hF16, hc16, hd16, hk16⟩ := wt_main hW
    refine r_get S hK hP 0 (by decide) hF16 (C := RX7) (T := TX7) (N := 15) hiX7 rfl 1 (by decide) (by decide +kernel) (v := .ref (ad 3)) rfl dX7_told_133 ?_
    obtain ⟨ja17, jb17, jc17, jd17, jx17, jy17, jk17, hF17, hk17⟩ := wt_J hW (show isJ 3 from Or.inl rfl)
    refine r_get S hK hP 3 (by decide) hF17 (C := RX1) (T := TX1) (N := 7) hiX1 rfl 2 (by decide) (by decide +kernel) (v := .int jc17) rfl dX7_told_136 ?_
    exact hret 139 _ _ dX7_told_139 rfl (trivial)
  by_cases hs1_8 : p1.toInt = 8
  · refine lv_tableIn (off := 139) (tgt := 140) S.1 S.2.1 dX7_told_1 (by omega) (by omega) (by rw [hs1_8]; rfl) (by decide) ?_
    refine lv_aload_n S.1 S.2.1 dX7_told_140 rfl (lv_at hl0 0 rfl) ?_
    obtain ⟨c18, d18, k18, dr18, hF18, hc18, hd18, hk18⟩ := wt_main hW
    refine r_get S hK hP 0 (by decide) hF18 (C := RX7) (T := TX7) (N := 15) hiX7 rfl 1 (by decide) (by decide +kernel) (v := .ref (ad 3)) rfl dX7_told_141 ?_
    obtain ⟨ja19, jb19, jc19, jd19, jx19, jy19, jk19, hF19, hk19⟩ := wt_J hW (show isJ 3 from Or.inl rfl)
    refine r_get S hK hP 3 (by decide) hF19 (C := RX1) (T := TX1) (N := 7) hiX1 rfl 3 (by decide) (by decide +kernel) (v := .int jd19) rfl dX7_told_144 ?_
    exact hret 147 _ _ dX7_told_147 rfl (trivial)
  by_cases hs1_9 : p1.toInt = 9
  · refine lv_tableIn (off := 147) (tgt := 148) S.1 S.2.1 dX7_told_1 (by omega) (by omega) (by rw [hs1_9]; rfl) (by decide) ?_
    refine lv_aload_n S.1 S.2.1 dX7_told_148 rfl (lv_at hl0 0 rfl) ?_
    obtain ⟨c20, d20, k20, dr20, hF20, hc20, hd20, hk20⟩ := wt_main hW
    refine r_get S hK hP 0 (by decide) hF20 (C := RX7) (T := TX7) (N := 15) hiX7 rfl 1 (by decide) (by decide +kernel) (v := .ref (ad 3)) rfl dX7_told_149 ?_
    obtain ⟨ja21, jb21, jc21, jd21, jx21, jy21, jk21, hF21, hk21⟩ := wt_J hW (show isJ 3 from Or.inl rfl)
    refine r_get S hK hP 3 (by decide) hF21 (C := RX1) (T := TX1) (N := 7) hiX1 rfl 4 (by decide) (by decide +kernel) (v := .int jx21) rfl dX7_told_152 ?_
    exact hret 155 _ _ dX7_told_155 rfl (trivial)
  by_cases hs1_10 : p1.toInt = 10
  · refine lv_tableIn (off := 155) (tgt := 156) S.1 S.2.1 dX7_told_1 (by omega) (by omega) (by rw [hs1_10]; rfl) (by decide) ?_
    refine lv_aload_n S.1 S.2.1 dX7_told_156 rfl (lv_at hl0 0 rfl) ?_
    obtain ⟨c22, d22, k22, dr22, hF22, hc22, hd22, hk22⟩ := wt_main hW
    refine r_get S hK hP 0 (by decide) hF22 (C := RX7) (T := TX7) (N := 15) hiX7 rfl 1 (by decide) (by decide +kernel) (v := .ref (ad 3)) rfl dX7_told_157 ?_
    obtain ⟨ja23, jb23, jc23, jd23, jx23, jy23, jk23, hF23, hk23⟩ := wt_J hW (show isJ 3 from Or.inl rfl)
    refine r_get S hK hP 3 (by decide) hF23 (C := RX1) (T := TX1) (N := 7) hiX1 rfl 5 (by decide) (by decide +kernel) (v := .int jy23) rfl dX7_told_160 ?_
    exact hret 163 _ _ dX7_told_163 rfl (trivial)
  by_cases hs1_11 : p1.toInt = 11
  · refine lv_tableIn (off := 163) (tgt := 164) S.1 S.2.1 dX7_told_1 (by omega) (by omega) (by rw [hs1_11]; rfl) (by decide) ?_
    refine lv_aload_n S.1 S.2.1 dX7_told_164 rfl (lv_at hl0 0 rfl) ?_
    obtain ⟨c24, d24, k24, dr24, hF24, hc24, hd24, hk24⟩ := wt_main hW
    refine r_get S hK hP 0 (by decide) hF24 (C := RX7) (T := TX7) (N := 15) hiX7 rfl 1 (by decide) (by decide +kernel) (v := .ref (ad 3)) rfl dX7_told_165 ?_
    obtain ⟨ja25, jb25, jc25, jd25, jx25, jy25, jk25, hF25, hk25⟩ := wt_J hW (show isJ 3 from Or.inl rfl)
    refine r_get S hK hP 3 (by decide) hF25 (C := RX1) (T := TX1) (N := 7) hiX1 rfl 6 (by decide) (by decide +kernel) (v := .int (nI jk25)) rfl dX7_told_168 ?_
    refine lv_if_eq (tgt := 178) S.1 S.2.1 dX7_told_171 (by decide) (fun c26 => ?_) (fun c26 => ?_)
    · skip
      have k27 := ci_eq (nI_toInt (n := jk25) (by omega)) z_ti c26
      refine lv_iconst (v := (nI 0)) S.1 S.2.1 dX7_told_178 (by decide +kernel) ?_
      exact hret 179 _ _ dX7_told_179 rfl (trivial)
    have k28 := ci_ne (nI_toInt (n := jk25) (by omega)) z_ti c26
    refine lv_iconst (v := (nI 1)) S.1 S.2.1 dX7_told_174 (by decide +kernel) ?_
    refine lv_goto (tgt := 179) S.1 S.2.1 dX7_told_175 (by decide) ?_
    exact hret 179 _ _ dX7_told_179 rfl (trivial)
  by_cases hs1_12 : p1.toInt = 12
  · refine lv_tableIn (off := 179) (tgt := 180) S.1 S.2.1 dX7_told_1 (by omega) (by omega) (by rw [hs1_12]; rfl) (by decide) ?_
    refine lv_aload_n S.1 S.2.1 dX7_told_180 rfl (lv_at hl0 0 rfl) ?_
    obtain ⟨c29, d29, k29, dr29, hF29, hc29, hd29, hk29⟩ := wt_main hW
    refine r_get S hK hP 0 (by decide) hF29 (C := RX7) (T := TX7) (N := 15) hiX7 rfl 5 (by decide) (by decide +kernel) (v := .ref (ad 33)) rfl dX7_told_181 ?_
    obtain ⟨k30, hF30, hk30⟩ := wt_ways hW
    refine r_get S hK hP 33 (by decide) hF30 (C := RX6) (T := TX6) (N := 6) hiX6 rfl 0 (by decide) (by decide +kernel) (v := .int (nI k30)) rfl dX7_told_184 ?_
    exact hret 187 _ _ dX7_told_187 rfl (trivial)
  by_cases hs1_13 : p1.toInt = 13
  · refine lv_tableIn (off := 187) (tgt := 188) S.1 S.2.1 dX7_told_1 (by omega) (by omega) (by rw [hs1_13]; rfl) (by decide) ?_
    refine lv_aload_n S.1 S.2.1 dX7_told_188 rfl (lv_at hl0 0 rfl) ?_
    obtain ⟨c31, d31, k31, dr31, hF31, hc31, hd31, hk31⟩ := wt_main hW
    refine r_get S hK hP 0 (by decide) hF31 (C := RX7) (T := TX7) (N := 15) hiX7 rfl 13 (by decide) (by decide +kernel) (v := .int (nI k31)) rfl dX7_told_189 ?_
    exact hret 192 _ _ dX7_told_192 rfl (trivial)
  by_cases hs1_14 : p1.toInt = 14
  · refine lv_tableIn (off := 192) (tgt := 193) S.1 S.2.1 dX7_told_1 (by omega) (by omega) (by rw [hs1_14]; rfl) (by decide) ?_
    refine lv_aload_n S.1 S.2.1 dX7_told_193 rfl (lv_at hl0 0 rfl) ?_
    obtain ⟨c32, d32, k32, dr32, hF32, hc32, hd32, hk32⟩ := wt_main hW
    refine r_get S hK hP 0 (by decide) hF32 (C := RX7) (T := TX7) (N := 15) hiX7 rfl 2 (by decide) (by decide +kernel) (v := .ref (ad 4)) rfl dX7_told_194 ?_
    obtain ⟨k33, hF33, hk33⟩ := wt_past hW
    refine r_get S hK hP 4 (by decide) hF33 (C := RX2) (T := TX2) (N := 2) hiX2 rfl 1 (by decide) (by decide +kernel) (v := .int (nI k33)) rfl dX7_told_197 ?_
    exact hret 200 _ _ dX7_told_200 rfl (trivial)
  refine lv_tableOut (tgt := 201) S.1 S.2.1 dX7_told_1 (by omega) (by decide) ?_
  refine lv_ldc (v := (-1000000002)) S.1 S.2.1 S.2.2.2.1 (S.2.2.2.2 (.constant RX7 79 (-1000000002)) (by decide +kernel)) dX7_told_201 ?_
  exact hret 203 _ _ dX7_told_203 rfl (trivial)
set_option maxHeartbeats 4000000 in
set_option maxRecDepth 100000 in
theorem c_X7_town (l : Launch) (D : va_G) (cA ad : Nat → Nat) (t : Nat) (hI : rI ad) (F : Nat → va_E) (hW : WT cA ad F) (p1 : Int32) (p2 : Int32) : MP l D cA ad t yX7_town wsX7_town { frames := 1, cells := 0, slots := 0, locals := 24 } [.ref (ad 0), .int p1, .int p2] F (fun r => True) := by
  refine en_P rfl (by decide +kernel) (Nat.le_of_ble_eq_true rfl) ?_
  intro p e s m args below meth c ls0 Q S hK hZ hP hS hl0 hret
  have hl0 : lv_has ls0 3 [(0, .ref (ad 0)), (1, .int p1), (2, .int p2)] := hl0
  have hiX0 : ∀ w ∈ u_ws RX0 TX0 10, w ∈ wsX7_town := by decide +kernel
  have hiX7 : ∀ w ∈ u_ws RX7 TX7 15, w ∈ wsX7_town := by decide +kernel
  refine lv_aload_n S.1 S.2.1 dX7_town_0 rfl (lv_at hl0 0 rfl) ?_
  obtain ⟨c1, d1, k1, dr1, hF1, hc1, hd1, hk1⟩ := wt_main hW
  refine r_get S hK hP 0 (by decide) hF1 (C := RX7) (T := TX7) (N := 15) hiX7 rfl 11 (by decide) (by decide +kernel) (v := .ref (ad c1)) rfl dX7_town_1 ?_
  refine lv_iload_n S.1 S.2.1 dX7_town_4 rfl (lv_at hl0 1 rfl) ?_
  obtain ⟨sl3, fm3, tn3, rn3, bn3, hF3, hb3_1, hb3_2, hb3_3⟩ := wt_C hW hc1
  refine r_cVp (As := [.int p1]) (rest := []) S hK hZ hP hS hl0.1 c1 (lt_C hc1) hF3 (C := RX0) rfl (c_X0_hasTown l D cA ad t hI F hW c1 hc1 p1) (cwV 1 S.2.2.2.2 gX7_town_X0_hasTown rfl rfl rfl (by decide +kernel) ⟨Nat.le_of_ble_eq_true rfl, Nat.le_of_ble_eq_true rfl⟩) rfl rfl (Nat.le_of_ble_eq_true rfl) ⟨Nat.zero_le _, Nat.zero_le _⟩ dX7_town_5 (fun r2 hr2 => ?_)
  obtain ⟨⟨b4, hb4, rfl⟩, hx4⟩ := hr2
  have hx4 : b4 ≠ 0 → 0 ≤ p1.toInt ∧ p1.toInt ≤ _ := fun q => hx4 (nI_ne0 (by omega) (by omega))
  refine lv_if_ne (tgt := 14) S.1 S.2.1 dX7_town_8 (by decide) (fun c5 => ?_) (fun c5 => ?_)
  · skip
    have k6 := ci_ne (nI_toInt (n := b4) (by omega)) z_ti c5
    refine lv_iload_n S.1 S.2.1 dX7_town_14 rfl (lv_at hl0 2 rfl) ?_
    by_cases hs7_0 : p2.toInt = 0
    · refine lv_tableIn (off := 33) (tgt := 48) S.1 S.2.1 dX7_town_15 (by omega) (by omega) (by rw [hs7_0]; rfl) (by decide) ?_
      refine lv_aload_n S.1 S.2.1 dX7_town_48 rfl (lv_at hl0 0 rfl) ?_
      refine r_get S hK hP 0 (by decide) hF1 (C := RX7) (T := TX7) (N := 15) hiX7 rfl 11 (by decide) (by decide +kernel) (v := .ref (ad c1)) rfl dX7_town_49 ?_
      refine r_get S hK hP c1 (lt_C hc1) hF3 (C := RX0) (T := TX0) (N := 10) hiX0 rfl 5 (by decide) (by decide +kernel) (v := .ref (ad (c1 + 1))) rfl dX7_town_52 ?_
      refine lv_iload_n S.1 S.2.1 dX7_town_55 rfl (lv_at hl0 1 rfl) ?_
      obtain ⟨g8, hF8, hg8⟩ := wt_I hW (C1_I hc1)
      refine r_iald S hK hP (c1 + 1) (lt_I (C1_I hc1)) hF8 (in_of (n := 8) (a := p1.toInt) rfl (by omega) (by omega)) dX7_town_56 ?_
      refine lv_topi (fun v10 e10 => ?_)
      exact hret 57 _ _ dX7_town_57 rfl (trivial)
    by_cases hs7_1 : p2.toInt = 1
    · refine lv_tableIn (off := 43) (tgt := 58) S.1 S.2.1 dX7_town_15 (by omega) (by omega) (by rw [hs7_1]; rfl) (by decide) ?_
      refine lv_aload_n S.1 S.2.1 dX7_town_58 rfl (lv_at hl0 0 rfl) ?_
      refine r_get S hK hP 0 (by decide) hF1 (C := RX7) (T := TX7) (N := 15) hiX7 rfl 11 (by decide) (by decide +kernel) (v := .ref (ad c1)) rfl dX7_town_59 ?_
      refine r_get S hK hP c1 (lt_C hc1) hF3 (C := RX0) (T := TX0) (N := 10) hiX0 rfl 6 (by decide) (by decide +kernel) (v := .ref (ad (c1 + 2))) rfl dX7_town_62 ?_
      refine lv_iload_n S.1 S.2.1 dX7_town_65 rfl (lv_at hl0 1 rfl) ?_
      obtain ⟨g11, hF11, hg11⟩ := wt_I hW (C2_I hc1)
      refine r_iald S hK hP (c1 + 2) (lt_I (C2_I hc1)) hF11 (in_of (n := 8) (a := p1.toInt) rfl (by omega) (by omega)) dX7_town_66 ?_
      refine lv_topi (fun v13 e13 => ?_)
      exact hret 67 _ _ dX7_town_67 rfl (trivial)
    by_cases hs7_2 : p2.toInt = 2
    · refine lv_tableIn (off := 53) (tgt := 68) S.1 S.2.1 dX7_town_15 (by omega) (by omega) (by rw [hs7_2]; rfl) (by decide) ?_
      refine lv_aload_n S.1 S.2.1 dX7_town_68 rfl (lv_at hl0 0 rfl) ?_
      refine r_get S hK hP 0 (by decide) hF1 (C := RX7) (T := TX7) (N := 15) hiX7 rfl 11 (by decide) (by decide +kernel) (v := .ref (ad c1)) rfl dX7_town_69 ?_
      refine r_get S hK hP c1 (lt_C hc1) hF3 (C := RX0) (T := TX0) (N := 10) hiX0 rfl 7 (by decide) (by decide +kernel) (v := .ref (ad (c1 + 3))) rfl dX7_town_72 ?_
      refine lv_iload_n S.1 S.2.1 dX7_town_75 rfl (lv_at hl0 1 rfl) ?_
      obtain ⟨g14, hF14, hg14⟩ := wt_I hW (C3_I hc1)
      refine r_iald S hK hP (c1 + 3) (lt_I (C3_I hc1)) hF14 (in_of (n := 8) (a := p1.toInt) rfl (by omega) (by omega)) dX7_town_76 ?_
      refine lv_topi (fun v16 e16 => ?_)
      exact hret 77 _ _ dX7_town_77 rfl (trivial)
    by_cases hs7_3 : p2.toInt = 3
    · refine lv_tableIn (off := 63) (tgt := 78) S.1 S.2.1 dX7_town_15 (by omega) (by omega) (by rw [hs7_3]; rfl) (by decide) ?_
      refine lv_aload_n S.1 S.2.1 dX7_town_78 rfl (lv_at hl0 0 rfl) ?_
      refine r_get S hK hP 0 (by decide) hF1 (C := RX7) (T := TX7) (N := 15) hiX7 rfl 11 (by decide) (by decide +kernel) (v := .ref (ad c1)) rfl dX7_town_79 ?_
      refine lv_iload_n S.1 S.2.1 dX7_town_82 rfl (lv_at hl0 1 rfl) ?_
      refine lv_iconst (v := (nI 0)) S.1 S.2.1 dX7_town_83 (by decide +kernel) ?_
      refine r_cVp (As := [.int p1, .int (nI 0)]) (rest := []) S hK hZ hP hS hl0.1 c1 (lt_C hc1) hF3 (C := RX0) rfl (c_X0_neighbours l D cA ad t hI F hW c1 hc1 p1 (nI 0)) (cwV 2 S.2.2.2.2 gX7_town_X0_neighbours rfl rfl rfl (by decide +kernel) ⟨Nat.le_of_ble_eq_true rfl, Nat.le_of_ble_eq_true rfl⟩) rfl rfl (Nat.le_of_ble_eq_true rfl) ⟨Nat.zero_le _, Nat.zero_le _⟩ dX7_town_84 (fun r17 hr17 => ?_)
      exact hret 87 _ _ dX7_town_87 rfl (trivial)
    by_cases hs7_4 : p2.toInt = 4
    · refine lv_tableIn (off := 73) (tgt := 88) S.1 S.2.1 dX7_town_15 (by omega) (by omega) (by rw [hs7_4]; rfl) (by decide) ?_
      refine lv_aload_n S.1 S.2.1 dX7_town_88 rfl (lv_at hl0 0 rfl) ?_
      refine r_get S hK hP 0 (by decide) hF1 (C := RX7) (T := TX7) (N := 15) hiX7 rfl 11 (by decide) (by decide +kernel) (v := .ref (ad c1)) rfl dX7_town_89 ?_
      refine lv_iload_n S.1 S.2.1 dX7_town_92 rfl (lv_at hl0 1 rfl) ?_
      refine r_cVp (As := [.int p1]) (rest := []) S hK hZ hP hS hl0.1 c1 (lt_C hc1) hF3 (C := RX0) rfl (c_X0_isBanned l D cA ad t hI F hW c1 hc1 p1) (cwV 1 S.2.2.2.2 gX7_town_X0_isBanned rfl rfl rfl (by decide +kernel) ⟨Nat.le_of_ble_eq_true rfl, Nat.le_of_ble_eq_true rfl⟩) rfl rfl (Nat.le_of_ble_eq_true rfl) ⟨Nat.zero_le _, Nat.zero_le _⟩ dX7_town_93 (fun r18 hr18 => ?_)
      obtain ⟨b19, hb19, rfl⟩ := hr18
      refine lv_if_eq (tgt := 103) S.1 S.2.1 dX7_town_96 (by decide) (fun c20 => ?_) (fun c20 => ?_)
      · skip
        have k21 := ci_eq (nI_toInt (n := b19) (by omega)) z_ti c20
        refine lv_iconst (v := (nI 0)) S.1 S.2.1 dX7_town_103 (by decide +kernel) ?_
        exact hret 104 _ _ dX7_town_104 rfl (trivial)
      have k22 := ci_ne (nI_toInt (n := b19) (by omega)) z_ti c20
      refine lv_iconst (v := (nI 1)) S.1 S.2.1 dX7_town_99 (by decide +kernel) ?_
      refine lv_goto (tgt := 104) S.1 S.2.1 dX7_town_100 (by decide) ?_
      exact hret 104 _ _ dX7_town_104 rfl (trivial)
    refine lv_tableOut (tgt := 105) S.1 S.2.1 dX7_town_15 (by omega) (by decide) ?_
    refine lv_ldc (v := (-1000000002)) S.1 S.2.1 S.2.2.2.1 (S.2.2.2.2 (.constant RX7 79 (-1000000002)) (by decide +kernel)) dX7_town_105 ?_
    exact hret 107 _ _ dX7_town_107 rfl (trivial)
  have k23 := ci_eq (nI_toInt (n := b4) (by omega)) z_ti c5
  refine lv_ldc (v := (-1000000001)) S.1 S.2.1 S.2.2.2.1 (S.2.2.2.2 (.constant RX7 147 (-1000000001)) (by decide +kernel)) dX7_town_11 ?_
  exact hret 13 _ _ dX7_town_13 rfl (trivial)
set_option maxHeartbeats 4000000 in
set_option maxRecDepth 100000 in
theorem c_X7_road (l : Launch) (D : va_G) (cA ad : Nat → Nat) (t : Nat) (hI : rI ad) (F : Nat → va_E) (hW : WT cA ad F) (p1 : Int32) (p2 : Int32) : MP l D cA ad t yX7_road wsX7_road { frames := 1, cells := 0, slots := 0, locals := 21 } [.ref (ad 0), .int p1, .int p2] F (fun r => True) := by
  refine en_P rfl (by decide +kernel) (Nat.le_of_ble_eq_true rfl) ?_
  intro p e s m args below meth c ls0 Q S hK hZ hP hS hl0 hret
  have hl0 : lv_has ls0 3 [(0, .ref (ad 0)), (1, .int p1), (2, .int p2)] := hl0
  have hiX0 : ∀ w ∈ u_ws RX0 TX0 10, w ∈ wsX7_road := by decide +kernel
  have hiX1 : ∀ w ∈ u_ws RX1 TX1 7, w ∈ wsX7_road := by decide +kernel
  have hiX7 : ∀ w ∈ u_ws RX7 TX7 15, w ∈ wsX7_road := by decide +kernel
  refine lv_aload_n S.1 S.2.1 dX7_road_0 rfl (lv_at hl0 0 rfl) ?_
  obtain ⟨c1, d1, k1, dr1, hF1, hc1, hd1, hk1⟩ := wt_main hW
  refine r_get S hK hP 0 (by decide) hF1 (C := RX7) (T := TX7) (N := 15) hiX7 rfl 11 (by decide) (by decide +kernel) (v := .ref (ad c1)) rfl dX7_road_1 ?_
  refine lv_iload_n S.1 S.2.1 dX7_road_4 rfl (lv_at hl0 1 rfl) ?_
  obtain ⟨sl3, fm3, tn3, rn3, bn3, hF3, hb3_1, hb3_2, hb3_3⟩ := wt_C hW hc1
  refine r_cVp (As := [.int p1]) (rest := []) S hK hZ hP hS hl0.1 c1 (lt_C hc1) hF3 (C := RX0) rfl (c_X0_hasRoad l D cA ad t hI F hW c1 hc1 p1) (cwV 1 S.2.2.2.2 gX7_road_X0_hasRoad rfl rfl rfl (by decide +kernel) ⟨Nat.le_of_ble_eq_true rfl, Nat.le_of_ble_eq_true rfl⟩) rfl rfl (Nat.le_of_ble_eq_true rfl) ⟨Nat.zero_le _, Nat.zero_le _⟩ dX7_road_5 (fun r2 hr2 => ?_)
  obtain ⟨⟨b4, hb4, rfl⟩, hx4⟩ := hr2
  have hx4 : b4 ≠ 0 → 0 ≤ p1.toInt ∧ p1.toInt ≤ _ := fun q => hx4 (nI_ne0 (by omega) (by omega))
  refine lv_if_ne (tgt := 14) S.1 S.2.1 dX7_road_8 (by decide) (fun c5 => ?_) (fun c5 => ?_)
  · skip
    have k6 := ci_ne (nI_toInt (n := b4) (by omega)) z_ti c5
    refine lv_iload_n S.1 S.2.1 dX7_road_14 rfl (lv_at hl0 2 rfl) ?_
    by_cases hs7_0 : p2.toInt = 0
    · refine lv_tableIn (off := 25) (tgt := 40) S.1 S.2.1 dX7_road_15 (by omega) (by omega) (by rw [hs7_0]; rfl) (by decide) ?_
      refine lv_aload_n S.1 S.2.1 dX7_road_40 rfl (lv_at hl0 0 rfl) ?_
      refine r_get S hK hP 0 (by decide) hF1 (C := RX7) (T := TX7) (N := 15) hiX7 rfl 11 (by decide) (by decide +kernel) (v := .ref (ad c1)) rfl dX7_road_41 ?_
      refine r_get S hK hP c1 (lt_C hc1) hF3 (C := RX0) (T := TX0) (N := 10) hiX0 rfl 8 (by decide) (by decide +kernel) (v := .ref (ad (c1 + 4))) rfl dX7_road_44 ?_
      refine lv_iload_n S.1 S.2.1 dX7_road_47 rfl (lv_at hl0 1 rfl) ?_
      obtain ⟨g8, hF8, hg8⟩ := wt_I hW (C4_I hc1)
      refine r_iald S hK hP (c1 + 4) (lt_I (C4_I hc1)) hF8 (in_of (n := 12) (a := p1.toInt) rfl (by omega) (by omega)) dX7_road_48 ?_
      refine lv_topi (fun v10 e10 => ?_)
      exact hret 49 _ _ dX7_road_49 rfl (trivial)
    by_cases hs7_1 : p2.toInt = 1
    · refine lv_tableIn (off := 35) (tgt := 50) S.1 S.2.1 dX7_road_15 (by omega) (by omega) (by rw [hs7_1]; rfl) (by decide) ?_
      refine lv_aload_n S.1 S.2.1 dX7_road_50 rfl (lv_at hl0 0 rfl) ?_
      refine r_get S hK hP 0 (by decide) hF1 (C := RX7) (T := TX7) (N := 15) hiX7 rfl 11 (by decide) (by decide +kernel) (v := .ref (ad c1)) rfl dX7_road_51 ?_
      refine r_get S hK hP c1 (lt_C hc1) hF3 (C := RX0) (T := TX0) (N := 10) hiX0 rfl 9 (by decide) (by decide +kernel) (v := .ref (ad (c1 + 5))) rfl dX7_road_54 ?_
      refine lv_iload_n S.1 S.2.1 dX7_road_57 rfl (lv_at hl0 1 rfl) ?_
      obtain ⟨g11, hF11, hg11⟩ := wt_I hW (C5_I hc1)
      refine r_iald S hK hP (c1 + 5) (lt_I (C5_I hc1)) hF11 (in_of (n := 12) (a := p1.toInt) rfl (by omega) (by omega)) dX7_road_58 ?_
      refine lv_topi (fun v13 e13 => ?_)
      exact hret 59 _ _ dX7_road_59 rfl (trivial)
    by_cases hs7_2 : p2.toInt = 2
    · refine lv_tableIn (off := 45) (tgt := 60) S.1 S.2.1 dX7_road_15 (by omega) (by omega) (by rw [hs7_2]; rfl) (by decide) ?_
      refine lv_aload_n S.1 S.2.1 dX7_road_60 rfl (lv_at hl0 0 rfl) ?_
      refine r_get S hK hP 0 (by decide) hF1 (C := RX7) (T := TX7) (N := 15) hiX7 rfl 1 (by decide) (by decide +kernel) (v := .ref (ad 3)) rfl dX7_road_61 ?_
      obtain ⟨ja14, jb14, jc14, jd14, jx14, jy14, jk14, hF14, hk14⟩ := wt_J hW (show isJ 3 from Or.inl rfl)
      refine r_get S hK hP 3 (by decide) hF14 (C := RX1) (T := TX1) (N := 7) hiX1 rfl 5 (by decide) (by decide +kernel) (v := .int jy14) rfl dX7_road_64 ?_
      refine lv_iload_n S.1 S.2.1 dX7_road_67 rfl (lv_at hl0 1 rfl) ?_
      refine lv_ishr S.1 S.2.1 dX7_road_68 ?_
      refine lv_topi (fun v15 e15 => ?_)
      refine lv_iconst (v := (nI 1)) S.1 S.2.1 dX7_road_69 (by decide +kernel) ?_
      refine lv_iand S.1 S.2.1 dX7_road_70 ?_
      refine lv_topi (fun v16 e16 => ?_)
      exact hret 71 _ _ dX7_road_71 rfl (trivial)
    refine lv_tableOut (tgt := 72) S.1 S.2.1 dX7_road_15 (by omega) (by decide) ?_
    refine lv_ldc (v := (-1000000002)) S.1 S.2.1 S.2.2.2.1 (S.2.2.2.2 (.constant RX7 79 (-1000000002)) (by decide +kernel)) dX7_road_72 ?_
    exact hret 74 _ _ dX7_road_74 rfl (trivial)
  have k17 := ci_eq (nI_toInt (n := b4) (by omega)) z_ti c5
  refine lv_ldc (v := (-1000000001)) S.1 S.2.1 S.2.2.2.1 (S.2.2.2.2 (.constant RX7 147 (-1000000001)) (by decide +kernel)) dX7_road_11 ?_
  exact hret 13 _ _ dX7_road_13 rfl (trivial)
set_option maxHeartbeats 4000000 in
set_option maxRecDepth 100000 in
theorem c_X7_stay (l : Launch) (D : va_G) (cA ad : Nat → Nat) (t : Nat) (hI : rI ad) (F : Nat → va_E) (hW : WT cA ad F) : MI l D cA ad t yX7_stay wsX7_stay { frames := 4, cells := 0, slots := 0, locals := 87 } [.ref (ad 0)] F (fun r F' => WT cA ad F' ∧ rFr [3, 4, 5, 6, 7, 8, 9, 10, 11, 12, 13, 14, 15, 16, 17, 18, 19, 20, 21, 22, 23, 24, 25] F F' ∧ (True)) := by
  refine en_I rfl (by decide +kernel) (Nat.le_of_ble_eq_true rfl) ?_
  intro p e s m args below meth c ls0 Q S hK hZ hP hS hl0 hret
  have hl0 : lv_has ls0 1 [(0, .ref (ad 0))] := hl0
  have hFr : rFr [3, 4, 5, 6, 7, 8, 9, 10, 11, 12, 13, 14, 15, 16, 17, 18, 19, 20, 21, 22, 23, 24, 25] F F := rFr.rf
  have hiX1 : ∀ w ∈ u_ws RX1 TX1 7, w ∈ wsX7_stay := by decide +kernel
  have hiX7 : ∀ w ∈ u_ws RX7 TX7 15, w ∈ wsX7_stay := by decide +kernel
  refine lv_aload_n S.1 S.2.1 dX7_stay_0 rfl (lv_at hl0 0 rfl) ?_
  obtain ⟨c2, d2, k2, dr2, hF2, hc2, hd2, hk2⟩ := wt_main hW
  refine r_cVp (As := []) (rest := []) S hK hZ hP hS hl0.1 0 (by decide) hF2 (C := RX7) rfl (c_X7_cannotGoOn l D cA ad t hI F hW ) (cwV 0 S.2.2.2.2 gX7_stay_X7_cannotGoOn rfl rfl rfl (by decide +kernel) ⟨Nat.le_of_ble_eq_true rfl, Nat.le_of_ble_eq_true rfl⟩) rfl rfl (Nat.le_of_ble_eq_true rfl) ⟨Nat.zero_le _, Nat.zero_le _⟩ dX7_stay_1 (fun r1 hr1 => ?_)
  obtain ⟨b3, hb3, rfl⟩ := hr1
  refine lv_if_ne (tgt := 21) S.1 S.2.1 dX7_stay_4 (by decide) (fun c4 => ?_) (fun c4 => ?_)
  · skip
    have k5 := ci_ne (nI_toInt (n := b3) (by omega)) z_ti c4
    refine lv_ldc (v := (-1000000003)) S.1 S.2.1 S.2.2.2.1 (S.2.2.2.2 (.constant RX7 181 (-1000000003)) (by decide +kernel)) dX7_stay_21 ?_
    exact hret 23 _ _ _ _ _ dX7_stay_23 rfl hP hS ⟨hW, hFr, trivial⟩
  have k6 := ci_eq (nI_toInt (n := b3) (by omega)) z_ti c4
  refine lv_aload_n S.1 S.2.1 dX7_stay_7 rfl (lv_at hl0 0 rfl) ?_
  refine r_get S hK hP 0 (by decide) hF2 (C := RX7) (T := TX7) (N := 15) hiX7 rfl 1 (by decide) (by decide +kernel) (v := .ref (ad 3)) rfl dX7_stay_8 ?_
  refine lv_aload_n S.1 S.2.1 dX7_stay_11 rfl (lv_at hl0 0 rfl) ?_
  refine r_get S hK hP 0 (by decide) hF2 (C := RX7) (T := TX7) (N := 15) hiX7 rfl 11 (by decide) (by decide +kernel) (v := .ref (ad c2)) rfl dX7_stay_12 ?_
  obtain ⟨ja8, jb8, jc8, jd8, jx8, jy8, jk8, hF8, hk8⟩ := wt_J hW (show isJ 3 from Or.inl rfl)
  refine r_cVp (As := [.ref (ad c2)]) (rest := []) S hK hZ hP hS hl0.1 3 (by decide) hF8 (C := RX1) rfl (c_X1_mayStay l D cA ad t hI F hW 3 (show isJ 3 from Or.inl rfl) c2 hc2) (cwV 1 S.2.2.2.2 gX7_stay_X1_mayStay rfl rfl rfl (by decide +kernel) ⟨Nat.le_of_ble_eq_true rfl, Nat.le_of_ble_eq_true rfl⟩) rfl rfl (Nat.le_of_ble_eq_true rfl) ⟨Nat.zero_le _, Nat.zero_le _⟩ dX7_stay_15 (fun r7 hr7 => ?_)
  obtain ⟨b9, hb9, rfl⟩ := hr7
  refine lv_if_ne (tgt := 24) S.1 S.2.1 dX7_stay_18 (by decide) (fun c10 => ?_) (fun c10 => ?_)
  · skip
    have k11 := ci_ne (nI_toInt (n := b9) (by omega)) z_ti c10
    refine lv_aload_n S.1 S.2.1 dX7_stay_24 rfl (lv_at hl0 0 rfl) ?_
    refine r_get S hK hP 0 (by decide) hF2 (C := RX7) (T := TX7) (N := 15) hiX7 rfl 1 (by decide) (by decide +kernel) (v := .ref (ad 3)) rfl dX7_stay_25 ?_
    refine r_get S hK hP 3 (by decide) hF8 (C := RX1) (T := TX1) (N := 7) hiX1 rfl 1 (by decide) (by decide +kernel) (v := .int jb8) rfl dX7_stay_28 ?_
    refine lv_sipush (v := (nI 9000)) S.1 S.2.1 dX7_stay_31 (by decide +kernel) ?_
    refine lv_icmp_le (tgt := 40) S.1 S.2.1 dX7_stay_34 (by decide) (fun c12 => ?_) (fun c12 => ?_)
    · skip
      have k13 := ci_le rfl (nI_toInt (n := 9000) (by omega)) c12
      refine lv_aload_n S.1 S.2.1 dX7_stay_40 rfl (lv_at hl0 0 rfl) ?_
      refine r_get S hK hP 0 (by decide) hF2 (C := RX7) (T := TX7) (N := 15) hiX7 rfl 2 (by decide) (by decide +kernel) (v := .ref (ad 4)) rfl dX7_stay_41 ?_
      refine lv_aload_n S.1 S.2.1 dX7_stay_44 rfl (lv_at hl0 0 rfl) ?_
      refine r_get S hK hP 0 (by decide) hF2 (C := RX7) (T := TX7) (N := 15) hiX7 rfl 1 (by decide) (by decide +kernel) (v := .ref (ad 3)) rfl dX7_stay_45 ?_
      obtain ⟨k15, hF15, hk15⟩ := wt_past hW
      refine r_cVv (As := [.ref (ad 3)]) (rest := []) S hK hZ hP hS hl0.1 4 (by decide) hF15 (C := RX2) rfl (c_X2_push l D cA ad t hI F hW 3 (show isJ 3 from Or.inl rfl)) (cwV 1 S.2.2.2.2 gX7_stay_X2_push rfl rfl rfl (by decide +kernel) ⟨Nat.le_of_ble_eq_true rfl, Nat.le_of_ble_eq_true rfl⟩) rfl rfl (Nat.le_of_ble_eq_true rfl) ⟨Nat.zero_le _, Nat.zero_le _⟩ dX7_stay_48 (fun F14 H14 locs14 hr14 hP14 hS14 => ?_)
      obtain ⟨hW14, hFc14, hr14⟩ := hr14
      have hFr14 := hFr.tr hFc14 (by simp <;> first | omega | (simp only [isC, isJ] at *; omega))
      refine lv_aload_n S.1 S.2.1 dX7_stay_51 rfl (lv_at hl0 0 rfl) ?_
      have hF16 := (hFc14 0 (by decide)).trans hF2
      refine r_get S hK hP14 0 (by decide) hF16 (C := RX7) (T := TX7) (N := 15) hiX7 rfl 1 (by decide) (by decide +kernel) (v := .ref (ad 3)) rfl dX7_stay_52 ?_
      refine lv_aload_n S.1 S.2.1 dX7_stay_55 rfl (lv_at hl0 0 rfl) ?_
      refine r_get S hK hP14 0 (by decide) hF16 (C := RX7) (T := TX7) (N := 15) hiX7 rfl 11 (by decide) (by decide +kernel) (v := .ref (ad c2)) rfl dX7_stay_56 ?_
      have hF18 := (hFc14 3 (by decide)).trans hF8
      refine r_cVi (As := [.ref (ad c2)]) (rest := []) S hK hZ hP14 hS14 hl0.1 3 (by decide) hF18 (C := RX1) rfl (c_X1_stayMonth l D cA ad t hI F14 hW14 3 (show isJ 3 from Or.inl rfl) c2 hc2) (cwV 1 S.2.2.2.2 gX7_stay_X1_stayMonth rfl rfl rfl (by decide +kernel) ⟨Nat.le_of_ble_eq_true rfl, Nat.le_of_ble_eq_true rfl⟩) rfl rfl (Nat.le_of_ble_eq_true rfl) ⟨Nat.zero_le _, Nat.zero_le _⟩ dX7_stay_59 (fun r17 F17 H17 locs17 hr17 hP17 hS17 => ?_)
      obtain ⟨hW17, hFc17, hr17⟩ := hr17
      have hFr17 := hFr14.tr hFc17 (by simp <;> first | omega | (simp only [isC, isJ] at *; omega))
      exact hret 62 _ _ _ _ _ dX7_stay_62 rfl hP17 hS17 ⟨hW17, hFr17, trivial⟩
    have k19 := ci_nle rfl (nI_toInt (n := 9000) (by omega)) c12
    refine lv_ldc (v := (-1000000004)) S.1 S.2.1 S.2.2.2.1 (S.2.2.2.2 (.constant RX7 84 (-1000000004)) (by decide +kernel)) dX7_stay_37 ?_
    exact hret 39 _ _ _ _ _ dX7_stay_39 rfl hP hS ⟨hW, hFr, trivial⟩
  have k20 := ci_eq (nI_toInt (n := b9) (by omega)) z_ti c10
  refine lv_ldc (v := (-1000000003)) S.1 S.2.1 S.2.2.2.1 (S.2.2.2.2 (.constant RX7 181 (-1000000003)) (by decide +kernel)) dX7_stay_21 ?_
  exact hret 23 _ _ _ _ _ dX7_stay_23 rfl hP hS ⟨hW, hFr, trivial⟩
set_option maxHeartbeats 4000000 in
set_option maxRecDepth 100000 in
theorem c_X7_walk (l : Launch) (D : va_G) (cA ad : Nat → Nat) (t : Nat) (hI : rI ad) (F : Nat → va_E) (hW : WT cA ad F) (p1 : Int32) : MI l D cA ad t yX7_walk wsX7_walk { frames := 3, cells := 0, slots := 0, locals := 67 } [.ref (ad 0), .int p1] F (fun r F' => WT cA ad F' ∧ rFr [3, 4, 5, 6, 7, 8, 9, 10, 11, 12, 13, 14, 15, 16, 17, 18, 19, 20, 21, 22, 23, 24, 25] F F' ∧ (True)) := by
  refine en_I rfl (by decide +kernel) (Nat.le_of_ble_eq_true rfl) ?_
  intro p e s m args below meth c ls0 Q S hK hZ hP hS hl0 hret
  have hl0 : lv_has ls0 2 [(0, .ref (ad 0)), (1, .int p1)] := hl0
  have hFr : rFr [3, 4, 5, 6, 7, 8, 9, 10, 11, 12, 13, 14, 15, 16, 17, 18, 19, 20, 21, 22, 23, 24, 25] F F := rFr.rf
  have hiX1 : ∀ w ∈ u_ws RX1 TX1 7, w ∈ wsX7_walk := by decide +kernel
  have hiX7 : ∀ w ∈ u_ws RX7 TX7 15, w ∈ wsX7_walk := by decide +kernel
  refine lv_aload_n S.1 S.2.1 dX7_walk_0 rfl (lv_at hl0 0 rfl) ?_
  obtain ⟨c1, d1, k1, dr1, hF1, hc1, hd1, hk1⟩ := wt_main hW
  refine r_get S hK hP 0 (by decide) hF1 (C := RX7) (T := TX7) (N := 15) hiX7 rfl 11 (by decide) (by decide +kernel) (v := .ref (ad c1)) rfl dX7_walk_1 ?_
  refine lv_iload_n S.1 S.2.1 dX7_walk_4 rfl (lv_at hl0 1 rfl) ?_
  obtain ⟨sl3, fm3, tn3, rn3, bn3, hF3, hb3_1, hb3_2, hb3_3⟩ := wt_C hW hc1
  refine r_cVp (As := [.int p1]) (rest := []) S hK hZ hP hS hl0.1 c1 (lt_C hc1) hF3 (C := RX0) rfl (c_X0_hasTown l D cA ad t hI F hW c1 hc1 p1) (cwV 1 S.2.2.2.2 gX7_walk_X0_hasTown rfl rfl rfl (by decide +kernel) ⟨Nat.le_of_ble_eq_true rfl, Nat.le_of_ble_eq_true rfl⟩) rfl rfl (Nat.le_of_ble_eq_true rfl) ⟨Nat.zero_le _, Nat.zero_le _⟩ dX7_walk_5 (fun r2 hr2 => ?_)
  obtain ⟨⟨b4, hb4, rfl⟩, hx4⟩ := hr2
  have hx4 : b4 ≠ 0 → 0 ≤ p1.toInt ∧ p1.toInt ≤ _ := fun q => hx4 (nI_ne0 (by omega) (by omega))
  refine lv_if_ne (tgt := 14) S.1 S.2.1 dX7_walk_8 (by decide) (fun c5 => ?_) (fun c5 => ?_)
  · skip
    have k6 := ci_ne (nI_toInt (n := b4) (by omega)) z_ti c5
    refine lv_aload_n S.1 S.2.1 dX7_walk_14 rfl (lv_at hl0 0 rfl) ?_
    refine r_get S hK hP 0 (by decide) hF1 (C := RX7) (T := TX7) (N := 15) hiX7 rfl 1 (by decide) (by decide +kernel) (v := .ref (ad 3)) rfl dX7_walk_15 ?_
    obtain ⟨ja7, jb7, jc7, jd7, jx7, jy7, jk7, hF7, hk7⟩ := wt_J hW (show isJ 3 from Or.inl rfl)
    refine r_get S hK hP 3 (by decide) hF7 (C := RX1) (T := TX1) (N := 7) hiX1 rfl 6 (by decide) (by decide +kernel) (v := .int (nI jk7)) rfl dX7_walk_18 ?_
    refine lv_if_ne (tgt := 42) S.1 S.2.1 dX7_walk_21 (by decide) (fun c8 => ?_) (fun c8 => ?_)
    · skip
      have k9 := ci_ne (nI_toInt (n := jk7) (by omega)) z_ti c8
      refine lv_ldc (v := (-1000000003)) S.1 S.2.1 S.2.2.2.1 (S.2.2.2.2 (.constant RX7 181 (-1000000003)) (by decide +kernel)) dX7_walk_42 ?_
      exact hret 44 _ _ _ _ _ dX7_walk_44 rfl hP hS ⟨hW, hFr, trivial⟩
    have k10 := ci_eq (nI_toInt (n := jk7) (by omega)) z_ti c8
    refine lv_aload_n S.1 S.2.1 dX7_walk_24 rfl (lv_at hl0 0 rfl) ?_
    refine r_get S hK hP 0 (by decide) hF1 (C := RX7) (T := TX7) (N := 15) hiX7 rfl 1 (by decide) (by decide +kernel) (v := .ref (ad 3)) rfl dX7_walk_25 ?_
    refine lv_aload_n S.1 S.2.1 dX7_walk_28 rfl (lv_at hl0 0 rfl) ?_
    refine r_get S hK hP 0 (by decide) hF1 (C := RX7) (T := TX7) (N := 15) hiX7 rfl 11 (by decide) (by decide +kernel) (v := .ref (ad c1)) rfl dX7_walk_29 ?_
    refine r_cVp (As := [.ref (ad c1)]) (rest := []) S hK hZ hP hS hl0.1 3 (by decide) hF7 (C := RX1) rfl (c_X1_walks l D cA ad t hI F hW 3 (show isJ 3 from Or.inl rfl) c1 hc1) (cwV 1 S.2.2.2.2 gX7_walk_X1_walks rfl rfl rfl (by decide +kernel) ⟨Nat.le_of_ble_eq_true rfl, Nat.le_of_ble_eq_true rfl⟩) rfl rfl (Nat.le_of_ble_eq_true rfl) ⟨Nat.zero_le _, Nat.zero_le _⟩ dX7_walk_32 (fun r11 hr11 => ?_)
    refine lv_iload_n S.1 S.2.1 dX7_walk_35 rfl (lv_at hl0 1 rfl) ?_
    refine lv_ishr S.1 S.2.1 dX7_walk_36 ?_
    refine lv_topi (fun v12 e12 => ?_)
    refine lv_iconst (v := (nI 1)) S.1 S.2.1 dX7_walk_37 (by decide +kernel) ?_
    refine lv_iand S.1 S.2.1 dX7_walk_38 ?_
    refine lv_topi (fun v13 e13 => ?_)
    refine lv_if_ne (tgt := 45) S.1 S.2.1 dX7_walk_39 (by decide) (fun c14 => ?_) (fun c14 => ?_)
    · skip
      have k15 := ci_ne rfl z_ti c14
      refine lv_aload_n S.1 S.2.1 dX7_walk_45 rfl (lv_at hl0 0 rfl) ?_
      refine r_get S hK hP 0 (by decide) hF1 (C := RX7) (T := TX7) (N := 15) hiX7 rfl 1 (by decide) (by decide +kernel) (v := .ref (ad 3)) rfl dX7_walk_46 ?_
      refine r_get S hK hP 3 (by decide) hF7 (C := RX1) (T := TX1) (N := 7) hiX1 rfl 1 (by decide) (by decide +kernel) (v := .int jb7) rfl dX7_walk_49 ?_
      refine lv_sipush (v := (nI 9000)) S.1 S.2.1 dX7_walk_52 (by decide +kernel) ?_
      refine lv_icmp_le (tgt := 61) S.1 S.2.1 dX7_walk_55 (by decide) (fun c16 => ?_) (fun c16 => ?_)
      · skip
        have k17 := ci_le rfl (nI_toInt (n := 9000) (by omega)) c16
        refine lv_aload_n S.1 S.2.1 dX7_walk_61 rfl (lv_at hl0 0 rfl) ?_
        refine r_get S hK hP 0 (by decide) hF1 (C := RX7) (T := TX7) (N := 15) hiX7 rfl 2 (by decide) (by decide +kernel) (v := .ref (ad 4)) rfl dX7_walk_62 ?_
        refine lv_aload_n S.1 S.2.1 dX7_walk_65 rfl (lv_at hl0 0 rfl) ?_
        refine r_get S hK hP 0 (by decide) hF1 (C := RX7) (T := TX7) (N := 15) hiX7 rfl 1 (by decide) (by decide +kernel) (v := .ref (ad 3)) rfl dX7_walk_66 ?_
        obtain ⟨k19, hF19, hk19⟩ := wt_past hW
        refine r_cVv (As := [.ref (ad 3)]) (rest := []) S hK hZ hP hS hl0.1 4 (by decide) hF19 (C := RX2) rfl (c_X2_push l D cA ad t hI F hW 3 (show isJ 3 from Or.inl rfl)) (cwV 1 S.2.2.2.2 gX7_walk_X2_push rfl rfl rfl (by decide +kernel) ⟨Nat.le_of_ble_eq_true rfl, Nat.le_of_ble_eq_true rfl⟩) rfl rfl (Nat.le_of_ble_eq_true rfl) ⟨Nat.zero_le _, Nat.zero_le _⟩ dX7_walk_69 (fun F18 H18 locs18 hr18 hP18 hS18 => ?_)
        obtain ⟨hW18, hFc18, hr18⟩ := hr18
        have hFr18 := hFr.tr hFc18 (by simp <;> first | omega | (simp only [isC, isJ] at *; omega))
        refine lv_aload_n S.1 S.2.1 dX7_walk_72 rfl (lv_at hl0 0 rfl) ?_
        have hF20 := (hFc18 0 (by decide)).trans hF1
        refine r_get S hK hP18 0 (by decide) hF20 (C := RX7) (T := TX7) (N := 15) hiX7 rfl 1 (by decide) (by decide +kernel) (v := .ref (ad 3)) rfl dX7_walk_73 ?_
        refine lv_iload_n S.1 S.2.1 dX7_walk_76 rfl (lv_at hl0 1 rfl) ?_
        have hF22 := (hFc18 3 (by decide)).trans hF7
        refine r_cVv (As := [.int p1]) (rest := []) S hK hZ hP18 hS18 hl0.1 3 (by decide) hF22 (C := RX1) rfl (c_X1_walkMonth l D cA ad t hI F18 hW18 3 (show isJ 3 from Or.inl rfl) p1) (cwV 1 S.2.2.2.2 gX7_walk_X1_walkMonth rfl rfl rfl (by decide +kernel) ⟨Nat.le_of_ble_eq_true rfl, Nat.le_of_ble_eq_true rfl⟩) rfl rfl (Nat.le_of_ble_eq_true rfl) ⟨Nat.zero_le _, Nat.zero_le _⟩ dX7_walk_77 (fun F21 H21 locs21 hr21 hP21 hS21 => ?_)
        obtain ⟨hW21, hFc21, hr21⟩ := hr21
        have hFr21 := hFr18.tr hFc21 (by simp <;> first | omega | (simp only [isC, isJ] at *; omega))
        refine lv_aload_n S.1 S.2.1 dX7_walk_80 rfl (lv_at hl0 0 rfl) ?_
        have hF23 := (hFc21 0 (by decide)).trans hF20
        refine r_get S hK hP21 0 (by decide) hF23 (C := RX7) (T := TX7) (N := 15) hiX7 rfl 1 (by decide) (by decide +kernel) (v := .ref (ad 3)) rfl dX7_walk_81 ?_
        obtain ⟨ja24, jb24, jc24, jd24, jx24, jy24, jk24, hF24, hk24⟩ := wt_J hW21 (show isJ 3 from Or.inl rfl)
        refine r_get S hK hP21 3 (by decide) hF24 (C := RX1) (T := TX1) (N := 7) hiX1 rfl 1 (by decide) (by decide +kernel) (v := .int jb24) rfl dX7_walk_84 ?_
        exact hret 87 _ _ _ _ _ dX7_walk_87 rfl hP21 hS21 ⟨hW21, hFr21, trivial⟩
      have k25 := ci_nle rfl (nI_toInt (n := 9000) (by omega)) c16
      refine lv_ldc (v := (-1000000004)) S.1 S.2.1 S.2.2.2.1 (S.2.2.2.2 (.constant RX7 84 (-1000000004)) (by decide +kernel)) dX7_walk_58 ?_
      exact hret 60 _ _ _ _ _ dX7_walk_60 rfl hP hS ⟨hW, hFr, trivial⟩
    have k26 := ci_eq rfl z_ti c14
    refine lv_ldc (v := (-1000000003)) S.1 S.2.1 S.2.2.2.1 (S.2.2.2.2 (.constant RX7 181 (-1000000003)) (by decide +kernel)) dX7_walk_42 ?_
    exact hret 44 _ _ _ _ _ dX7_walk_44 rfl hP hS ⟨hW, hFr, trivial⟩
  have k27 := ci_eq (nI_toInt (n := b4) (by omega)) z_ti c5
  refine lv_ldc (v := (-1000000001)) S.1 S.2.1 S.2.2.2.1 (S.2.2.2.2 (.constant RX7 147 (-1000000001)) (by decide +kernel)) dX7_walk_11 ?_
  exact hret 13 _ _ _ _ _ dX7_walk_13 rfl hP hS ⟨hW, hFr, trivial⟩
set_option maxHeartbeats 4000000 in
set_option maxRecDepth 100000 in
theorem c_X7_war (l : Launch) (D : va_G) (cA ad : Nat → Nat) (t : Nat) (hI : rI ad) (F : Nat → va_E) (hW : WT cA ad F) (p1 : Int32) (p2 : Int32) : MI l D cA ad t yX7_war wsX7_war { frames := 2, cells := 0, slots := 0, locals := 43 } [.ref (ad 0), .int p1, .int p2] F (fun r F' => WT cA ad F' ∧ rFr [3, 4, 5, 6, 7, 8, 9, 10, 11, 12, 13, 14, 15, 16, 17, 18, 19, 20, 21, 22, 23, 24, 25] F F' ∧ (True)) := by
  refine en_I rfl (by decide +kernel) (Nat.le_of_ble_eq_true rfl) ?_
  intro p e s m args below meth c ls0 Q S hK hZ hP hS hl0 hret
  have hl0 : lv_has ls0 4 [(0, .ref (ad 0)), (1, .int p1), (2, .int p2)] := hl0
  have hFr : rFr [3, 4, 5, 6, 7, 8, 9, 10, 11, 12, 13, 14, 15, 16, 17, 18, 19, 20, 21, 22, 23, 24, 25] F F := rFr.rf
  have hiX1 : ∀ w ∈ u_ws RX1 TX1 7, w ∈ wsX7_war := by decide +kernel
  have hiX7 : ∀ w ∈ u_ws RX7 TX7 15, w ∈ wsX7_war := by decide +kernel
  refine lv_aload_n S.1 S.2.1 dX7_war_0 rfl (lv_at hl0 0 rfl) ?_
  obtain ⟨c1, d1, k1, dr1, hF1, hc1, hd1, hk1⟩ := wt_main hW
  refine r_get S hK hP 0 (by decide) hF1 (C := RX7) (T := TX7) (N := 15) hiX7 rfl 11 (by decide) (by decide +kernel) (v := .ref (ad c1)) rfl dX7_war_1 ?_
  refine lv_iload_n S.1 S.2.1 dX7_war_4 rfl (lv_at hl0 1 rfl) ?_
  obtain ⟨sl3, fm3, tn3, rn3, bn3, hF3, hb3_1, hb3_2, hb3_3⟩ := wt_C hW hc1
  refine r_cVp (As := [.int p1]) (rest := []) S hK hZ hP hS hl0.1 c1 (lt_C hc1) hF3 (C := RX0) rfl (c_X0_hasRoad l D cA ad t hI F hW c1 hc1 p1) (cwV 1 S.2.2.2.2 gX7_war_X0_hasRoad rfl rfl rfl (by decide +kernel) ⟨Nat.le_of_ble_eq_true rfl, Nat.le_of_ble_eq_true rfl⟩) rfl rfl (Nat.le_of_ble_eq_true rfl) ⟨Nat.zero_le _, Nat.zero_le _⟩ dX7_war_5 (fun r2 hr2 => ?_)
  obtain ⟨⟨b4, hb4, rfl⟩, hx4⟩ := hr2
  have hx4 : b4 ≠ 0 → 0 ≤ p1.toInt ∧ p1.toInt ≤ _ := fun q => hx4 (nI_ne0 (by omega) (by omega))
  refine lv_if_ne (tgt := 14) S.1 S.2.1 dX7_war_8 (by decide) (fun c5 => ?_) (fun c5 => ?_)
  · skip
    have k6 := ci_ne (nI_toInt (n := b4) (by omega)) z_ti c5
    refine lv_aload_n S.1 S.2.1 dX7_war_14 rfl (lv_at hl0 0 rfl) ?_
    refine r_get S hK hP 0 (by decide) hF1 (C := RX7) (T := TX7) (N := 15) hiX7 rfl 1 (by decide) (by decide +kernel) (v := .ref (ad 3)) rfl dX7_war_15 ?_
    obtain ⟨ja7, jb7, jc7, jd7, jx7, jy7, jk7, hF7, hk7⟩ := wt_J hW (show isJ 3 from Or.inl rfl)
    refine r_get S hK hP 3 (by decide) hF7 (C := RX1) (T := TX1) (N := 7) hiX1 rfl 5 (by decide) (by decide +kernel) (v := .int jy7) rfl dX7_war_18 ?_
    refine lv_iload_n S.1 S.2.1 dX7_war_21 rfl (lv_at hl0 1 rfl) ?_
    refine lv_ishr S.1 S.2.1 dX7_war_22 ?_
    refine lv_topi (fun v8 e8 => ?_)
    refine lv_iconst (v := (nI 1)) S.1 S.2.1 dX7_war_23 (by decide +kernel) ?_
    refine lv_iand S.1 S.2.1 dX7_war_24 ?_
    refine lv_topi (fun v9 e9 => ?_)
    refine lv_istore_n (lv' := [(3, .int v9), (0, .ref (ad 0)), (1, .int p1), (2, .int p2)]) S.1 S.2.1 dX7_war_25 rfl hl0 (by decide) rfl (fun ls10 hl10 => ?_)
    refine lv_aload_n S.1 S.2.1 dX7_war_26 rfl (lv_at hl10 1 rfl) ?_
    refine r_get S hK hP 0 (by decide) hF1 (C := RX7) (T := TX7) (N := 15) hiX7 rfl 2 (by decide) (by decide +kernel) (v := .ref (ad 4)) rfl dX7_war_27 ?_
    refine lv_aload_n S.1 S.2.1 dX7_war_30 rfl (lv_at hl10 1 rfl) ?_
    refine r_get S hK hP 0 (by decide) hF1 (C := RX7) (T := TX7) (N := 15) hiX7 rfl 1 (by decide) (by decide +kernel) (v := .ref (ad 3)) rfl dX7_war_31 ?_
    obtain ⟨k12, hF12, hk12⟩ := wt_past hW
    refine r_cVv (As := [.ref (ad 3)]) (rest := []) S hK hZ hP hS hl10.1 4 (by decide) hF12 (C := RX2) rfl (c_X2_push l D cA ad t hI F hW 3 (show isJ 3 from Or.inl rfl)) (cwV 1 S.2.2.2.2 gX7_war_X2_push rfl rfl rfl (by decide +kernel) ⟨Nat.le_of_ble_eq_true rfl, Nat.le_of_ble_eq_true rfl⟩) rfl rfl (Nat.le_of_ble_eq_true rfl) ⟨Nat.zero_le _, Nat.zero_le _⟩ dX7_war_34 (fun F11 H11 locs11 hr11 hP11 hS11 => ?_)
    obtain ⟨hW11, hFc11, hr11⟩ := hr11
    have hFr11 := hFr.tr hFc11 (by simp <;> first | omega | (simp only [isC, isJ] at *; omega))
    refine lv_aload_n S.1 S.2.1 dX7_war_37 rfl (lv_at hl10 1 rfl) ?_
    have hF13 := (hFc11 0 (by decide)).trans hF1
    refine r_get S hK hP11 0 (by decide) hF13 (C := RX7) (T := TX7) (N := 15) hiX7 rfl 1 (by decide) (by decide +kernel) (v := .ref (ad 3)) rfl dX7_war_38 ?_
    refine lv_iload_n S.1 S.2.1 dX7_war_41 rfl (lv_at hl10 3 rfl) ?_
    refine lv_if_eq (tgt := 59) S.1 S.2.1 dX7_war_42 (by decide) (fun c14 => ?_) (fun c14 => ?_)
    · skip
      have k15 := ci_eq rfl z_ti c14
      refine lv_aload_n S.1 S.2.1 dX7_war_59 rfl (lv_at hl10 1 rfl) ?_
      refine r_get S hK hP11 0 (by decide) hF13 (C := RX7) (T := TX7) (N := 15) hiX7 rfl 1 (by decide) (by decide +kernel) (v := .ref (ad 3)) rfl dX7_war_60 ?_
      have hF16 := (hFc11 3 (by decide)).trans hF7
      refine r_get S hK hP11 3 (by decide) hF16 (C := RX1) (T := TX1) (N := 7) hiX1 rfl 5 (by decide) (by decide +kernel) (v := .int jy7) rfl dX7_war_63 ?_
      refine lv_iconst (v := (nI 1)) S.1 S.2.1 dX7_war_66 (by decide +kernel) ?_
      refine lv_iload_n S.1 S.2.1 dX7_war_67 rfl (lv_at hl10 2 rfl) ?_
      refine lv_ishl S.1 S.2.1 dX7_war_68 ?_
      refine lv_topi (fun v17 e17 => ?_)
      refine lv_iconst (v := (-1)) S.1 S.2.1 dX7_war_69 (by decide +kernel) ?_
      refine lv_ixor S.1 S.2.1 dX7_war_70 ?_
      refine lv_topi (fun v18 e18 => ?_)
      refine lv_iand S.1 S.2.1 dX7_war_71 ?_
      refine lv_topi (fun v19 e19 => ?_)
      refine r_put S hI hK hP11 hS11 3 (by decide) hF16 (C := RX1) (T := TX1) (N := 7) hiX1 tyX1_ok nmX1 rfl 5 (by decide) (by decide +kernel) rfl rfl rfl (Nat.le_of_ble_eq_true rfl) dX7_war_72 (fun F20 H20 locs20 eF20 hP20 hS20 => ?_)
      have hF20 : F20 3 = .inr (1, [.int ja7, .int jb7, .int jc7, .int jd7, .int jx7, .int v19, .int (nI jk7)]) := by rw [eF20]; exact va_up_self _ _ _
      have hW20 := hW11.up eF20 (ok_J (show isJ 3 from Or.inl rfl) ⟨ja7, jb7, jc7, jd7, jx7, v19, jk7, rfl, by omega⟩)
      have hFr20 := hFr11.up eF20 (by simp <;> first | omega | (simp only [isC, isJ] at *; omega))
      refine lv_iload_n S.1 S.2.1 dX7_war_75 rfl (lv_at hl10 0 rfl) ?_
      exact hret 76 _ _ _ _ _ dX7_war_76 rfl hP20 hS20 ⟨hW20, hFr20, trivial⟩
    have k21 := ci_ne rfl z_ti c14
    refine lv_aload_n S.1 S.2.1 dX7_war_45 rfl (lv_at hl10 1 rfl) ?_
    refine r_get S hK hP11 0 (by decide) hF13 (C := RX7) (T := TX7) (N := 15) hiX7 rfl 1 (by decide) (by decide +kernel) (v := .ref (ad 3)) rfl dX7_war_46 ?_
    have hF22 := (hFc11 3 (by decide)).trans hF7
    refine r_get S hK hP11 3 (by decide) hF22 (C := RX1) (T := TX1) (N := 7) hiX1 rfl 5 (by decide) (by decide +kernel) (v := .int jy7) rfl dX7_war_49 ?_
    refine lv_iconst (v := (nI 1)) S.1 S.2.1 dX7_war_52 (by decide +kernel) ?_
    refine lv_iload_n S.1 S.2.1 dX7_war_53 rfl (lv_at hl10 2 rfl) ?_
    refine lv_ishl S.1 S.2.1 dX7_war_54 ?_
    refine lv_topi (fun v23 e23 => ?_)
    refine lv_ior S.1 S.2.1 dX7_war_55 ?_
    refine lv_topi (fun v24 e24 => ?_)
    refine lv_goto (tgt := 72) S.1 S.2.1 dX7_war_56 (by decide) ?_
    refine r_put S hI hK hP11 hS11 3 (by decide) hF22 (C := RX1) (T := TX1) (N := 7) hiX1 tyX1_ok nmX1 rfl 5 (by decide) (by decide +kernel) rfl rfl rfl (Nat.le_of_ble_eq_true rfl) dX7_war_72 (fun F25 H25 locs25 eF25 hP25 hS25 => ?_)
    have hF25 : F25 3 = .inr (1, [.int ja7, .int jb7, .int jc7, .int jd7, .int jx7, .int v24, .int (nI jk7)]) := by rw [eF25]; exact va_up_self _ _ _
    have hW25 := hW11.up eF25 (ok_J (show isJ 3 from Or.inl rfl) ⟨ja7, jb7, jc7, jd7, jx7, v24, jk7, rfl, by omega⟩)
    have hFr25 := hFr11.up eF25 (by simp <;> first | omega | (simp only [isC, isJ] at *; omega))
    refine lv_iload_n S.1 S.2.1 dX7_war_75 rfl (lv_at hl10 0 rfl) ?_
    exact hret 76 _ _ _ _ _ dX7_war_76 rfl hP25 hS25 ⟨hW25, hFr25, trivial⟩
  have k26 := ci_eq (nI_toInt (n := b4) (by omega)) z_ti c5
  refine lv_ldc (v := (-1000000001)) S.1 S.2.1 S.2.2.2.1 (S.2.2.2.2 (.constant RX7 147 (-1000000001)) (by decide +kernel)) dX7_war_11 ?_
  exact hret 13 _ _ _ _ _ dX7_war_13 rfl hP hS ⟨hW, hFr, trivial⟩
set_option maxHeartbeats 4000000 in
set_option maxRecDepth 100000 in
theorem c_X7_home (l : Launch) (D : va_G) (cA ad : Nat → Nat) (t : Nat) (hI : rI ad) (F : Nat → va_E) (hW : WT cA ad F) : MI l D cA ad t yX7_home wsX7_home { frames := 2, cells := 0, slots := 0, locals := 43 } [.ref (ad 0)] F (fun r F' => WT cA ad F' ∧ rFr [3, 4, 5, 6, 7, 8, 9, 10, 11, 12, 13, 14, 15, 16, 17, 18, 19, 20, 21, 22, 23, 24, 25] F F' ∧ (True)) := by
  refine en_I rfl (by decide +kernel) (Nat.le_of_ble_eq_true rfl) ?_
  intro p e s m args below meth c ls0 Q S hK hZ hP hS hl0 hret
  have hl0 : lv_has ls0 1 [(0, .ref (ad 0))] := hl0
  have hFr : rFr [3, 4, 5, 6, 7, 8, 9, 10, 11, 12, 13, 14, 15, 16, 17, 18, 19, 20, 21, 22, 23, 24, 25] F F := rFr.rf
  have hiX1 : ∀ w ∈ u_ws RX1 TX1 7, w ∈ wsX7_home := by decide +kernel
  have hiX7 : ∀ w ∈ u_ws RX7 TX7 15, w ∈ wsX7_home := by decide +kernel
  refine lv_aload_n S.1 S.2.1 dX7_home_0 rfl (lv_at hl0 0 rfl) ?_
  obtain ⟨c2, d2, k2, dr2, hF2, hc2, hd2, hk2⟩ := wt_main hW
  refine r_cVp (As := []) (rest := []) S hK hZ hP hS hl0.1 0 (by decide) hF2 (C := RX7) rfl (c_X7_cannotGoOn l D cA ad t hI F hW ) (cwV 0 S.2.2.2.2 gX7_home_X7_cannotGoOn rfl rfl rfl (by decide +kernel) ⟨Nat.le_of_ble_eq_true rfl, Nat.le_of_ble_eq_true rfl⟩) rfl rfl (Nat.le_of_ble_eq_true rfl) ⟨Nat.zero_le _, Nat.zero_le _⟩ dX7_home_1 (fun r1 hr1 => ?_)
  obtain ⟨b3, hb3, rfl⟩ := hr1
  refine lv_if_ne (tgt := 19) S.1 S.2.1 dX7_home_4 (by decide) (fun c4 => ?_) (fun c4 => ?_)
  · skip
    have k5 := ci_ne (nI_toInt (n := b3) (by omega)) z_ti c4
    refine lv_ldc (v := (-1000000003)) S.1 S.2.1 S.2.2.2.1 (S.2.2.2.2 (.constant RX7 181 (-1000000003)) (by decide +kernel)) dX7_home_19 ?_
    exact hret 21 _ _ _ _ _ dX7_home_21 rfl hP hS ⟨hW, hFr, trivial⟩
  have k6 := ci_eq (nI_toInt (n := b3) (by omega)) z_ti c4
  refine lv_aload_n S.1 S.2.1 dX7_home_7 rfl (lv_at hl0 0 rfl) ?_
  refine r_get S hK hP 0 (by decide) hF2 (C := RX7) (T := TX7) (N := 15) hiX7 rfl 1 (by decide) (by decide +kernel) (v := .ref (ad 3)) rfl dX7_home_8 ?_
  obtain ⟨ja7, jb7, jc7, jd7, jx7, jy7, jk7, hF7, hk7⟩ := wt_J hW (show isJ 3 from Or.inl rfl)
  refine r_get S hK hP 3 (by decide) hF7 (C := RX1) (T := TX1) (N := 7) hiX1 rfl 1 (by decide) (by decide +kernel) (v := .int jb7) rfl dX7_home_11 ?_
  refine lv_bipush (v := (nI 36)) S.1 S.2.1 dX7_home_14 (by decide +kernel) ?_
  refine lv_icmp_ge (tgt := 22) S.1 S.2.1 dX7_home_16 (by decide) (fun c8 => ?_) (fun c8 => ?_)
  · skip
    have k9 := ci_le (nI_toInt (n := 36) (by omega)) rfl c8
    refine lv_aload_n S.1 S.2.1 dX7_home_22 rfl (lv_at hl0 0 rfl) ?_
    refine r_get S hK hP 0 (by decide) hF2 (C := RX7) (T := TX7) (N := 15) hiX7 rfl 2 (by decide) (by decide +kernel) (v := .ref (ad 4)) rfl dX7_home_23 ?_
    refine lv_aload_n S.1 S.2.1 dX7_home_26 rfl (lv_at hl0 0 rfl) ?_
    refine r_get S hK hP 0 (by decide) hF2 (C := RX7) (T := TX7) (N := 15) hiX7 rfl 1 (by decide) (by decide +kernel) (v := .ref (ad 3)) rfl dX7_home_27 ?_
    obtain ⟨k11, hF11, hk11⟩ := wt_past hW
    refine r_cVv (As := [.ref (ad 3)]) (rest := []) S hK hZ hP hS hl0.1 4 (by decide) hF11 (C := RX2) rfl (c_X2_push l D cA ad t hI F hW 3 (show isJ 3 from Or.inl rfl)) (cwV 1 S.2.2.2.2 gX7_home_X2_push rfl rfl rfl (by decide +kernel) ⟨Nat.le_of_ble_eq_true rfl, Nat.le_of_ble_eq_true rfl⟩) rfl rfl (Nat.le_of_ble_eq_true rfl) ⟨Nat.zero_le _, Nat.zero_le _⟩ dX7_home_30 (fun F10 H10 locs10 hr10 hP10 hS10 => ?_)
    obtain ⟨hW10, hFc10, hr10⟩ := hr10
    have hFr10 := hFr.tr hFc10 (by simp <;> first | omega | (simp only [isC, isJ] at *; omega))
    refine lv_aload_n S.1 S.2.1 dX7_home_33 rfl (lv_at hl0 0 rfl) ?_
    have hF12 := (hFc10 0 (by decide)).trans hF2
    refine r_get S hK hP10 0 (by decide) hF12 (C := RX7) (T := TX7) (N := 15) hiX7 rfl 1 (by decide) (by decide +kernel) (v := .ref (ad 3)) rfl dX7_home_34 ?_
    refine lv_iconst (v := (nI 1)) S.1 S.2.1 dX7_home_37 (by decide +kernel) ?_
    have hF13 := (hFc10 3 (by decide)).trans hF7
    refine r_put S hI hK hP10 hS10 3 (by decide) hF13 (C := RX1) (T := TX1) (N := 7) hiX1 tyX1_ok nmX1 rfl 6 (by decide) (by decide +kernel) rfl (nar_bool (by omega)) (fit_bool (by omega)) (Nat.le_of_ble_eq_true rfl) dX7_home_38 (fun F14 H14 locs14 eF14 hP14 hS14 => ?_)
    have hF14 : F14 3 = .inr (1, [.int ja7, .int jb7, .int jc7, .int jd7, .int jx7, .int jy7, .int (nI 1)]) := by rw [eF14]; exact va_up_self _ _ _
    have hW14 := hW10.up eF14 (ok_J (show isJ 3 from Or.inl rfl) ⟨ja7, jb7, jc7, jd7, jx7, jy7, 1, rfl, by omega⟩)
    have hFr14 := hFr10.up eF14 (by simp <;> first | omega | (simp only [isC, isJ] at *; omega))
    refine lv_aload_n S.1 S.2.1 dX7_home_41 rfl (lv_at hl0 0 rfl) ?_
    have hF15 := (show F14 0 = F10 0 by rw [eF14]; exact va_up_ne _ _ (by decide)).trans hF12
    refine r_get S hK hP14 0 (by decide) hF15 (C := RX7) (T := TX7) (N := 15) hiX7 rfl 1 (by decide) (by decide +kernel) (v := .ref (ad 3)) rfl dX7_home_42 ?_
    refine r_get S hK hP14 3 (by decide) hF14 (C := RX1) (T := TX1) (N := 7) hiX1 rfl 3 (by decide) (by decide +kernel) (v := .int jd7) rfl dX7_home_45 ?_
    exact hret 48 _ _ _ _ _ dX7_home_48 rfl hP14 hS14 ⟨hW14, hFr14, trivial⟩
  have k16 := ci_nle (nI_toInt (n := 36) (by omega)) rfl c8
  refine lv_ldc (v := (-1000000003)) S.1 S.2.1 S.2.2.2.1 (S.2.2.2.2 (.constant RX7 181 (-1000000003)) (by decide +kernel)) dX7_home_19 ?_
  exact hret 21 _ _ _ _ _ dX7_home_21 rfl hP hS ⟨hW, hFr, trivial⟩
set_option maxHeartbeats 4000000 in
set_option maxRecDepth 100000 in
theorem c_X7_drift (l : Launch) (D : va_G) (cA ad : Nat → Nat) (t : Nat) (hI : rI ad) (F : Nat → va_E) (hW : WT cA ad F) (p1 : Int32) : MI l D cA ad t yX7_drift wsX7_drift { frames := 5, cells := 0, slots := 0, locals := 109 } [.ref (ad 0), .int p1] F (fun r F' => WT cA ad F' ∧ rFr [0, 3, 4, 5, 6, 7, 8, 9, 10, 11, 12, 13, 14, 15, 16, 17, 18, 19, 20, 21, 22, 23, 24, 25] F F' ∧ (True)) := by
  refine en_I rfl (by decide +kernel) (Nat.le_of_ble_eq_true rfl) ?_
  intro p e s m args below meth c ls0 Q S hK hZ hP hS hl0 hret
  have hl0 : lv_has ls0 3 [(0, .ref (ad 0)), (1, .int p1)] := hl0
  have hFr : rFr [0, 3, 4, 5, 6, 7, 8, 9, 10, 11, 12, 13, 14, 15, 16, 17, 18, 19, 20, 21, 22, 23, 24, 25] F F := rFr.rf
  have hiX1 : ∀ w ∈ u_ws RX1 TX1 7, w ∈ wsX7_drift := by decide +kernel
  have hiX7 : ∀ w ∈ u_ws RX7 TX7 15, w ∈ wsX7_drift := by decide +kernel
  refine lv_iload_n S.1 S.2.1 dX7_drift_0 rfl (lv_at hl0 1 rfl) ?_
  refine lv_iconst (v := (nI 1)) S.1 S.2.1 dX7_drift_1 (by decide +kernel) ?_
  refine lv_icmp_lt (tgt := 11) S.1 S.2.1 dX7_drift_2 (by decide) (fun c1 => ?_) (fun c1 => ?_)
  · skip
    have k2 := ci_lt rfl (nI_toInt (n := 1) (by omega)) c1
    refine lv_ldc (v := (-1000000002)) S.1 S.2.1 S.2.2.2.1 (S.2.2.2.2 (.constant RX7 79 (-1000000002)) (by decide +kernel)) dX7_drift_11 ?_
    exact hret 13 _ _ _ _ _ dX7_drift_13 rfl hP hS ⟨hW, hFr, trivial⟩
  have k3 := ci_nlt rfl (nI_toInt (n := 1) (by omega)) c1
  refine lv_iload_n S.1 S.2.1 dX7_drift_5 rfl (lv_at hl0 1 rfl) ?_
  refine lv_bipush (v := (nI 40)) S.1 S.2.1 dX7_drift_6 (by decide +kernel) ?_
  refine lv_icmp_le (tgt := 14) S.1 S.2.1 dX7_drift_8 (by decide) (fun c4 => ?_) (fun c4 => ?_)
  · skip
    have k5 := ci_le rfl (nI_toInt (n := 40) (by omega)) c4
    obtain ⟨j6, hj6, rfl⟩ := nI_of_le (x := p1) (B := 40) (by omega) (by omega)
    have kj6 := nI_toInt (n := j6) (by omega)
    refine lv_aload_n S.1 S.2.1 dX7_drift_14 rfl (lv_at hl0 0 rfl) ?_
    obtain ⟨c8, d8, k8, dr8, hF8, hc8, hd8, hk8⟩ := wt_main hW
    refine r_cVp (As := []) (rest := []) S hK hZ hP hS hl0.1 0 (by decide) hF8 (C := RX7) rfl (c_X7_cannotGoOn l D cA ad t hI F hW ) (cwV 0 S.2.2.2.2 gX7_drift_X7_cannotGoOn rfl rfl rfl (by decide +kernel) ⟨Nat.le_of_ble_eq_true rfl, Nat.le_of_ble_eq_true rfl⟩) rfl rfl (Nat.le_of_ble_eq_true rfl) ⟨Nat.zero_le _, Nat.zero_le _⟩ dX7_drift_15 (fun r7 hr7 => ?_)
    obtain ⟨b9, hb9, rfl⟩ := hr7
    refine lv_if_eq (tgt := 24) S.1 S.2.1 dX7_drift_18 (by decide) (fun c10 => ?_) (fun c10 => ?_)
    · skip
      have k11 := ci_eq (nI_toInt (n := b9) (by omega)) z_ti c10
      refine lv_aload_n S.1 S.2.1 dX7_drift_24 rfl (lv_at hl0 0 rfl) ?_
      refine r_get S hK hP 0 (by decide) hF8 (C := RX7) (T := TX7) (N := 15) hiX7 rfl 1 (by decide) (by decide +kernel) (v := .ref (ad 3)) rfl dX7_drift_25 ?_
      obtain ⟨ja12, jb12, jc12, jd12, jx12, jy12, jk12, hF12, hk12⟩ := wt_J hW (show isJ 3 from Or.inl rfl)
      refine r_get S hK hP 3 (by decide) hF12 (C := RX1) (T := TX1) (N := 7) hiX1 rfl 1 (by decide) (by decide +kernel) (v := .int jb12) rfl dX7_drift_28 ?_
      refine lv_sipush (v := (nI 9000)) S.1 S.2.1 dX7_drift_31 (by decide +kernel) ?_
      refine lv_icmp_le (tgt := 40) S.1 S.2.1 dX7_drift_34 (by decide) (fun c13 => ?_) (fun c13 => ?_)
      · skip
        have k14 := ci_le rfl (nI_toInt (n := 9000) (by omega)) c13
        refine lv_aload_n S.1 S.2.1 dX7_drift_40 rfl (lv_at hl0 0 rfl) ?_
        refine r_get S hK hP 0 (by decide) hF8 (C := RX7) (T := TX7) (N := 15) hiX7 rfl 2 (by decide) (by decide +kernel) (v := .ref (ad 4)) rfl dX7_drift_41 ?_
        refine lv_aload_n S.1 S.2.1 dX7_drift_44 rfl (lv_at hl0 0 rfl) ?_
        refine r_get S hK hP 0 (by decide) hF8 (C := RX7) (T := TX7) (N := 15) hiX7 rfl 1 (by decide) (by decide +kernel) (v := .ref (ad 3)) rfl dX7_drift_45 ?_
        obtain ⟨k16, hF16, hk16⟩ := wt_past hW
        refine r_cVv (As := [.ref (ad 3)]) (rest := []) S hK hZ hP hS hl0.1 4 (by decide) hF16 (C := RX2) rfl (c_X2_push l D cA ad t hI F hW 3 (show isJ 3 from Or.inl rfl)) (cwV 1 S.2.2.2.2 gX7_drift_X2_push rfl rfl rfl (by decide +kernel) ⟨Nat.le_of_ble_eq_true rfl, Nat.le_of_ble_eq_true rfl⟩) rfl rfl (Nat.le_of_ble_eq_true rfl) ⟨Nat.zero_le _, Nat.zero_le _⟩ dX7_drift_48 (fun F15 H15 locs15 hr15 hP15 hS15 => ?_)
        obtain ⟨hW15, hFc15, hr15⟩ := hr15
        have hFr15 := hFr.tr hFc15 (by simp <;> first | omega | (simp only [isC, isJ] at *; omega))
        refine lv_iconst (v := (nI 0)) S.1 S.2.1 dX7_drift_51 (by decide +kernel) ?_
        refine lv_istore_n (lv' := [(2, .int (nI 0)), (0, .ref (ad 0)), (1, .int (nI j6))]) S.1 S.2.1 dX7_drift_52 rfl hl0 (by decide) rfl (fun ls17 hl17 => ?_)
        have lp18 : ∀ (n18 : Nat) (q218 : Nat), ∀ (Fl18 : Nat → va_E) (Hl18 : Heap) (lol18 : List Loc), q218 ≤ j6 → j6 - q218 < n18 → WT cA ad Fl18 → rFr [0, 3, 4, 5, 6, 7, 8, 9, 10, 11, 12, 13, 14, 15, 16, 17, 18, 19, 20, 21, 22, 23, 24, 25] F Fl18 → va_P D vwCl (rW ad Fl18) Hl18 → va_S (rA ad) s.heap Hl18 lol18 → ∀ (ls : Array Slot), lv_has ls 3 [(2, .int (nI q218)), (0, .ref (ad 0)), (1, .int (nI j6))] → W p l e { frames := 5, cells := 0, slots := 0, locals := 109 } s m args below meth c Hl18 lol18 0 0 Q (F0 m 53 ls []) := by
          intro n18
          induction n18 with
          | zero =>
            intro q218 Fl18 Hl18 lol18 iv18_0 hm18 hWl18 hFl18 hPl18 hSl18 ls18 hl18
            exact absurd hm18 (Nat.not_lt_zero _)
          | succ n18 ih18 =>
            intro q218 Fl18 Hl18 lol18 iv18_0 hm18 hWl18 hFl18 hPl18 hSl18 ls18 hl18
            refine lv_iload_n S.1 S.2.1 dX7_drift_53 rfl (lv_at hl18 0 rfl) ?_
            refine lv_iload_n S.1 S.2.1 dX7_drift_54 rfl (lv_at hl18 2 rfl) ?_
            refine lv_icmp_ge (tgt := 68) S.1 S.2.1 dX7_drift_55 (by decide) (fun c19 => ?_) (fun c19 => ?_)
            · skip
              have k20 := ci_le (nI_toInt (n := j6) (by omega)) (nI_toInt (n := q218) (by omega)) c19
              refine lv_aload_n S.1 S.2.1 dX7_drift_68 rfl (lv_at hl18 1 rfl) ?_
              obtain ⟨c21, d21, k21, dr21, hF21, hc21, hd21, hk21⟩ := wt_main hWl18
              refine r_get S hK hPl18 0 (by decide) hF21 (C := RX7) (T := TX7) (N := 15) hiX7 rfl 1 (by decide) (by decide +kernel) (v := .ref (ad 3)) rfl dX7_drift_69 ?_
              obtain ⟨ja22, jb22, jc22, jd22, jx22, jy22, jk22, hF22, hk22⟩ := wt_J hWl18 (show isJ 3 from Or.inl rfl)
              refine r_get S hK hPl18 3 (by decide) hF22 (C := RX1) (T := TX1) (N := 7) hiX1 rfl 3 (by decide) (by decide +kernel) (v := .int jd22) rfl dX7_drift_72 ?_
              exact hret 75 _ _ _ _ _ dX7_drift_75 rfl hPl18 hSl18 ⟨hWl18, hFl18, trivial⟩
            have k23 := ci_nle (nI_toInt (n := j6) (by omega)) (nI_toInt (n := q218) (by omega)) c19
            refine lv_aload_n S.1 S.2.1 dX7_drift_58 rfl (lv_at hl18 1 rfl) ?_
            obtain ⟨c25, d25, k25, dr25, hF25, hc25, hd25, hk25⟩ := wt_main hWl18
            refine r_cVv (As := []) (rest := []) S hK hZ hPl18 hSl18 hl18.1 0 (by decide) hF25 (C := RX7) rfl (c_X7_driftMonth l D cA ad t hI Fl18 hWl18 ) (cwV 0 S.2.2.2.2 gX7_drift_X7_driftMonth rfl rfl rfl (by decide +kernel) ⟨Nat.le_of_ble_eq_true rfl, Nat.le_of_ble_eq_true rfl⟩) rfl rfl (Nat.le_of_ble_eq_true rfl) ⟨Nat.zero_le _, Nat.zero_le _⟩ dX7_drift_59 (fun F24 H24 locs24 hr24 hP24 hS24 => ?_)
            obtain ⟨hW24, hFc24, hr24⟩ := hr24
            have hFr24 := hFl18.tr hFc24 (by simp <;> first | omega | (simp only [isC, isJ] at *; omega))
            refine lv_iinc (v := (nI (q218 + 1))) (lv' := [(2, .int (nI (q218 + 1))), (0, .ref (ad 0)), (1, .int (nI j6))]) S.1 S.2.1 dX7_drift_62 hl18 (k := 0) rfl (nI_add _ 1) (by decide) rfl (fun ls26 hl26 => ?_)
            refine lv_goto (tgt := 53) S.1 S.2.1 dX7_drift_65 (by decide) ?_
            exact ih18 (q218 + 1) F24 H24 locs24 (by omega) (by omega) hW24 hFr24 hP24 hS24 ls26 (lv_sub hl26 [0, 1, 2] rfl)
        exact lp18 (j6 - (0) + 1) (0) F15 H15 locs15 (by omega) (by omega) hW15 hFr15 hP15 hS15 ls17 (lv_sub hl17 [0, 1, 2] rfl)
      have k27 := ci_nle rfl (nI_toInt (n := 9000) (by omega)) c13
      refine lv_ldc (v := (-1000000004)) S.1 S.2.1 S.2.2.2.1 (S.2.2.2.2 (.constant RX7 84 (-1000000004)) (by decide +kernel)) dX7_drift_37 ?_
      exact hret 39 _ _ _ _ _ dX7_drift_39 rfl hP hS ⟨hW, hFr, trivial⟩
    have k28 := ci_ne (nI_toInt (n := b9) (by omega)) z_ti c10
    refine lv_ldc (v := (-1000000003)) S.1 S.2.1 S.2.2.2.1 (S.2.2.2.2 (.constant RX7 181 (-1000000003)) (by decide +kernel)) dX7_drift_21 ?_
    exact hret 23 _ _ _ _ _ dX7_drift_23 rfl hP hS ⟨hW, hFr, trivial⟩
  have k29 := ci_nle rfl (nI_toInt (n := 40) (by omega)) c4
  refine lv_ldc (v := (-1000000002)) S.1 S.2.1 S.2.2.2.1 (S.2.2.2.2 (.constant RX7 79 (-1000000002)) (by decide +kernel)) dX7_drift_11 ?_
  exact hret 13 _ _ _ _ _ dX7_drift_13 rfl hP hS ⟨hW, hFr, trivial⟩
set_option maxHeartbeats 4000000 in
set_option maxRecDepth 100000 in
theorem c_X7_undo (l : Launch) (D : va_G) (cA ad : Nat → Nat) (t : Nat) (hI : rI ad) (F : Nat → va_E) (hW : WT cA ad F) : MI l D cA ad t yX7_undo wsX7_undo { frames := 2, cells := 0, slots := 0, locals := 42 } [.ref (ad 0)] F (fun r F' => WT cA ad F' ∧ rFr [3, 4] F F' ∧ (True)) := by
  refine en_I rfl (by decide +kernel) (Nat.le_of_ble_eq_true rfl) ?_
  intro p e s m args below meth c ls0 Q S hK hZ hP hS hl0 hret
  have hl0 : lv_has ls0 1 [(0, .ref (ad 0))] := hl0
  have hFr : rFr [3, 4] F F := rFr.rf
  have hiX2 : ∀ w ∈ u_ws RX2 TX2 2, w ∈ wsX7_undo := by decide +kernel
  have hiX7 : ∀ w ∈ u_ws RX7 TX7 15, w ∈ wsX7_undo := by decide +kernel
  refine lv_aload_n S.1 S.2.1 dX7_undo_0 rfl (lv_at hl0 0 rfl) ?_
  obtain ⟨c1, d1, k1, dr1, hF1, hc1, hd1, hk1⟩ := wt_main hW
  refine r_get S hK hP 0 (by decide) hF1 (C := RX7) (T := TX7) (N := 15) hiX7 rfl 2 (by decide) (by decide +kernel) (v := .ref (ad 4)) rfl dX7_undo_1 ?_
  obtain ⟨k2, hF2, hk2⟩ := wt_past hW
  refine r_get S hK hP 4 (by decide) hF2 (C := RX2) (T := TX2) (N := 2) hiX2 rfl 1 (by decide) (by decide +kernel) (v := .int (nI k2)) rfl dX7_undo_4 ?_
  refine lv_if_ne (tgt := 13) S.1 S.2.1 dX7_undo_7 (by decide) (fun c3 => ?_) (fun c3 => ?_)
  · skip
    have k4 := ci_ne (nI_toInt (n := k2) (by omega)) z_ti c3
    refine lv_aload_n S.1 S.2.1 dX7_undo_13 rfl (lv_at hl0 0 rfl) ?_
    refine r_get S hK hP 0 (by decide) hF1 (C := RX7) (T := TX7) (N := 15) hiX7 rfl 2 (by decide) (by decide +kernel) (v := .ref (ad 4)) rfl dX7_undo_14 ?_
    refine lv_aload_n S.1 S.2.1 dX7_undo_17 rfl (lv_at hl0 0 rfl) ?_
    refine r_get S hK hP 0 (by decide) hF1 (C := RX7) (T := TX7) (N := 15) hiX7 rfl 1 (by decide) (by decide +kernel) (v := .ref (ad 3)) rfl dX7_undo_18 ?_
    refine r_cVv (As := [.ref (ad 3)]) (rest := []) S hK hZ hP hS hl0.1 4 (by decide) hF2 (C := RX2) rfl (c_X2_pop l D cA ad t hI F hW 3 (show isJ 3 from Or.inl rfl)) (cwV 1 S.2.2.2.2 gX7_undo_X2_pop rfl rfl rfl (by decide +kernel) ⟨Nat.le_of_ble_eq_true rfl, Nat.le_of_ble_eq_true rfl⟩) rfl rfl (Nat.le_of_ble_eq_true rfl) ⟨Nat.zero_le _, Nat.zero_le _⟩ dX7_undo_21 (fun F5 H5 locs5 hr5 hP5 hS5 => ?_)
    obtain ⟨hW5, hFc5, hr5⟩ := hr5
    have hFr5 := hFr.tr hFc5 (by simp <;> first | omega | (simp only [isC, isJ] at *; omega))
    refine lv_aload_n S.1 S.2.1 dX7_undo_24 rfl (lv_at hl0 0 rfl) ?_
    have hF6 := (hFc5 0 (by decide)).trans hF1
    refine r_get S hK hP5 0 (by decide) hF6 (C := RX7) (T := TX7) (N := 15) hiX7 rfl 2 (by decide) (by decide +kernel) (v := .ref (ad 4)) rfl dX7_undo_25 ?_
    obtain ⟨k7, hF7, hk7⟩ := wt_past hW5
    refine r_get S hK hP5 4 (by decide) hF7 (C := RX2) (T := TX2) (N := 2) hiX2 rfl 1 (by decide) (by decide +kernel) (v := .int (nI k7)) rfl dX7_undo_28 ?_
    exact hret 31 _ _ _ _ _ dX7_undo_31 rfl hP5 hS5 ⟨hW5, hFr5, trivial⟩
  have k8 := ci_eq (nI_toInt (n := k2) (by omega)) z_ti c3
  refine lv_ldc (v := (-1000000003)) S.1 S.2.1 S.2.2.2.1 (S.2.2.2.2 (.constant RX7 181 (-1000000003)) (by decide +kernel)) dX7_undo_10 ?_
  exact hret 12 _ _ _ _ _ dX7_undo_12 rfl hP hS ⟨hW, hFr, trivial⟩
set_option maxHeartbeats 4000000 in
set_option maxRecDepth 100000 in
theorem c_X7_may (l : Launch) (D : va_G) (cA ad : Nat → Nat) (t : Nat) (hI : rI ad) (F : Nat → va_E) (hW : WT cA ad F) (p1 : Int32) : MP l D cA ad t yX7_may wsX7_may { frames := 3, cells := 0, slots := 0, locals := 67 } [.ref (ad 0), .int p1] F (fun r => True) := by
  refine en_P rfl (by decide +kernel) (Nat.le_of_ble_eq_true rfl) ?_
  intro p e s m args below meth c ls0 Q S hK hZ hP hS hl0 hret
  have hl0 : lv_has ls0 2 [(0, .ref (ad 0)), (1, .int p1)] := hl0
  have hiX7 : ∀ w ∈ u_ws RX7 TX7 15, w ∈ wsX7_may := by decide +kernel
  refine lv_iload_n S.1 S.2.1 dX7_may_0 rfl (lv_at hl0 1 rfl) ?_
  refine lv_if_eq (tgt := 12) S.1 S.2.1 dX7_may_1 (by decide) (fun c1 => ?_) (fun c1 => ?_)
  · skip
    have k2 := ci_eq rfl z_ti c1
    refine lv_aload_n S.1 S.2.1 dX7_may_12 rfl (lv_at hl0 0 rfl) ?_
    obtain ⟨c4, d4, k4, dr4, hF4, hc4, hd4, hk4⟩ := wt_main hW
    refine r_cVp (As := []) (rest := []) S hK hZ hP hS hl0.1 0 (by decide) hF4 (C := RX7) rfl (c_X7_cannotGoOn l D cA ad t hI F hW ) (cwV 0 S.2.2.2.2 gX7_may_X7_cannotGoOn rfl rfl rfl (by decide +kernel) ⟨Nat.le_of_ble_eq_true rfl, Nat.le_of_ble_eq_true rfl⟩) rfl rfl (Nat.le_of_ble_eq_true rfl) ⟨Nat.zero_le _, Nat.zero_le _⟩ dX7_may_13 (fun r3 hr3 => ?_)
    obtain ⟨b5, hb5, rfl⟩ := hr3
    refine lv_if_eq (tgt := 22) S.1 S.2.1 dX7_may_16 (by decide) (fun c6 => ?_) (fun c6 => ?_)
    · skip
      have k7 := ci_eq (nI_toInt (n := b5) (by omega)) z_ti c6
      refine lv_iload_n S.1 S.2.1 dX7_may_22 rfl (lv_at hl0 1 rfl) ?_
      refine lv_if_ne (tgt := 38) S.1 S.2.1 dX7_may_23 (by decide) (fun c8 => absurd c1 c8) (fun c8 => ?_)
      have k9 := ci_eq rfl z_ti c8
      refine lv_aload_n S.1 S.2.1 dX7_may_26 rfl (lv_at hl0 0 rfl) ?_
      refine r_get S hK hP 0 (by decide) hF4 (C := RX7) (T := TX7) (N := 15) hiX7 rfl 1 (by decide) (by decide +kernel) (v := .ref (ad 3)) rfl dX7_may_27 ?_
      refine lv_aload_n S.1 S.2.1 dX7_may_30 rfl (lv_at hl0 0 rfl) ?_
      refine r_get S hK hP 0 (by decide) hF4 (C := RX7) (T := TX7) (N := 15) hiX7 rfl 11 (by decide) (by decide +kernel) (v := .ref (ad c4)) rfl dX7_may_31 ?_
      obtain ⟨ja11, jb11, jc11, jd11, jx11, jy11, jk11, hF11, hk11⟩ := wt_J hW (show isJ 3 from Or.inl rfl)
      refine r_cVp (As := [.ref (ad c4)]) (rest := []) S hK hZ hP hS hl0.1 3 (by decide) hF11 (C := RX1) rfl (c_X1_walks l D cA ad t hI F hW 3 (show isJ 3 from Or.inl rfl) c4 hc4) (cwV 1 S.2.2.2.2 gX7_may_X1_walks rfl rfl rfl (by decide +kernel) ⟨Nat.le_of_ble_eq_true rfl, Nat.le_of_ble_eq_true rfl⟩) rfl rfl (Nat.le_of_ble_eq_true rfl) ⟨Nat.zero_le _, Nat.zero_le _⟩ dX7_may_34 (fun r10 hr10 => ?_)
      exact hret 37 _ _ dX7_may_37 rfl (trivial)
    have k12 := ci_ne (nI_toInt (n := b5) (by omega)) z_ti c6
    refine lv_ldc (v := (-1000000003)) S.1 S.2.1 S.2.2.2.1 (S.2.2.2.2 (.constant RX7 181 (-1000000003)) (by decide +kernel)) dX7_may_19 ?_
    exact hret 21 _ _ dX7_may_21 rfl (trivial)
  have k13 := ci_ne rfl z_ti c1
  refine lv_iload_n S.1 S.2.1 dX7_may_4 rfl (lv_at hl0 1 rfl) ?_
  refine lv_iconst (v := (nI 1)) S.1 S.2.1 dX7_may_5 (by decide +kernel) ?_
  refine lv_icmp_eq (tgt := 12) S.1 S.2.1 dX7_may_6 (by decide) (fun c14 => ?_) (fun c14 => ?_)
  · skip
    have k15 := ci_eq rfl (nI_toInt (n := 1) (by omega)) c14
    refine lv_aload_n S.1 S.2.1 dX7_may_12 rfl (lv_at hl0 0 rfl) ?_
    obtain ⟨c17, d17, k17, dr17, hF17, hc17, hd17, hk17⟩ := wt_main hW
    refine r_cVp (As := []) (rest := []) S hK hZ hP hS hl0.1 0 (by decide) hF17 (C := RX7) rfl (c_X7_cannotGoOn l D cA ad t hI F hW ) (cwV 0 S.2.2.2.2 gX7_may_X7_cannotGoOn rfl rfl rfl (by decide +kernel) ⟨Nat.le_of_ble_eq_true rfl, Nat.le_of_ble_eq_true rfl⟩) rfl rfl (Nat.le_of_ble_eq_true rfl) ⟨Nat.zero_le _, Nat.zero_le _⟩ dX7_may_13 (fun r16 hr16 => ?_)
    obtain ⟨b18, hb18, rfl⟩ := hr16
    refine lv_if_eq (tgt := 22) S.1 S.2.1 dX7_may_16 (by decide) (fun c19 => ?_) (fun c19 => ?_)
    · skip
      have k20 := ci_eq (nI_toInt (n := b18) (by omega)) z_ti c19
      refine lv_iload_n S.1 S.2.1 dX7_may_22 rfl (lv_at hl0 1 rfl) ?_
      refine lv_if_ne (tgt := 38) S.1 S.2.1 dX7_may_23 (by decide) (fun c21 => ?_) (fun c21 => absurd c21 c1)
      have k22 := ci_ne rfl z_ti c21
      refine lv_aload_n S.1 S.2.1 dX7_may_38 rfl (lv_at hl0 0 rfl) ?_
      refine r_get S hK hP 0 (by decide) hF17 (C := RX7) (T := TX7) (N := 15) hiX7 rfl 1 (by decide) (by decide +kernel) (v := .ref (ad 3)) rfl dX7_may_39 ?_
      refine lv_aload_n S.1 S.2.1 dX7_may_42 rfl (lv_at hl0 0 rfl) ?_
      refine r_get S hK hP 0 (by decide) hF17 (C := RX7) (T := TX7) (N := 15) hiX7 rfl 11 (by decide) (by decide +kernel) (v := .ref (ad c17)) rfl dX7_may_43 ?_
      obtain ⟨ja24, jb24, jc24, jd24, jx24, jy24, jk24, hF24, hk24⟩ := wt_J hW (show isJ 3 from Or.inl rfl)
      refine r_cVp (As := [.ref (ad c17)]) (rest := []) S hK hZ hP hS hl0.1 3 (by decide) hF24 (C := RX1) rfl (c_X1_mayStay l D cA ad t hI F hW 3 (show isJ 3 from Or.inl rfl) c17 hc17) (cwV 1 S.2.2.2.2 gX7_may_X1_mayStay rfl rfl rfl (by decide +kernel) ⟨Nat.le_of_ble_eq_true rfl, Nat.le_of_ble_eq_true rfl⟩) rfl rfl (Nat.le_of_ble_eq_true rfl) ⟨Nat.zero_le _, Nat.zero_le _⟩ dX7_may_46 (fun r23 hr23 => ?_)
      obtain ⟨b25, hb25, rfl⟩ := hr23
      refine lv_if_eq (tgt := 56) S.1 S.2.1 dX7_may_49 (by decide) (fun c26 => ?_) (fun c26 => ?_)
      · skip
        have k27 := ci_eq (nI_toInt (n := b25) (by omega)) z_ti c26
        refine lv_iconst (v := (nI 0)) S.1 S.2.1 dX7_may_56 (by decide +kernel) ?_
        exact hret 57 _ _ dX7_may_57 rfl (trivial)
      have k28 := ci_ne (nI_toInt (n := b25) (by omega)) z_ti c26
      refine lv_iconst (v := (nI 1)) S.1 S.2.1 dX7_may_52 (by decide +kernel) ?_
      refine lv_goto (tgt := 57) S.1 S.2.1 dX7_may_53 (by decide) ?_
      exact hret 57 _ _ dX7_may_57 rfl (trivial)
    have k29 := ci_ne (nI_toInt (n := b18) (by omega)) z_ti c19
    refine lv_ldc (v := (-1000000003)) S.1 S.2.1 S.2.2.2.1 (S.2.2.2.2 (.constant RX7 181 (-1000000003)) (by decide +kernel)) dX7_may_19 ?_
    exact hret 21 _ _ dX7_may_21 rfl (trivial)
  have k30 := ci_ne rfl (nI_toInt (n := 1) (by omega)) c14
  refine lv_ldc (v := (-1000000002)) S.1 S.2.1 S.2.2.2.1 (S.2.2.2.2 (.constant RX7 79 (-1000000002)) (by decide +kernel)) dX7_may_9 ?_
  exact hret 11 _ _ dX7_may_11 rfl (trivial)
set_option maxHeartbeats 4000000 in
set_option maxRecDepth 100000 in
theorem c_X7_reach (l : Launch) (D : va_G) (cA ad : Nat → Nat) (t : Nat) (hI : rI ad) (F : Nat → va_E) (hW : WT cA ad F) (p1 : Int32) : MI l D cA ad t yX7_reach wsX7_reach { frames := 3, cells := 0, slots := 0, locals := 69 } [.ref (ad 0), .int p1] F (fun r F' => WT cA ad F' ∧ rFr [45] F F' ∧ (True)) := by
  refine en_I rfl (by decide +kernel) (Nat.le_of_ble_eq_true rfl) ?_
  intro p e s m args below meth c ls0 Q S hK hZ hP hS hl0 hret
  have hl0 : lv_has ls0 4 [(0, .ref (ad 0)), (1, .int p1)] := hl0
  have hFr : rFr [45] F F := rFr.rf
  have hiX0 : ∀ w ∈ u_ws RX0 TX0 10, w ∈ wsX7_reach := by decide +kernel
  have hiX1 : ∀ w ∈ u_ws RX1 TX1 7, w ∈ wsX7_reach := by decide +kernel
  have hiX7 : ∀ w ∈ u_ws RX7 TX7 15, w ∈ wsX7_reach := by decide +kernel
  refine lv_aload_n S.1 S.2.1 dX7_reach_0 rfl (lv_at hl0 0 rfl) ?_
  obtain ⟨c1, d1, k1, dr1, hF1, hc1, hd1, hk1⟩ := wt_main hW
  refine r_get S hK hP 0 (by decide) hF1 (C := RX7) (T := TX7) (N := 15) hiX7 rfl 11 (by decide) (by decide +kernel) (v := .ref (ad c1)) rfl dX7_reach_1 ?_
  refine lv_iload_n S.1 S.2.1 dX7_reach_4 rfl (lv_at hl0 1 rfl) ?_
  obtain ⟨sl3, fm3, tn3, rn3, bn3, hF3, hb3_1, hb3_2, hb3_3⟩ := wt_C hW hc1
  refine r_cVp (As := [.int p1]) (rest := []) S hK hZ hP hS hl0.1 c1 (lt_C hc1) hF3 (C := RX0) rfl (c_X0_hasTown l D cA ad t hI F hW c1 hc1 p1) (cwV 1 S.2.2.2.2 gX7_reach_X0_hasTown rfl rfl rfl (by decide +kernel) ⟨Nat.le_of_ble_eq_true rfl, Nat.le_of_ble_eq_true rfl⟩) rfl rfl (Nat.le_of_ble_eq_true rfl) ⟨Nat.zero_le _, Nat.zero_le _⟩ dX7_reach_5 (fun r2 hr2 => ?_)
  obtain ⟨⟨b4, hb4, rfl⟩, hx4⟩ := hr2
  have hx4 : b4 ≠ 0 → 0 ≤ p1.toInt ∧ p1.toInt ≤ _ := fun q => hx4 (nI_ne0 (by omega) (by omega))
  refine lv_if_ne (tgt := 14) S.1 S.2.1 dX7_reach_8 (by decide) (fun c5 => ?_) (fun c5 => ?_)
  · skip
    have k6 := ci_ne (nI_toInt (n := b4) (by omega)) z_ti c5
    refine lv_aload_n S.1 S.2.1 dX7_reach_14 rfl (lv_at hl0 0 rfl) ?_
    refine r_get S hK hP 0 (by decide) hF1 (C := RX7) (T := TX7) (N := 15) hiX7 rfl 1 (by decide) (by decide +kernel) (v := .ref (ad 3)) rfl dX7_reach_15 ?_
    obtain ⟨ja7, jb7, jc7, jd7, jx7, jy7, jk7, hF7, hk7⟩ := wt_J hW (show isJ 3 from Or.inl rfl)
    refine r_get S hK hP 3 (by decide) hF7 (C := RX1) (T := TX1) (N := 7) hiX1 rfl 6 (by decide) (by decide +kernel) (v := .int (nI jk7)) rfl dX7_reach_18 ?_
    refine lv_if_eq (tgt := 27) S.1 S.2.1 dX7_reach_21 (by decide) (fun c8 => ?_) (fun c8 => ?_)
    · skip
      have k9 := ci_eq (nI_toInt (n := jk7) (by omega)) z_ti c8
      refine lv_aload_n S.1 S.2.1 dX7_reach_27 rfl (lv_at hl0 0 rfl) ?_
      refine r_get S hK hP 0 (by decide) hF1 (C := RX7) (T := TX7) (N := 15) hiX7 rfl 11 (by decide) (by decide +kernel) (v := .ref (ad c1)) rfl dX7_reach_28 ?_
      refine lv_aload_n S.1 S.2.1 dX7_reach_31 rfl (lv_at hl0 0 rfl) ?_
      refine r_get S hK hP 0 (by decide) hF1 (C := RX7) (T := TX7) (N := 15) hiX7 rfl 10 (by decide) (by decide +kernel) (v := .ref (ad 45)) rfl dX7_reach_32 ?_
      refine lv_aload_n S.1 S.2.1 dX7_reach_35 rfl (lv_at hl0 0 rfl) ?_
      refine r_get S hK hP 0 (by decide) hF1 (C := RX7) (T := TX7) (N := 15) hiX7 rfl 1 (by decide) (by decide +kernel) (v := .ref (ad 3)) rfl dX7_reach_36 ?_
      refine r_get S hK hP 3 (by decide) hF7 (C := RX1) (T := TX1) (N := 7) hiX1 rfl 5 (by decide) (by decide +kernel) (v := .int jy7) rfl dX7_reach_39 ?_
      refine r_cVv (As := [.ref (ad 45), .int jy7]) (rest := []) S hK hZ hP hS hl0.1 c1 (lt_C hc1) hF3 (C := RX0) rfl (c_X0_fillExits l D cA ad t hI F hW c1 hc1 45 (show (45, 8) ∈ rLI by decide) (by decide) jy7) (cwV 2 S.2.2.2.2 gX7_reach_X0_fillExits rfl rfl rfl (by decide +kernel) ⟨Nat.le_of_ble_eq_true rfl, Nat.le_of_ble_eq_true rfl⟩) rfl rfl (Nat.le_of_ble_eq_true rfl) ⟨Nat.zero_le _, Nat.zero_le _⟩ dX7_reach_42 (fun F10 H10 locs10 hr10 hP10 hS10 => ?_)
      obtain ⟨hW10, hFc10, hr10⟩ := hr10
      have hFr10 := hFr.tr hFc10 (by simp <;> first | omega | (simp only [isC, isJ] at *; omega))
      refine lv_iconst (v := (nI 1)) S.1 S.2.1 dX7_reach_45 (by decide +kernel) ?_
      refine lv_aload_n S.1 S.2.1 dX7_reach_46 rfl (lv_at hl0 0 rfl) ?_
      have hF11 := (hFc10 0 (by decide)).trans hF1
      refine r_get S hK hP10 0 (by decide) hF11 (C := RX7) (T := TX7) (N := 15) hiX7 rfl 1 (by decide) (by decide +kernel) (v := .ref (ad 3)) rfl dX7_reach_47 ?_
      have hF12 := (hFc10 3 (by decide)).trans hF7
      refine r_get S hK hP10 3 (by decide) hF12 (C := RX1) (T := TX1) (N := 7) hiX1 rfl 0 (by decide) (by decide +kernel) (v := .int ja7) rfl dX7_reach_50 ?_
      refine lv_ishl S.1 S.2.1 dX7_reach_53 ?_
      refine lv_topi (fun v13 e13 => ?_)
      refine lv_istore_n (lv' := [(2, .int v13), (0, .ref (ad 0)), (1, .int p1)]) S.1 S.2.1 dX7_reach_54 rfl hl0 (by decide) rfl (fun ls14 hl14 => ?_)
      refine lv_iconst (v := (nI 0)) S.1 S.2.1 dX7_reach_55 (by decide +kernel) ?_
      refine lv_istore_n (lv' := [(3, .int (nI 0)), (2, .int v13), (0, .ref (ad 0)), (1, .int p1)]) S.1 S.2.1 dX7_reach_56 rfl hl14 (by decide) rfl (fun ls15 hl15 => ?_)
      have lp16 : ∀ (n16 : Nat) (q316 : Nat) (x16_2 : Int32), q316 ≤ 8 → 8 - q316 < n16 → ∀ (ls : Array Slot), lv_has ls 4 [(3, .int (nI q316)), (2, .int x16_2), (0, .ref (ad 0)), (1, .int p1)] → W p l e { frames := 3, cells := 0, slots := 0, locals := 69 } s m args below meth c H10 locs10 0 0 Q (F0 m 57 ls []) := by
        intro n16
        induction n16 with
        | zero =>
          intro q316 x16_2 iv16_0 hm16 ls16 hl16
          exact absurd hm16 (Nat.not_lt_zero _)
        | succ n16 ih16 =>
          intro q316 x16_2 iv16_0 hm16 ls16 hl16
          refine lv_iload_n S.1 S.2.1 dX7_reach_57 rfl (lv_at hl16 0 rfl) ?_
          refine lv_aload_n S.1 S.2.1 dX7_reach_58 rfl (lv_at hl16 2 rfl) ?_
          refine r_get S hK hP10 0 (by decide) hF11 (C := RX7) (T := TX7) (N := 15) hiX7 rfl 11 (by decide) (by decide +kernel) (v := .ref (ad c1)) rfl dX7_reach_59 ?_
          have hF17 := (hFc10 c1 (by have hh1 := hc1; unfold isC at hh1; simp only [List.mem_cons, List.not_mem_nil, or_false, not_or]; omega)).trans hF3
          refine r_get S hK hP10 c1 (lt_C hc1) hF17 (C := RX0) (T := TX0) (N := 10) hiX0 rfl 2 (by decide) (by decide +kernel) (v := .int (nI tn3)) rfl dX7_reach_62 ?_
          refine lv_icmp_ge (tgt := 95) S.1 S.2.1 dX7_reach_65 (by decide) (fun c18 => ?_) (fun c18 => ?_)
          · skip
            have k19 := ci_le (nI_toInt (n := tn3) (by omega)) (nI_toInt (n := q316) (by omega)) c18
            refine lv_iconst (v := (-1)) S.1 S.2.1 dX7_reach_95 (by decide +kernel) ?_
            exact hret 96 _ _ _ _ _ dX7_reach_96 rfl hP10 hS10 ⟨hW10, hFr10, trivial⟩
          have k20 := ci_nle (nI_toInt (n := tn3) (by omega)) (nI_toInt (n := q316) (by omega)) c18
          refine lv_iload_n S.1 S.2.1 dX7_reach_68 rfl (lv_at hl16 1 rfl) ?_
          refine lv_iload_n S.1 S.2.1 dX7_reach_69 rfl (lv_at hl16 3 rfl) ?_
          refine lv_ishr S.1 S.2.1 dX7_reach_70 ?_
          refine lv_topi (fun v21 e21 => ?_)
          refine lv_iconst (v := (nI 1)) S.1 S.2.1 dX7_reach_71 (by decide +kernel) ?_
          refine lv_iand S.1 S.2.1 dX7_reach_72 ?_
          refine lv_topi (fun v22 e22 => ?_)
          refine lv_if_eq (tgt := 78) S.1 S.2.1 dX7_reach_73 (by decide) (fun c23 => ?_) (fun c23 => ?_)
          · skip
            have k24 := ci_eq rfl z_ti c23
            refine lv_iload_n S.1 S.2.1 dX7_reach_78 rfl (lv_at hl16 1 rfl) ?_
            refine lv_iload_n S.1 S.2.1 dX7_reach_79 rfl (lv_at hl16 1 rfl) ?_
            refine lv_aload_n S.1 S.2.1 dX7_reach_80 rfl (lv_at hl16 2 rfl) ?_
            refine r_get S hK hP10 0 (by decide) hF11 (C := RX7) (T := TX7) (N := 15) hiX7 rfl 10 (by decide) (by decide +kernel) (v := .ref (ad 45)) rfl dX7_reach_81 ?_
            refine r_cSp (As := [.int x16_2, .ref (ad 45)]) (rest := [.int x16_2]) S hK hZ hP10 hS10 hl16.1 (c_X7_exitsOf l D cA ad t hI F10 hW10 x16_2 45 (show (45, 8) ∈ rLI by decide) (by decide)) (va_cwS 2 S.2.2.2.2 gX7_reach_X7_exitsOf rfl rfl rfl (by decide +kernel) ⟨Nat.le_of_ble_eq_true rfl, Nat.le_of_ble_eq_true rfl⟩) rfl rfl (Nat.le_of_ble_eq_true rfl) ⟨Nat.zero_le _, Nat.zero_le _⟩ dX7_reach_84 (fun r25 hr25 => ?_)
            refine lv_ior S.1 S.2.1 dX7_reach_87 ?_
            refine lv_topi (fun v26 e26 => ?_)
            refine lv_istore_n (lv' := [(2, .int v26), (3, .int (nI q316)), (0, .ref (ad 0)), (1, .int p1)]) S.1 S.2.1 dX7_reach_88 rfl hl16 (by decide) rfl (fun ls27 hl27 => ?_)
            refine lv_iinc (v := (nI (q316 + 1))) (lv' := [(3, .int (nI (q316 + 1))), (2, .int v26), (0, .ref (ad 0)), (1, .int p1)]) S.1 S.2.1 dX7_reach_89 hl27 (k := 1) rfl (nI_add _ 1) (by decide) rfl (fun ls28 hl28 => ?_)
            refine lv_goto (tgt := 57) S.1 S.2.1 dX7_reach_92 (by decide) ?_
            exact ih16 (q316 + 1) (v26) (by omega) (by omega) ls28 (lv_sub hl28 [0, 1, 2, 3] rfl)
          have k29 := ci_ne rfl z_ti c23
          refine lv_iload_n S.1 S.2.1 dX7_reach_76 rfl (lv_at hl16 0 rfl) ?_
          exact hret 77 _ _ _ _ _ dX7_reach_77 rfl hP10 hS10 ⟨hW10, hFr10, trivial⟩
      exact lp16 (8 - (0) + 1) (0) (v13) (by omega) (by omega) ls15 (lv_sub hl15 [0, 1, 2, 3] rfl)
    have k30 := ci_ne (nI_toInt (n := jk7) (by omega)) z_ti c8
    refine lv_ldc (v := (-1000000003)) S.1 S.2.1 S.2.2.2.1 (S.2.2.2.2 (.constant RX7 181 (-1000000003)) (by decide +kernel)) dX7_reach_24 ?_
    exact hret 26 _ _ _ _ _ dX7_reach_26 rfl hP hS ⟨hW, hFr, trivial⟩
  have k31 := ci_eq (nI_toInt (n := b4) (by omega)) z_ti c5
  refine lv_ldc (v := (-1000000001)) S.1 S.2.1 S.2.2.2.1 (S.2.2.2.2 (.constant RX7 147 (-1000000001)) (by decide +kernel)) dX7_reach_11 ?_
  exact hret 13 _ _ _ _ _ dX7_reach_13 rfl hP hS ⟨hW, hFr, trivial⟩
set_option maxHeartbeats 4000000 in
set_option maxRecDepth 100000 in
theorem c_X7_best (l : Launch) (D : va_G) (cA ad : Nat → Nat) (t : Nat) (hI : rI ad) (F : Nat → va_E) (hW : WT cA ad F) (p1 : Int32) (p2 : Int32) : MI l D cA ad t yX7_best wsX7_best { frames := 5, cells := 0, slots := 0, locals := 121 } [.ref (ad 0), .int p1, .int p2] F (fun r F' => WT cA ad F' ∧ rFr [45, 27] F F' ∧ (True)) := by
  refine en_I rfl (by decide +kernel) (Nat.le_of_ble_eq_true rfl) ?_
  intro p e s m args below meth c ls0 Q S hK hZ hP hS hl0 hret
  have hl0 : lv_has ls0 4 [(0, .ref (ad 0)), (1, .int p1), (2, .int p2)] := hl0
  have hFr : rFr [45, 27] F F := rFr.rf
  have hiX1 : ∀ w ∈ u_ws RX1 TX1 7, w ∈ wsX7_best := by decide +kernel
  have hiX7 : ∀ w ∈ u_ws RX7 TX7 15, w ∈ wsX7_best := by decide +kernel
  refine lv_iload_n S.1 S.2.1 dX7_best_0 rfl (lv_at hl0 1 rfl) ?_
  refine lv_iconst (v := (nI 1)) S.1 S.2.1 dX7_best_1 (by decide +kernel) ?_
  refine lv_icmp_lt (tgt := 21) S.1 S.2.1 dX7_best_2 (by decide) (fun c1 => ?_) (fun c1 => ?_)
  · skip
    have k2 := ci_lt rfl (nI_toInt (n := 1) (by omega)) c1
    refine lv_ldc (v := (-1000000002)) S.1 S.2.1 S.2.2.2.1 (S.2.2.2.2 (.constant RX7 79 (-1000000002)) (by decide +kernel)) dX7_best_21 ?_
    exact hret 23 _ _ _ _ _ dX7_best_23 rfl hP hS ⟨hW, hFr, trivial⟩
  have k3 := ci_nlt rfl (nI_toInt (n := 1) (by omega)) c1
  refine lv_iload_n S.1 S.2.1 dX7_best_5 rfl (lv_at hl0 1 rfl) ?_
  refine lv_bipush (v := (nI 36)) S.1 S.2.1 dX7_best_6 (by decide +kernel) ?_
  refine lv_icmp_gt (tgt := 21) S.1 S.2.1 dX7_best_8 (by decide) (fun c4 => ?_) (fun c4 => ?_)
  · skip
    have k5 := ci_lt (nI_toInt (n := 36) (by omega)) rfl c4
    refine lv_ldc (v := (-1000000002)) S.1 S.2.1 S.2.2.2.1 (S.2.2.2.2 (.constant RX7 79 (-1000000002)) (by decide +kernel)) dX7_best_21 ?_
    exact hret 23 _ _ _ _ _ dX7_best_23 rfl hP hS ⟨hW, hFr, trivial⟩
  have k6 := ci_nlt (nI_toInt (n := 36) (by omega)) rfl c4
  refine lv_iload_n S.1 S.2.1 dX7_best_11 rfl (lv_at hl0 2 rfl) ?_
  refine lv_iconst (v := (-1)) S.1 S.2.1 dX7_best_12 (by decide +kernel) ?_
  refine lv_icmp_lt (tgt := 21) S.1 S.2.1 dX7_best_13 (by decide) (fun c7 => ?_) (fun c7 => ?_)
  · skip
    have k8 := ci_lt rfl (show ((-1) : Int32).toInt = -1 by decide +kernel) c7
    refine lv_ldc (v := (-1000000002)) S.1 S.2.1 S.2.2.2.1 (S.2.2.2.2 (.constant RX7 79 (-1000000002)) (by decide +kernel)) dX7_best_21 ?_
    exact hret 23 _ _ _ _ _ dX7_best_23 rfl hP hS ⟨hW, hFr, trivial⟩
  have k9 := ci_nlt rfl (show ((-1) : Int32).toInt = -1 by decide +kernel) c7
  refine lv_iload_n S.1 S.2.1 dX7_best_16 rfl (lv_at hl0 2 rfl) ?_
  refine lv_iload_n S.1 S.2.1 dX7_best_17 rfl (lv_at hl0 1 rfl) ?_
  refine lv_icmp_lt (tgt := 24) S.1 S.2.1 dX7_best_18 (by decide) (fun c10 => ?_) (fun c10 => ?_)
  · skip
    have k11 := ci_lt rfl rfl c10
    obtain ⟨j12, hj12, rfl⟩ := nI_of_le (x := p1) (B := 36) (by omega) (by omega)
    have kj12 := nI_toInt (n := j12) (by omega)
    refine lv_aload_n S.1 S.2.1 dX7_best_24 rfl (lv_at hl0 0 rfl) ?_
    obtain ⟨c14, d14, k14, dr14, hF14, hc14, hd14, hk14⟩ := wt_main hW
    refine r_cVp (As := []) (rest := []) S hK hZ hP hS hl0.1 0 (by decide) hF14 (C := RX7) rfl (c_X7_cannotGoOn l D cA ad t hI F hW ) (cwV 0 S.2.2.2.2 gX7_best_X7_cannotGoOn rfl rfl rfl (by decide +kernel) ⟨Nat.le_of_ble_eq_true rfl, Nat.le_of_ble_eq_true rfl⟩) rfl rfl (Nat.le_of_ble_eq_true rfl) ⟨Nat.zero_le _, Nat.zero_le _⟩ dX7_best_25 (fun r13 hr13 => ?_)
    obtain ⟨b15, hb15, rfl⟩ := hr13
    refine lv_if_eq (tgt := 34) S.1 S.2.1 dX7_best_28 (by decide) (fun c16 => ?_) (fun c16 => ?_)
    · skip
      have k17 := ci_eq (nI_toInt (n := b15) (by omega)) z_ti c16
      refine lv_aload_n S.1 S.2.1 dX7_best_34 rfl (lv_at hl0 0 rfl) ?_
      refine r_get S hK hP 0 (by decide) hF14 (C := RX7) (T := TX7) (N := 15) hiX7 rfl 11 (by decide) (by decide +kernel) (v := .ref (ad c14)) rfl dX7_best_35 ?_
      refine lv_aload_n S.1 S.2.1 dX7_best_38 rfl (lv_at hl0 0 rfl) ?_
      refine r_get S hK hP 0 (by decide) hF14 (C := RX7) (T := TX7) (N := 15) hiX7 rfl 10 (by decide) (by decide +kernel) (v := .ref (ad 45)) rfl dX7_best_39 ?_
      refine lv_aload_n S.1 S.2.1 dX7_best_42 rfl (lv_at hl0 0 rfl) ?_
      refine r_get S hK hP 0 (by decide) hF14 (C := RX7) (T := TX7) (N := 15) hiX7 rfl 1 (by decide) (by decide +kernel) (v := .ref (ad 3)) rfl dX7_best_43 ?_
      obtain ⟨ja18, jb18, jc18, jd18, jx18, jy18, jk18, hF18, hk18⟩ := wt_J hW (show isJ 3 from Or.inl rfl)
      refine r_get S hK hP 3 (by decide) hF18 (C := RX1) (T := TX1) (N := 7) hiX1 rfl 5 (by decide) (by decide +kernel) (v := .int jy18) rfl dX7_best_46 ?_
      obtain ⟨sl20, fm20, tn20, rn20, bn20, hF20, hb20_1, hb20_2, hb20_3⟩ := wt_C hW hc14
      refine r_cVv (As := [.ref (ad 45), .int jy18]) (rest := []) S hK hZ hP hS hl0.1 c14 (lt_C hc14) hF20 (C := RX0) rfl (c_X0_fillExits l D cA ad t hI F hW c14 hc14 45 (show (45, 8) ∈ rLI by decide) (by decide) jy18) (cwV 2 S.2.2.2.2 gX7_best_X0_fillExits rfl rfl rfl (by decide +kernel) ⟨Nat.le_of_ble_eq_true rfl, Nat.le_of_ble_eq_true rfl⟩) rfl rfl (Nat.le_of_ble_eq_true rfl) ⟨Nat.zero_le _, Nat.zero_le _⟩ dX7_best_49 (fun F19 H19 locs19 hr19 hP19 hS19 => ?_)
      obtain ⟨hW19, hFc19, hr19⟩ := hr19
      have hFr19 := hFr.tr hFc19 (by simp <;> first | omega | (simp only [isC, isJ] at *; omega))
      refine lv_aload_n S.1 S.2.1 dX7_best_52 rfl (lv_at hl0 0 rfl) ?_
      have hF21 := (hFc19 0 (by decide)).trans hF14
      refine r_get S hK hP19 0 (by decide) hF21 (C := RX7) (T := TX7) (N := 15) hiX7 rfl 3 (by decide) (by decide +kernel) (v := .ref (ad 26)) rfl dX7_best_53 ?_
      refine lv_aload_n S.1 S.2.1 dX7_best_56 rfl (lv_at hl0 0 rfl) ?_
      refine r_get S hK hP19 0 (by decide) hF21 (C := RX7) (T := TX7) (N := 15) hiX7 rfl 11 (by decide) (by decide +kernel) (v := .ref (ad c14)) rfl dX7_best_57 ?_
      refine lv_aload_n S.1 S.2.1 dX7_best_60 rfl (lv_at hl0 0 rfl) ?_
      refine r_get S hK hP19 0 (by decide) hF21 (C := RX7) (T := TX7) (N := 15) hiX7 rfl 10 (by decide) (by decide +kernel) (v := .ref (ad 45)) rfl dX7_best_61 ?_
      refine lv_aload_n S.1 S.2.1 dX7_best_64 rfl (lv_at hl0 0 rfl) ?_
      refine r_get S hK hP19 0 (by decide) hF21 (C := RX7) (T := TX7) (N := 15) hiX7 rfl 1 (by decide) (by decide +kernel) (v := .ref (ad 3)) rfl dX7_best_65 ?_
      have hF22 := (hFc19 3 (by decide)).trans hF18
      refine r_get S hK hP19 3 (by decide) hF22 (C := RX1) (T := TX1) (N := 7) hiX1 rfl 1 (by decide) (by decide +kernel) (v := .int jb18) rfl dX7_best_68 ?_
      refine lv_iload_n S.1 S.2.1 dX7_best_71 rfl (lv_at hl0 1 rfl) ?_
      have hF24 := wt_plan hW19
      unfold okPlan at hF24
      refine r_cVv (As := [.ref (ad c14), .ref (ad 45), .int jb18, .int (nI j12)]) (rest := []) S hK hZ hP19 hS19 hl0.1 26 (by decide) hF24 (C := RX3) rfl (c_X3_fill l D cA ad t hI F19 hW19 c14 hc14 45 (show (45, 8) ∈ rLI by decide) (by decide) jb18 (j12) (by omega)) (cwV 4 S.2.2.2.2 gX7_best_X3_fill rfl rfl rfl (by decide +kernel) ⟨Nat.le_of_ble_eq_true rfl, Nat.le_of_ble_eq_true rfl⟩) rfl rfl (Nat.le_of_ble_eq_true rfl) ⟨Nat.zero_le _, Nat.zero_le _⟩ dX7_best_72 (fun F23 H23 locs23 hr23 hP23 hS23 => ?_)
      obtain ⟨hW23, hFc23, hr23⟩ := hr23
      have hFr23 := hFr19.tr hFc23 (by simp <;> first | omega | (simp only [isC, isJ] at *; omega))
      refine lv_aload_n S.1 S.2.1 dX7_best_75 rfl (lv_at hl0 0 rfl) ?_
      have hF25 := (hFc23 0 (by decide)).trans hF21
      refine r_get S hK hP23 0 (by decide) hF25 (C := RX7) (T := TX7) (N := 15) hiX7 rfl 3 (by decide) (by decide +kernel) (v := .ref (ad 26)) rfl dX7_best_76 ?_
      refine lv_iconst (v := (nI 0)) S.1 S.2.1 dX7_best_79 (by decide +kernel) ?_
      refine lv_aload_n S.1 S.2.1 dX7_best_80 rfl (lv_at hl0 0 rfl) ?_
      refine r_get S hK hP23 0 (by decide) hF25 (C := RX7) (T := TX7) (N := 15) hiX7 rfl 1 (by decide) (by decide +kernel) (v := .ref (ad 3)) rfl dX7_best_81 ?_
      have hF26 := (hFc23 3 (by decide)).trans hF22
      refine r_get S hK hP23 3 (by decide) hF26 (C := RX1) (T := TX1) (N := 7) hiX1 rfl 0 (by decide) (by decide +kernel) (v := .int ja18) rfl dX7_best_84 ?_
      refine lv_aload_n S.1 S.2.1 dX7_best_87 rfl (lv_at hl0 0 rfl) ?_
      refine r_get S hK hP23 0 (by decide) hF25 (C := RX7) (T := TX7) (N := 15) hiX7 rfl 1 (by decide) (by decide +kernel) (v := .ref (ad 3)) rfl dX7_best_88 ?_
      refine r_get S hK hP23 3 (by decide) hF26 (C := RX1) (T := TX1) (N := 7) hiX1 rfl 2 (by decide) (by decide +kernel) (v := .int jc18) rfl dX7_best_91 ?_
      have hF28 := (hFc23 26 (by decide)).trans hF24
      refine r_cVp (As := [.int (nI 0), .int ja18, .int jc18]) (rest := []) S hK hZ hP23 hS23 hl0.1 26 (by decide) hF28 (C := RX3) rfl (c_X3_mostFrom l D cA ad t hI F23 hW23 (nI 0) ja18 jc18) (cwV 3 S.2.2.2.2 gX7_best_X3_mostFrom rfl rfl rfl (by decide +kernel) ⟨Nat.le_of_ble_eq_true rfl, Nat.le_of_ble_eq_true rfl⟩) rfl rfl (Nat.le_of_ble_eq_true rfl) ⟨Nat.zero_le _, Nat.zero_le _⟩ dX7_best_94 (fun r27 hr27 => ?_)
      refine lv_istore_n (lv' := [(3, .int r27), (0, .ref (ad 0)), (1, .int (nI j12)), (2, .int p2)]) S.1 S.2.1 dX7_best_97 rfl hl0 (by decide) rfl (fun ls29 hl29 => ?_)
      refine lv_iload_n S.1 S.2.1 dX7_best_98 rfl (lv_at hl29 3 rfl) ?_
      refine lv_iconst (v := (-1)) S.1 S.2.1 dX7_best_99 (by decide +kernel) ?_
      refine lv_icmp_eq (tgt := 108) S.1 S.2.1 dX7_best_100 (by decide) (fun c30 => ?_) (fun c30 => ?_)
      · skip
        have k31 := ci_eq rfl (show ((-1) : Int32).toInt = -1 by decide +kernel) c30
        refine lv_iload_n S.1 S.2.1 dX7_best_108 rfl (lv_at hl29 0 rfl) ?_
        exact hret 109 _ _ _ _ _ dX7_best_109 rfl hP23 hS23 ⟨hW23, hFr23, trivial⟩
      have k32 := ci_ne rfl (show ((-1) : Int32).toInt = -1 by decide +kernel) c30
      refine lv_iload_n S.1 S.2.1 dX7_best_103 rfl (lv_at hl29 0 rfl) ?_
      refine lv_iconst (v := (-1)) S.1 S.2.1 dX7_best_104 (by decide +kernel) ?_
      refine lv_icmp_ne (tgt := 110) S.1 S.2.1 dX7_best_105 (by decide) (fun c33 => ?_) (fun c33 => ?_)
      · skip
        have k34 := ci_ne rfl (show ((-1) : Int32).toInt = -1 by decide +kernel) c33
        obtain ⟨j35, hj35, rfl⟩ := nI_of_le (x := p2) (B := 35) (by omega) (by omega)
        have kj35 := nI_toInt (n := j35) (by omega)
        refine lv_aload_n S.1 S.2.1 dX7_best_110 rfl (lv_at hl29 1 rfl) ?_
        refine r_get S hK hP23 0 (by decide) hF25 (C := RX7) (T := TX7) (N := 15) hiX7 rfl 3 (by decide) (by decide +kernel) (v := .ref (ad 26)) rfl dX7_best_111 ?_
        refine lv_aload_n S.1 S.2.1 dX7_best_114 rfl (lv_at hl29 1 rfl) ?_
        refine r_get S hK hP23 0 (by decide) hF25 (C := RX7) (T := TX7) (N := 15) hiX7 rfl 11 (by decide) (by decide +kernel) (v := .ref (ad c14)) rfl dX7_best_115 ?_
        refine lv_aload_n S.1 S.2.1 dX7_best_118 rfl (lv_at hl29 1 rfl) ?_
        refine r_get S hK hP23 0 (by decide) hF25 (C := RX7) (T := TX7) (N := 15) hiX7 rfl 10 (by decide) (by decide +kernel) (v := .ref (ad 45)) rfl dX7_best_119 ?_
        refine lv_aload_n S.1 S.2.1 dX7_best_122 rfl (lv_at hl29 1 rfl) ?_
        refine r_get S hK hP23 0 (by decide) hF25 (C := RX7) (T := TX7) (N := 15) hiX7 rfl 1 (by decide) (by decide +kernel) (v := .ref (ad 3)) rfl dX7_best_123 ?_
        refine lv_iload_n S.1 S.2.1 dX7_best_126 rfl (lv_at hl29 3 rfl) ?_
        refine r_cVp (As := [.ref (ad c14), .ref (ad 45), .ref (ad 3), .int (nI j35)]) (rest := []) S hK hZ hP23 hS23 hl29.1 26 (by decide) hF28 (C := RX3) rfl (c_X3_townBehind l D cA ad t hI F23 hW23 c14 hc14 45 (show (45, 8) ∈ rLI by decide) (by decide) 3 (show isJ 3 from Or.inl rfl) (j35) (by omega)) (cwV 4 S.2.2.2.2 gX7_best_X3_townBehind rfl rfl rfl (by decide +kernel) ⟨Nat.le_of_ble_eq_true rfl, Nat.le_of_ble_eq_true rfl⟩) rfl rfl (Nat.le_of_ble_eq_true rfl) ⟨Nat.zero_le _, Nat.zero_le _⟩ dX7_best_127 (fun r36 hr36 => ?_)
        exact hret 130 _ _ _ _ _ dX7_best_130 rfl hP23 hS23 ⟨hW23, hFr23, trivial⟩
      have k37 := ci_eq rfl (show ((-1) : Int32).toInt = -1 by decide +kernel) c33
      refine lv_iload_n S.1 S.2.1 dX7_best_108 rfl (lv_at hl29 0 rfl) ?_
      exact hret 109 _ _ _ _ _ dX7_best_109 rfl hP23 hS23 ⟨hW23, hFr23, trivial⟩
    have k38 := ci_ne (nI_toInt (n := b15) (by omega)) z_ti c16
    refine lv_ldc (v := (-1000000003)) S.1 S.2.1 S.2.2.2.1 (S.2.2.2.2 (.constant RX7 181 (-1000000003)) (by decide +kernel)) dX7_best_31 ?_
    exact hret 33 _ _ _ _ _ dX7_best_33 rfl hP hS ⟨hW, hFr, trivial⟩
  have k39 := ci_nlt rfl rfl c10
  refine lv_ldc (v := (-1000000002)) S.1 S.2.1 S.2.2.2.1 (S.2.2.2.2 (.constant RX7 79 (-1000000002)) (by decide +kernel)) dX7_best_21 ?_
  exact hret 23 _ _ _ _ _ dX7_best_23 rfl hP hS ⟨hW, hFr, trivial⟩
set_option maxHeartbeats 4000000 in
set_option maxRecDepth 100000 in
theorem c_X7_seals (l : Launch) (D : va_G) (cA ad : Nat → Nat) (t : Nat) (hI : rI ad) (F : Nat → va_E) (hW : WT cA ad F) (p1 : Int32) : MI l D cA ad t yX7_seals wsX7_seals { frames := 4, cells := 0, slots := 0, locals := 106 } [.ref (ad 0), .int p1] F (fun r F' => WT cA ad F' ∧ rFr [45, 30, 31, 32] F F' ∧ (True)) := by
  refine en_I rfl (by decide +kernel) (Nat.le_of_ble_eq_true rfl) ?_
  intro p e s m args below meth c ls0 Q S hK hZ hP hS hl0 hret
  have hl0 : lv_has ls0 2 [(0, .ref (ad 0)), (1, .int p1)] := hl0
  have hFr : rFr [45, 30, 31, 32] F F := rFr.rf
  have hiX1 : ∀ w ∈ u_ws RX1 TX1 7, w ∈ wsX7_seals := by decide +kernel
  have hiX7 : ∀ w ∈ u_ws RX7 TX7 15, w ∈ wsX7_seals := by decide +kernel
  refine lv_iload_n S.1 S.2.1 dX7_seals_0 rfl (lv_at hl0 1 rfl) ?_
  refine lv_aload_n S.1 S.2.1 dX7_seals_1 rfl (lv_at hl0 0 rfl) ?_
  obtain ⟨c1, d1, k1, dr1, hF1, hc1, hd1, hk1⟩ := wt_main hW
  refine r_get S hK hP 0 (by decide) hF1 (C := RX7) (T := TX7) (N := 15) hiX7 rfl 11 (by decide) (by decide +kernel) (v := .ref (ad c1)) rfl dX7_seals_2 ?_
  obtain ⟨sl3, fm3, tn3, rn3, bn3, hF3, hb3_1, hb3_2, hb3_3⟩ := wt_C hW hc1
  refine r_cVp (As := []) (rest := [.int p1]) S hK hZ hP hS hl0.1 c1 (lt_C hc1) hF3 (C := RX0) rfl (c_X0_allTowns l D cA ad t hI F hW c1 hc1) (cwV 0 S.2.2.2.2 gX7_seals_X0_allTowns rfl rfl rfl (by decide +kernel) ⟨Nat.le_of_ble_eq_true rfl, Nat.le_of_ble_eq_true rfl⟩) rfl rfl (Nat.le_of_ble_eq_true rfl) ⟨Nat.zero_le _, Nat.zero_le _⟩ dX7_seals_5 (fun r2 hr2 => ?_)
  obtain ⟨ka4, hka4, ea4⟩ := hr2
  refine lv_iconst (v := (-1)) S.1 S.2.1 dX7_seals_8 (by decide +kernel) ?_
  refine lv_ixor S.1 S.2.1 dX7_seals_9 ?_
  refine lv_topi (fun v5 e5 => ?_)
  refine lv_iand S.1 S.2.1 dX7_seals_10 ?_
  refine lv_topi (fun v6 e6 => ?_)
  refine lv_if_eq (tgt := 17) S.1 S.2.1 dX7_seals_11 (by decide) (fun c7 => ?_) (fun c7 => ?_)
  · skip
    have k8 := ci_eq rfl z_ti c7
    obtain ⟨j9, hj9, rfl⟩ := and_bd (x := p1) hka4 (by rw [← ea4, ← e5, ← e6]; exact c7)
    refine lv_aload_n S.1 S.2.1 dX7_seals_17 rfl (lv_at hl0 0 rfl) ?_
    refine r_cVp (As := []) (rest := []) S hK hZ hP hS hl0.1 0 (by decide) hF1 (C := RX7) rfl (c_X7_cannotGoOn l D cA ad t hI F hW ) (cwV 0 S.2.2.2.2 gX7_seals_X7_cannotGoOn rfl rfl rfl (by decide +kernel) ⟨Nat.le_of_ble_eq_true rfl, Nat.le_of_ble_eq_true rfl⟩) rfl rfl (Nat.le_of_ble_eq_true rfl) ⟨Nat.zero_le _, Nat.zero_le _⟩ dX7_seals_18 (fun r10 hr10 => ?_)
    obtain ⟨b11, hb11, rfl⟩ := hr10
    refine lv_if_eq (tgt := 27) S.1 S.2.1 dX7_seals_21 (by decide) (fun c12 => ?_) (fun c12 => ?_)
    · skip
      have k13 := ci_eq (nI_toInt (n := b11) (by omega)) z_ti c12
      refine lv_aload_n S.1 S.2.1 dX7_seals_27 rfl (lv_at hl0 0 rfl) ?_
      refine r_get S hK hP 0 (by decide) hF1 (C := RX7) (T := TX7) (N := 15) hiX7 rfl 11 (by decide) (by decide +kernel) (v := .ref (ad c1)) rfl dX7_seals_28 ?_
      refine lv_aload_n S.1 S.2.1 dX7_seals_31 rfl (lv_at hl0 0 rfl) ?_
      refine r_get S hK hP 0 (by decide) hF1 (C := RX7) (T := TX7) (N := 15) hiX7 rfl 10 (by decide) (by decide +kernel) (v := .ref (ad 45)) rfl dX7_seals_32 ?_
      refine lv_aload_n S.1 S.2.1 dX7_seals_35 rfl (lv_at hl0 0 rfl) ?_
      refine r_get S hK hP 0 (by decide) hF1 (C := RX7) (T := TX7) (N := 15) hiX7 rfl 1 (by decide) (by decide +kernel) (v := .ref (ad 3)) rfl dX7_seals_36 ?_
      obtain ⟨ja14, jb14, jc14, jd14, jx14, jy14, jk14, hF14, hk14⟩ := wt_J hW (show isJ 3 from Or.inl rfl)
      refine r_get S hK hP 3 (by decide) hF14 (C := RX1) (T := TX1) (N := 7) hiX1 rfl 5 (by decide) (by decide +kernel) (v := .int jy14) rfl dX7_seals_39 ?_
      refine r_cVv (As := [.ref (ad 45), .int jy14]) (rest := []) S hK hZ hP hS hl0.1 c1 (lt_C hc1) hF3 (C := RX0) rfl (c_X0_fillExits l D cA ad t hI F hW c1 hc1 45 (show (45, 8) ∈ rLI by decide) (by decide) jy14) (cwV 2 S.2.2.2.2 gX7_seals_X0_fillExits rfl rfl rfl (by decide +kernel) ⟨Nat.le_of_ble_eq_true rfl, Nat.le_of_ble_eq_true rfl⟩) rfl rfl (Nat.le_of_ble_eq_true rfl) ⟨Nat.zero_le _, Nat.zero_le _⟩ dX7_seals_42 (fun F15 H15 locs15 hr15 hP15 hS15 => ?_)
      obtain ⟨hW15, hFc15, hr15⟩ := hr15
      have hFr15 := hFr.tr hFc15 (by simp <;> first | omega | (simp only [isC, isJ] at *; omega))
      refine lv_aload_n S.1 S.2.1 dX7_seals_45 rfl (lv_at hl0 0 rfl) ?_
      have hF16 := (hFc15 0 (by decide)).trans hF1
      refine r_get S hK hP15 0 (by decide) hF16 (C := RX7) (T := TX7) (N := 15) hiX7 rfl 4 (by decide) (by decide +kernel) (v := .ref (ad 30)) rfl dX7_seals_46 ?_
      refine lv_aload_n S.1 S.2.1 dX7_seals_49 rfl (lv_at hl0 0 rfl) ?_
      refine r_get S hK hP15 0 (by decide) hF16 (C := RX7) (T := TX7) (N := 15) hiX7 rfl 11 (by decide) (by decide +kernel) (v := .ref (ad c1)) rfl dX7_seals_50 ?_
      refine lv_aload_n S.1 S.2.1 dX7_seals_53 rfl (lv_at hl0 0 rfl) ?_
      refine r_get S hK hP15 0 (by decide) hF16 (C := RX7) (T := TX7) (N := 15) hiX7 rfl 10 (by decide) (by decide +kernel) (v := .ref (ad 45)) rfl dX7_seals_54 ?_
      refine lv_aload_n S.1 S.2.1 dX7_seals_57 rfl (lv_at hl0 0 rfl) ?_
      refine r_get S hK hP15 0 (by decide) hF16 (C := RX7) (T := TX7) (N := 15) hiX7 rfl 1 (by decide) (by decide +kernel) (v := .ref (ad 3)) rfl dX7_seals_58 ?_
      refine lv_iload_n S.1 S.2.1 dX7_seals_61 rfl (lv_at hl0 1 rfl) ?_
      obtain ⟨a18, b18, hF18, ha18, hb18⟩ := wt_search hW15
      refine r_cVi (As := [.ref (ad c1), .ref (ad 45), .ref (ad 3), .int (nI j9)]) (rest := []) S hK hZ hP15 hS15 hl0.1 30 (by decide) hF18 (C := RX4) rfl (c_X4_fewestMonths l D cA ad t hI F15 hW15 c1 hc1 45 (show (45, 8) ∈ rLI by decide) (by decide) 3 (show isJ 3 from Or.inl rfl) (j9) (by omega)) (cwV 4 S.2.2.2.2 gX7_seals_X4_fewestMonths rfl rfl rfl (by decide +kernel) ⟨Nat.le_of_ble_eq_true rfl, Nat.le_of_ble_eq_true rfl⟩) rfl rfl (Nat.le_of_ble_eq_true rfl) ⟨Nat.zero_le _, Nat.zero_le _⟩ dX7_seals_62 (fun r17 F17 H17 locs17 hr17 hP17 hS17 => ?_)
      obtain ⟨hW17, hFc17, hr17⟩ := hr17
      have hFr17 := hFr15.tr hFc17 (by simp <;> first | omega | (simp only [isC, isJ] at *; omega))
      exact hret 65 _ _ _ _ _ dX7_seals_65 rfl hP17 hS17 ⟨hW17, hFr17, trivial⟩
    have k19 := ci_ne (nI_toInt (n := b11) (by omega)) z_ti c12
    refine lv_ldc (v := (-1000000003)) S.1 S.2.1 S.2.2.2.1 (S.2.2.2.2 (.constant RX7 181 (-1000000003)) (by decide +kernel)) dX7_seals_24 ?_
    exact hret 26 _ _ _ _ _ dX7_seals_26 rfl hP hS ⟨hW, hFr, trivial⟩
  have k20 := ci_ne rfl z_ti c7
  refine lv_ldc (v := (-1000000001)) S.1 S.2.1 S.2.2.2.1 (S.2.2.2.2 (.constant RX7 147 (-1000000001)) (by decide +kernel)) dX7_seals_14 ?_
  exact hret 16 _ _ _ _ _ dX7_seals_16 rfl hP hS ⟨hW, hFr, trivial⟩
set_option maxHeartbeats 4000000 in
set_option maxRecDepth 100000 in
theorem c_X7_two (l : Launch) (D : va_G) (cA ad : Nat → Nat) (t : Nat) (hI : rI ad) (F : Nat → va_E) (hW : WT cA ad F) (p1 : Int32) : MI l D cA ad t yX7_two wsX7_two { frames := 3, cells := 0, slots := 0, locals := 72 } [.ref (ad 0), .int p1] F (fun r F' => WT cA ad F' ∧ rFr [45, 28, 29] F F' ∧ (True)) := by
  refine en_I rfl (by decide +kernel) (Nat.le_of_ble_eq_true rfl) ?_
  intro p e s m args below meth c ls0 Q S hK hZ hP hS hl0 hret
  have hl0 : lv_has ls0 2 [(0, .ref (ad 0)), (1, .int p1)] := hl0
  have hFr : rFr [45, 28, 29] F F := rFr.rf
  have hiX1 : ∀ w ∈ u_ws RX1 TX1 7, w ∈ wsX7_two := by decide +kernel
  have hiX7 : ∀ w ∈ u_ws RX7 TX7 15, w ∈ wsX7_two := by decide +kernel
  refine lv_aload_n S.1 S.2.1 dX7_two_0 rfl (lv_at hl0 0 rfl) ?_
  obtain ⟨c1, d1, k1, dr1, hF1, hc1, hd1, hk1⟩ := wt_main hW
  refine r_get S hK hP 0 (by decide) hF1 (C := RX7) (T := TX7) (N := 15) hiX7 rfl 11 (by decide) (by decide +kernel) (v := .ref (ad c1)) rfl dX7_two_1 ?_
  refine lv_iload_n S.1 S.2.1 dX7_two_4 rfl (lv_at hl0 1 rfl) ?_
  obtain ⟨sl3, fm3, tn3, rn3, bn3, hF3, hb3_1, hb3_2, hb3_3⟩ := wt_C hW hc1
  refine r_cVp (As := [.int p1]) (rest := []) S hK hZ hP hS hl0.1 c1 (lt_C hc1) hF3 (C := RX0) rfl (c_X0_hasTown l D cA ad t hI F hW c1 hc1 p1) (cwV 1 S.2.2.2.2 gX7_two_X0_hasTown rfl rfl rfl (by decide +kernel) ⟨Nat.le_of_ble_eq_true rfl, Nat.le_of_ble_eq_true rfl⟩) rfl rfl (Nat.le_of_ble_eq_true rfl) ⟨Nat.zero_le _, Nat.zero_le _⟩ dX7_two_5 (fun r2 hr2 => ?_)
  obtain ⟨⟨b4, hb4, rfl⟩, hx4⟩ := hr2
  have hx4 : b4 ≠ 0 → 0 ≤ p1.toInt ∧ p1.toInt ≤ _ := fun q => hx4 (nI_ne0 (by omega) (by omega))
  refine lv_if_ne (tgt := 14) S.1 S.2.1 dX7_two_8 (by decide) (fun c5 => ?_) (fun c5 => ?_)
  · skip
    have k6 := ci_ne (nI_toInt (n := b4) (by omega)) z_ti c5
    refine lv_aload_n S.1 S.2.1 dX7_two_14 rfl (lv_at hl0 0 rfl) ?_
    refine r_get S hK hP 0 (by decide) hF1 (C := RX7) (T := TX7) (N := 15) hiX7 rfl 1 (by decide) (by decide +kernel) (v := .ref (ad 3)) rfl dX7_two_15 ?_
    obtain ⟨ja7, jb7, jc7, jd7, jx7, jy7, jk7, hF7, hk7⟩ := wt_J hW (show isJ 3 from Or.inl rfl)
    refine r_get S hK hP 3 (by decide) hF7 (C := RX1) (T := TX1) (N := 7) hiX1 rfl 6 (by decide) (by decide +kernel) (v := .int (nI jk7)) rfl dX7_two_18 ?_
    refine lv_if_eq (tgt := 27) S.1 S.2.1 dX7_two_21 (by decide) (fun c8 => ?_) (fun c8 => ?_)
    · skip
      have k9 := ci_eq (nI_toInt (n := jk7) (by omega)) z_ti c8
      refine lv_aload_n S.1 S.2.1 dX7_two_27 rfl (lv_at hl0 0 rfl) ?_
      refine r_get S hK hP 0 (by decide) hF1 (C := RX7) (T := TX7) (N := 15) hiX7 rfl 11 (by decide) (by decide +kernel) (v := .ref (ad c1)) rfl dX7_two_28 ?_
      refine lv_aload_n S.1 S.2.1 dX7_two_31 rfl (lv_at hl0 0 rfl) ?_
      refine r_get S hK hP 0 (by decide) hF1 (C := RX7) (T := TX7) (N := 15) hiX7 rfl 10 (by decide) (by decide +kernel) (v := .ref (ad 45)) rfl dX7_two_32 ?_
      refine lv_aload_n S.1 S.2.1 dX7_two_35 rfl (lv_at hl0 0 rfl) ?_
      refine r_get S hK hP 0 (by decide) hF1 (C := RX7) (T := TX7) (N := 15) hiX7 rfl 1 (by decide) (by decide +kernel) (v := .ref (ad 3)) rfl dX7_two_36 ?_
      refine r_get S hK hP 3 (by decide) hF7 (C := RX1) (T := TX1) (N := 7) hiX1 rfl 5 (by decide) (by decide +kernel) (v := .int jy7) rfl dX7_two_39 ?_
      refine r_cVv (As := [.ref (ad 45), .int jy7]) (rest := []) S hK hZ hP hS hl0.1 c1 (lt_C hc1) hF3 (C := RX0) rfl (c_X0_fillExits l D cA ad t hI F hW c1 hc1 45 (show (45, 8) ∈ rLI by decide) (by decide) jy7) (cwV 2 S.2.2.2.2 gX7_two_X0_fillExits rfl rfl rfl (by decide +kernel) ⟨Nat.le_of_ble_eq_true rfl, Nat.le_of_ble_eq_true rfl⟩) rfl rfl (Nat.le_of_ble_eq_true rfl) ⟨Nat.zero_le _, Nat.zero_le _⟩ dX7_two_42 (fun F10 H10 locs10 hr10 hP10 hS10 => ?_)
      obtain ⟨hW10, hFc10, hr10⟩ := hr10
      have hFr10 := hFr.tr hFc10 (by simp <;> first | omega | (simp only [isC, isJ] at *; omega))
      refine lv_aload_n S.1 S.2.1 dX7_two_45 rfl (lv_at hl0 0 rfl) ?_
      have hF11 := (hFc10 0 (by decide)).trans hF1
      refine r_get S hK hP10 0 (by decide) hF11 (C := RX7) (T := TX7) (N := 15) hiX7 rfl 3 (by decide) (by decide +kernel) (v := .ref (ad 26)) rfl dX7_two_46 ?_
      refine lv_aload_n S.1 S.2.1 dX7_two_49 rfl (lv_at hl0 0 rfl) ?_
      refine r_get S hK hP10 0 (by decide) hF11 (C := RX7) (T := TX7) (N := 15) hiX7 rfl 11 (by decide) (by decide +kernel) (v := .ref (ad c1)) rfl dX7_two_50 ?_
      refine lv_aload_n S.1 S.2.1 dX7_two_53 rfl (lv_at hl0 0 rfl) ?_
      refine r_get S hK hP10 0 (by decide) hF11 (C := RX7) (T := TX7) (N := 15) hiX7 rfl 10 (by decide) (by decide +kernel) (v := .ref (ad 45)) rfl dX7_two_54 ?_
      refine lv_aload_n S.1 S.2.1 dX7_two_57 rfl (lv_at hl0 0 rfl) ?_
      refine r_get S hK hP10 0 (by decide) hF11 (C := RX7) (T := TX7) (N := 15) hiX7 rfl 1 (by decide) (by decide +kernel) (v := .ref (ad 3)) rfl dX7_two_58 ?_
      refine lv_iload_n S.1 S.2.1 dX7_two_61 rfl (lv_at hl0 1 rfl) ?_
      have hF13 := wt_plan hW10
      unfold okPlan at hF13
      refine r_cVi (As := [.ref (ad c1), .ref (ad 45), .ref (ad 3), .int p1]) (rest := []) S hK hZ hP10 hS10 hl0.1 26 (by decide) hF13 (C := RX3) rfl (c_X3_monthsToMeet l D cA ad t hI F10 hW10 c1 hc1 45 (show (45, 8) ∈ rLI by decide) (by decide) 3 (show isJ 3 from Or.inl rfl) p1) (cwV 4 S.2.2.2.2 gX7_two_X3_monthsToMeet rfl rfl rfl (by decide +kernel) ⟨Nat.le_of_ble_eq_true rfl, Nat.le_of_ble_eq_true rfl⟩) rfl rfl (Nat.le_of_ble_eq_true rfl) ⟨Nat.zero_le _, Nat.zero_le _⟩ dX7_two_62 (fun r12 F12 H12 locs12 hr12 hP12 hS12 => ?_)
      obtain ⟨hW12, hFc12, hr12⟩ := hr12
      have hFr12 := hFr10.tr hFc12 (by simp <;> first | omega | (simp only [isC, isJ] at *; omega))
      exact hret 65 _ _ _ _ _ dX7_two_65 rfl hP12 hS12 ⟨hW12, hFr12, trivial⟩
    have k14 := ci_ne (nI_toInt (n := jk7) (by omega)) z_ti c8
    refine lv_ldc (v := (-1000000003)) S.1 S.2.1 S.2.2.2.1 (S.2.2.2.2 (.constant RX7 181 (-1000000003)) (by decide +kernel)) dX7_two_24 ?_
    exact hret 26 _ _ _ _ _ dX7_two_26 rfl hP hS ⟨hW, hFr, trivial⟩
  have k15 := ci_eq (nI_toInt (n := b4) (by omega)) z_ti c5
  refine lv_ldc (v := (-1000000001)) S.1 S.2.1 S.2.2.2.1 (S.2.2.2.2 (.constant RX7 147 (-1000000001)) (by decide +kernel)) dX7_two_11 ?_
  exact hret 13 _ _ _ _ _ dX7_two_13 rfl hP hS ⟨hW, hFr, trivial⟩
set_option maxHeartbeats 4000000 in
set_option maxRecDepth 100000 in
theorem c_X7_idle (l : Launch) (D : va_G) (cA ad : Nat → Nat) (t : Nat) (hI : rI ad) (F : Nat → va_E) (hW : WT cA ad F) : MP l D cA ad t yX7_idle wsX7_idle { frames := 1, cells := 0, slots := 0, locals := 21 } [.ref (ad 0)] F (fun r => True) := by
  refine en_P rfl (by decide +kernel) (Nat.le_of_ble_eq_true rfl) ?_
  intro p e s m args below meth c ls0 Q S hK hZ hP hS hl0 hret
  have hl0 : lv_has ls0 3 [(0, .ref (ad 0))] := hl0
  have hiX0 : ∀ w ∈ u_ws RX0 TX0 10, w ∈ wsX7_idle := by decide +kernel
  have hiX7 : ∀ w ∈ u_ws RX7 TX7 15, w ∈ wsX7_idle := by decide +kernel
  refine lv_iconst (v := (nI 0)) S.1 S.2.1 dX7_idle_0 (by decide +kernel) ?_
  refine lv_istore_n (lv' := [(1, .int (nI 0)), (0, .ref (ad 0))]) S.1 S.2.1 dX7_idle_1 rfl hl0 (by decide) rfl (fun ls1 hl1 => ?_)
  refine lv_iconst (v := (nI 0)) S.1 S.2.1 dX7_idle_2 (by decide +kernel) ?_
  refine lv_istore_n (lv' := [(2, .int (nI 0)), (1, .int (nI 0)), (0, .ref (ad 0))]) S.1 S.2.1 dX7_idle_3 rfl hl1 (by decide) rfl (fun ls2 hl2 => ?_)
  have lp3 : ∀ (n3 : Nat) (q23 : Nat) (x3_1 : Int32), q23 ≤ 8 → 8 - q23 < n3 → ∀ (ls : Array Slot), lv_has ls 3 [(2, .int (nI q23)), (1, .int x3_1), (0, .ref (ad 0))] → W p l e { frames := 1, cells := 0, slots := 0, locals := 21 } s m args below meth c s.heap [] 0 0 Q (F0 m 4 ls []) := by
    intro n3
    induction n3 with
    | zero =>
      intro q23 x3_1 iv3_0 hm3 ls3 hl3
      exact absurd hm3 (Nat.not_lt_zero _)
    | succ n3 ih3 =>
      intro q23 x3_1 iv3_0 hm3 ls3 hl3
      refine lv_iload_n S.1 S.2.1 dX7_idle_4 rfl (lv_at hl3 0 rfl) ?_
      refine lv_aload_n S.1 S.2.1 dX7_idle_5 rfl (lv_at hl3 2 rfl) ?_
      obtain ⟨c4, d4, k4, dr4, hF4, hc4, hd4, hk4⟩ := wt_main hW
      refine r_get S hK hP 0 (by decide) hF4 (C := RX7) (T := TX7) (N := 15) hiX7 rfl 11 (by decide) (by decide +kernel) (v := .ref (ad c4)) rfl dX7_idle_6 ?_
      obtain ⟨sl5, fm5, tn5, rn5, bn5, hF5, hb5_1, hb5_2, hb5_3⟩ := wt_C hW hc4
      refine r_get S hK hP c4 (lt_C hc4) hF5 (C := RX0) (T := TX0) (N := 10) hiX0 rfl 2 (by decide) (by decide +kernel) (v := .int (nI tn5)) rfl dX7_idle_9 ?_
      refine lv_icmp_ge (tgt := 44) S.1 S.2.1 dX7_idle_12 (by decide) (fun c6 => ?_) (fun c6 => ?_)
      · skip
        have k7 := ci_le (nI_toInt (n := tn5) (by omega)) (nI_toInt (n := q23) (by omega)) c6
        refine lv_sipush (v := (nI 4095)) S.1 S.2.1 dX7_idle_44 (by decide +kernel) ?_
        refine lv_iload_n S.1 S.2.1 dX7_idle_47 rfl (lv_at hl3 1 rfl) ?_
        refine lv_iconst (v := (-1)) S.1 S.2.1 dX7_idle_48 (by decide +kernel) ?_
        refine lv_ixor S.1 S.2.1 dX7_idle_49 ?_
        refine lv_topi (fun v8 e8 => ?_)
        refine lv_iand S.1 S.2.1 dX7_idle_50 ?_
        refine lv_topi (fun v9 e9 => ?_)
        exact hret 51 _ _ dX7_idle_51 rfl (trivial)
      have k10 := ci_nle (nI_toInt (n := tn5) (by omega)) (nI_toInt (n := q23) (by omega)) c6
      refine lv_aload_n S.1 S.2.1 dX7_idle_15 rfl (lv_at hl3 2 rfl) ?_
      refine r_get S hK hP 0 (by decide) hF4 (C := RX7) (T := TX7) (N := 15) hiX7 rfl 11 (by decide) (by decide +kernel) (v := .ref (ad c4)) rfl dX7_idle_16 ?_
      refine lv_iload_n S.1 S.2.1 dX7_idle_19 rfl (lv_at hl3 0 rfl) ?_
      refine r_cVp (As := [.int (nI q23)]) (rest := []) S hK hZ hP hS hl3.1 c4 (lt_C hc4) hF5 (C := RX0) rfl (c_X0_isBanned l D cA ad t hI F hW c4 hc4 (nI q23)) (cwV 1 S.2.2.2.2 gX7_idle_X0_isBanned rfl rfl rfl (by decide +kernel) ⟨Nat.le_of_ble_eq_true rfl, Nat.le_of_ble_eq_true rfl⟩) rfl rfl (Nat.le_of_ble_eq_true rfl) ⟨Nat.zero_le _, Nat.zero_le _⟩ dX7_idle_20 (fun r11 hr11 => ?_)
      obtain ⟨b12, hb12, rfl⟩ := hr11
      refine lv_if_ne (tgt := 38) S.1 S.2.1 dX7_idle_23 (by decide) (fun c13 => ?_) (fun c13 => ?_)
      · skip
        have k14 := ci_ne (nI_toInt (n := b12) (by omega)) z_ti c13
        refine lv_iinc (v := (nI (q23 + 1))) (lv' := [(2, .int (nI (q23 + 1))), (1, .int x3_1), (0, .ref (ad 0))]) S.1 S.2.1 dX7_idle_38 hl3 (k := 0) rfl (nI_add _ 1) (by decide) rfl (fun ls15 hl15 => ?_)
        refine lv_goto (tgt := 4) S.1 S.2.1 dX7_idle_41 (by decide) ?_
        exact ih3 (q23 + 1) (x3_1) (by omega) (by omega) ls15 (lv_sub hl15 [0, 1, 2] rfl)
      have k16 := ci_eq (nI_toInt (n := b12) (by omega)) z_ti c13
      refine lv_iload_n S.1 S.2.1 dX7_idle_26 rfl (lv_at hl3 1 rfl) ?_
      refine lv_aload_n S.1 S.2.1 dX7_idle_27 rfl (lv_at hl3 2 rfl) ?_
      refine r_get S hK hP 0 (by decide) hF4 (C := RX7) (T := TX7) (N := 15) hiX7 rfl 11 (by decide) (by decide +kernel) (v := .ref (ad c4)) rfl dX7_idle_28 ?_
      refine r_get S hK hP c4 (lt_C hc4) hF5 (C := RX0) (T := TX0) (N := 10) hiX0 rfl 6 (by decide) (by decide +kernel) (v := .ref (ad (c4 + 2))) rfl dX7_idle_31 ?_
      refine lv_iload_n S.1 S.2.1 dX7_idle_34 rfl (lv_at hl3 0 rfl) ?_
      obtain ⟨g17, hF17, hg17⟩ := wt_I hW (C2_I hc4)
      refine r_iald S hK hP (c4 + 2) (lt_I (C2_I hc4)) hF17 (vp_in_nI (show q23 < 8 by omega) (by omega)) dX7_idle_35 ?_
      refine lv_topi (fun v19 e19 => ?_)
      refine lv_ior S.1 S.2.1 dX7_idle_36 ?_
      refine lv_topi (fun v20 e20 => ?_)
      refine lv_istore_n (lv' := [(1, .int v20), (2, .int (nI q23)), (0, .ref (ad 0))]) S.1 S.2.1 dX7_idle_37 rfl hl3 (by decide) rfl (fun ls21 hl21 => ?_)
      refine lv_iinc (v := (nI (q23 + 1))) (lv' := [(2, .int (nI (q23 + 1))), (1, .int v20), (0, .ref (ad 0))]) S.1 S.2.1 dX7_idle_38 hl21 (k := 1) rfl (nI_add _ 1) (by decide) rfl (fun ls22 hl22 => ?_)
      refine lv_goto (tgt := 4) S.1 S.2.1 dX7_idle_41 (by decide) ?_
      exact ih3 (q23 + 1) (v20) (by omega) (by omega) ls22 (lv_sub hl22 [0, 1, 2] rfl)
  exact lp3 (8 - (0) + 1) (0) ((nI 0)) (by omega) (by omega) ls2 (lv_sub hl2 [0, 1, 2] rfl)
set_option maxHeartbeats 4000000 in
set_option maxRecDepth 100000 in
theorem c_X7_stranded (l : Launch) (D : va_G) (cA ad : Nat → Nat) (t : Nat) (hI : rI ad) (F : Nat → va_E) (hW : WT cA ad F) : MI l D cA ad t yX7_stranded wsX7_stranded { frames := 3, cells := 0, slots := 0, locals := 69 } [.ref (ad 0)] F (fun r F' => WT cA ad F' ∧ rFr [45] F F' ∧ (True)) := by
  refine en_I rfl (by decide +kernel) (Nat.le_of_ble_eq_true rfl) ?_
  intro p e s m args below meth c ls0 Q S hK hZ hP hS hl0 hret
  have hl0 : lv_has ls0 3 [(0, .ref (ad 0))] := hl0
  have hFr : rFr [45] F F := rFr.rf
  have hiX0 : ∀ w ∈ u_ws RX0 TX0 10, w ∈ wsX7_stranded := by decide +kernel
  have hiX1 : ∀ w ∈ u_ws RX1 TX1 7, w ∈ wsX7_stranded := by decide +kernel
  have hiX7 : ∀ w ∈ u_ws RX7 TX7 15, w ∈ wsX7_stranded := by decide +kernel
  refine lv_aload_n S.1 S.2.1 dX7_stranded_0 rfl (lv_at hl0 0 rfl) ?_
  obtain ⟨c1, d1, k1, dr1, hF1, hc1, hd1, hk1⟩ := wt_main hW
  refine r_get S hK hP 0 (by decide) hF1 (C := RX7) (T := TX7) (N := 15) hiX7 rfl 11 (by decide) (by decide +kernel) (v := .ref (ad c1)) rfl dX7_stranded_1 ?_
  refine lv_aload_n S.1 S.2.1 dX7_stranded_4 rfl (lv_at hl0 0 rfl) ?_
  refine r_get S hK hP 0 (by decide) hF1 (C := RX7) (T := TX7) (N := 15) hiX7 rfl 10 (by decide) (by decide +kernel) (v := .ref (ad 45)) rfl dX7_stranded_5 ?_
  refine lv_aload_n S.1 S.2.1 dX7_stranded_8 rfl (lv_at hl0 0 rfl) ?_
  refine r_get S hK hP 0 (by decide) hF1 (C := RX7) (T := TX7) (N := 15) hiX7 rfl 1 (by decide) (by decide +kernel) (v := .ref (ad 3)) rfl dX7_stranded_9 ?_
  obtain ⟨ja2, jb2, jc2, jd2, jx2, jy2, jk2, hF2, hk2⟩ := wt_J hW (show isJ 3 from Or.inl rfl)
  refine r_get S hK hP 3 (by decide) hF2 (C := RX1) (T := TX1) (N := 7) hiX1 rfl 5 (by decide) (by decide +kernel) (v := .int jy2) rfl dX7_stranded_12 ?_
  obtain ⟨sl4, fm4, tn4, rn4, bn4, hF4, hb4_1, hb4_2, hb4_3⟩ := wt_C hW hc1
  refine r_cVv (As := [.ref (ad 45), .int jy2]) (rest := []) S hK hZ hP hS hl0.1 c1 (lt_C hc1) hF4 (C := RX0) rfl (c_X0_fillExits l D cA ad t hI F hW c1 hc1 45 (show (45, 8) ∈ rLI by decide) (by decide) jy2) (cwV 2 S.2.2.2.2 gX7_stranded_X0_fillExits rfl rfl rfl (by decide +kernel) ⟨Nat.le_of_ble_eq_true rfl, Nat.le_of_ble_eq_true rfl⟩) rfl rfl (Nat.le_of_ble_eq_true rfl) ⟨Nat.zero_le _, Nat.zero_le _⟩ dX7_stranded_15 (fun F3 H3 locs3 hr3 hP3 hS3 => ?_)
  obtain ⟨hW3, hFc3, hr3⟩ := hr3
  have hFr3 := hFr.tr hFc3 (by simp <;> first | omega | (simp only [isC, isJ] at *; omega))
  refine lv_iconst (v := (nI 0)) S.1 S.2.1 dX7_stranded_18 (by decide +kernel) ?_
  refine lv_istore_n (lv' := [(1, .int (nI 0)), (0, .ref (ad 0))]) S.1 S.2.1 dX7_stranded_19 rfl hl0 (by decide) rfl (fun ls5 hl5 => ?_)
  refine lv_iconst (v := (nI 0)) S.1 S.2.1 dX7_stranded_20 (by decide +kernel) ?_
  refine lv_istore_n (lv' := [(2, .int (nI 0)), (1, .int (nI 0)), (0, .ref (ad 0))]) S.1 S.2.1 dX7_stranded_21 rfl hl5 (by decide) rfl (fun ls6 hl6 => ?_)
  have lp7 : ∀ (n7 : Nat) (q27 : Nat) (x7_1 : Int32), q27 ≤ 8 → 8 - q27 < n7 → ∀ (ls : Array Slot), lv_has ls 3 [(2, .int (nI q27)), (1, .int x7_1), (0, .ref (ad 0))] → W p l e { frames := 3, cells := 0, slots := 0, locals := 69 } s m args below meth c H3 locs3 0 0 Q (F0 m 22 ls []) := by
    intro n7
    induction n7 with
    | zero =>
      intro q27 x7_1 iv7_0 hm7 ls7 hl7
      exact absurd hm7 (Nat.not_lt_zero _)
    | succ n7 ih7 =>
      intro q27 x7_1 iv7_0 hm7 ls7 hl7
      refine lv_iload_n S.1 S.2.1 dX7_stranded_22 rfl (lv_at hl7 0 rfl) ?_
      refine lv_aload_n S.1 S.2.1 dX7_stranded_23 rfl (lv_at hl7 2 rfl) ?_
      have hF8 := (hFc3 0 (by decide)).trans hF1
      refine r_get S hK hP3 0 (by decide) hF8 (C := RX7) (T := TX7) (N := 15) hiX7 rfl 11 (by decide) (by decide +kernel) (v := .ref (ad c1)) rfl dX7_stranded_24 ?_
      have hF9 := (hFc3 c1 (by have hh1 := hc1; unfold isC at hh1; simp only [List.mem_cons, List.not_mem_nil, or_false, not_or]; omega)).trans hF4
      refine r_get S hK hP3 c1 (lt_C hc1) hF9 (C := RX0) (T := TX0) (N := 10) hiX0 rfl 2 (by decide) (by decide +kernel) (v := .int (nI tn4)) rfl dX7_stranded_27 ?_
      refine lv_icmp_ge (tgt := 54) S.1 S.2.1 dX7_stranded_30 (by decide) (fun c10 => ?_) (fun c10 => ?_)
      · skip
        have k11 := ci_le (nI_toInt (n := tn4) (by omega)) (nI_toInt (n := q27) (by omega)) c10
        refine lv_iload_n S.1 S.2.1 dX7_stranded_54 rfl (lv_at hl7 1 rfl) ?_
        exact hret 55 _ _ _ _ _ dX7_stranded_55 rfl hP3 hS3 ⟨hW3, hFr3, trivial⟩
      have k12 := ci_nle (nI_toInt (n := tn4) (by omega)) (nI_toInt (n := q27) (by omega)) c10
      refine lv_aload_n S.1 S.2.1 dX7_stranded_33 rfl (lv_at hl7 2 rfl) ?_
      refine r_get S hK hP3 0 (by decide) hF8 (C := RX7) (T := TX7) (N := 15) hiX7 rfl 10 (by decide) (by decide +kernel) (v := .ref (ad 45)) rfl dX7_stranded_34 ?_
      refine lv_iload_n S.1 S.2.1 dX7_stranded_37 rfl (lv_at hl7 0 rfl) ?_
      obtain ⟨g13, hF13, hg13⟩ := wt_I hW3 (show (45, 8) ∈ rLI by decide)
      refine r_iald S hK hP3 45 (by decide) hF13 (vp_in_nI (show q27 < 8 by omega) (by omega)) dX7_stranded_38 ?_
      refine lv_topi (fun v15 e15 => ?_)
      refine lv_if_ne (tgt := 48) S.1 S.2.1 dX7_stranded_39 (by decide) (fun c16 => ?_) (fun c16 => ?_)
      · skip
        have k17 := ci_ne rfl z_ti c16
        refine lv_iinc (v := (nI (q27 + 1))) (lv' := [(2, .int (nI (q27 + 1))), (1, .int x7_1), (0, .ref (ad 0))]) S.1 S.2.1 dX7_stranded_48 hl7 (k := 0) rfl (nI_add _ 1) (by decide) rfl (fun ls18 hl18 => ?_)
        refine lv_goto (tgt := 22) S.1 S.2.1 dX7_stranded_51 (by decide) ?_
        exact ih7 (q27 + 1) (x7_1) (by omega) (by omega) ls18 (lv_sub hl18 [0, 1, 2] rfl)
      have k19 := ci_eq rfl z_ti c16
      refine lv_iload_n S.1 S.2.1 dX7_stranded_42 rfl (lv_at hl7 1 rfl) ?_
      refine lv_iconst (v := (nI 1)) S.1 S.2.1 dX7_stranded_43 (by decide +kernel) ?_
      refine lv_iload_n S.1 S.2.1 dX7_stranded_44 rfl (lv_at hl7 0 rfl) ?_
      refine lv_ishl S.1 S.2.1 dX7_stranded_45 ?_
      refine lv_topi (fun v20 e20 => ?_)
      refine lv_ior S.1 S.2.1 dX7_stranded_46 ?_
      refine lv_topi (fun v21 e21 => ?_)
      refine lv_istore_n (lv' := [(1, .int v21), (2, .int (nI q27)), (0, .ref (ad 0))]) S.1 S.2.1 dX7_stranded_47 rfl hl7 (by decide) rfl (fun ls22 hl22 => ?_)
      refine lv_iinc (v := (nI (q27 + 1))) (lv' := [(2, .int (nI (q27 + 1))), (1, .int v21), (0, .ref (ad 0))]) S.1 S.2.1 dX7_stranded_48 hl22 (k := 1) rfl (nI_add _ 1) (by decide) rfl (fun ls23 hl23 => ?_)
      refine lv_goto (tgt := 22) S.1 S.2.1 dX7_stranded_51 (by decide) ?_
      exact ih7 (q27 + 1) (v21) (by omega) (by omega) ls23 (lv_sub hl23 [0, 1, 2] rfl)
  exact lp7 (8 - (0) + 1) (0) ((nI 0)) (by omega) (by omega) ls6 (lv_sub hl6 [0, 1, 2] rfl)
set_option maxHeartbeats 4000000 in
set_option maxRecDepth 100000 in
theorem c_X7_snow (l : Launch) (D : va_G) (cA ad : Nat → Nat) (t : Nat) (hI : rI ad) (F : Nat → va_E) (hW : WT cA ad F) (p1 : Int32) (p2 : Int32) : MP l D cA ad t yX7_snow wsX7_snow { frames := 0, cells := 0, slots := 0, locals := 0 } [.ref (ad 0), .int p1, .int p2] F (fun r => r = snR p1 p2) := by
  refine en_P rfl (by decide +kernel) (Nat.le_of_ble_eq_true rfl) ?_
  intro p e s m args below meth c ls0 Q S hK hZ hP hS hl0 hret
  have hl0 : lv_has ls0 6 [(0, .ref (ad 0)), (1, .int p1), (2, .int p2)] := hl0
  refine lv_iload_n S.1 S.2.1 dX7_snow_0 rfl (lv_at hl0 1 rfl) ?_
  refine lv_if_lt (tgt := 20) S.1 S.2.1 dX7_snow_1 (by decide) (fun c1 => ?_) (fun c1 => ?_)
  · skip
    have k2 := ci_lt rfl z_ti c1
    refine lv_ldc (v := (-1000000002)) S.1 S.2.1 S.2.2.2.1 (S.2.2.2.2 (.constant RX7 79 (-1000000002)) (by decide +kernel)) dX7_snow_20 ?_
    exact hret 22 _ _ dX7_snow_22 rfl (by unfold snR; rw [if_pos (by omega)])
  have k3 := ci_nlt rfl z_ti c1
  refine lv_iload_n S.1 S.2.1 dX7_snow_4 rfl (lv_at hl0 1 rfl) ?_
  refine lv_bipush (v := (nI 60)) S.1 S.2.1 dX7_snow_5 (by decide +kernel) ?_
  refine lv_icmp_gt (tgt := 20) S.1 S.2.1 dX7_snow_7 (by decide) (fun c4 => ?_) (fun c4 => ?_)
  · skip
    have k5 := ci_lt (nI_toInt (n := 60) (by omega)) rfl c4
    refine lv_ldc (v := (-1000000002)) S.1 S.2.1 S.2.2.2.1 (S.2.2.2.2 (.constant RX7 79 (-1000000002)) (by decide +kernel)) dX7_snow_20 ?_
    exact hret 22 _ _ dX7_snow_22 rfl (by unfold snR; rw [if_pos (by omega)])
  have k6 := ci_nlt (nI_toInt (n := 60) (by omega)) rfl c4
  refine lv_iload_n S.1 S.2.1 dX7_snow_10 rfl (lv_at hl0 2 rfl) ?_
  refine lv_if_lt (tgt := 20) S.1 S.2.1 dX7_snow_11 (by decide) (fun c7 => ?_) (fun c7 => ?_)
  · skip
    have k8 := ci_lt rfl z_ti c7
    refine lv_ldc (v := (-1000000002)) S.1 S.2.1 S.2.2.2.1 (S.2.2.2.2 (.constant RX7 79 (-1000000002)) (by decide +kernel)) dX7_snow_20 ?_
    exact hret 22 _ _ dX7_snow_22 rfl (by unfold snR; rw [if_pos (by omega)])
  have k9 := ci_nlt rfl z_ti c7
  refine lv_iload_n S.1 S.2.1 dX7_snow_14 rfl (lv_at hl0 2 rfl) ?_
  refine lv_bipush (v := (nI 100)) S.1 S.2.1 dX7_snow_15 (by decide +kernel) ?_
  refine lv_icmp_le (tgt := 23) S.1 S.2.1 dX7_snow_17 (by decide) (fun c10 => ?_) (fun c10 => ?_)
  · skip
    have k11 := ci_le rfl (nI_toInt (n := 100) (by omega)) c10
    obtain ⟨j12, hj12, rfl⟩ := nI_of_le (x := p1) (B := 60) (by omega) (by omega)
    have kj12 := nI_toInt (n := j12) (by omega)
    refine lv_ldc2 (v := 1000000000) S.1 S.2.1 S.2.2.2.1 (S.2.2.2.2 (.constantLong RX7 233 (1000000000)) (by decide +kernel)) dX7_snow_23 ?_
    refine lv_lstore_n (lv' := [(3, .long (1000000000)), (0, .ref (ad 0)), (1, .int (nI j12)), (2, .int p2)]) S.1 S.2.1 dX7_snow_26 rfl hl0 (by decide) rfl (fun ls13 hl13 => ?_)
    refine lv_iconst (v := (nI 0)) S.1 S.2.1 dX7_snow_27 (by decide +kernel) ?_
    refine lv_istore (lv' := [(5, .int (nI 0)), (3, .long (1000000000)), (0, .ref (ad 0)), (1, .int (nI j12)), (2, .int p2)]) S.1 S.2.1 dX7_snow_28 hl13 (by decide) rfl (fun ls14 hl14 => ?_)
    have lp15 : ∀ (n15 : Nat) (q515 : Nat) (x15_3 : Int64), q515 ≤ j12 → x15_3 = snS p2 q515 → j12 - q515 < n15 → ∀ (ls : Array Slot), lv_has ls 6 [(5, .int (nI q515)), (3, .long x15_3), (0, .ref (ad 0)), (1, .int (nI j12)), (2, .int p2)] → W p l e { frames := 0, cells := 0, slots := 0, locals := 0 } s m args below meth c s.heap [] 0 0 Q (F0 m 30 ls []) := by
      intro n15
      induction n15 with
      | zero =>
        intro q515 x15_3 iv15_0 ix15_o hm15 ls15 hl15
        exact absurd hm15 (Nat.not_lt_zero _)
      | succ n15 ih15 =>
        intro q515 x15_3 iv15_0 ix15_o hm15 ls15 hl15
        refine lv_iload S.1 S.2.1 dX7_snow_30 (lv_at hl15 0 rfl) ?_
        refine lv_iload_n S.1 S.2.1 dX7_snow_32 rfl (lv_at hl15 3 rfl) ?_
        refine lv_icmp_ge (tgt := 54) S.1 S.2.1 dX7_snow_33 (by decide) (fun c16 => ?_) (fun c16 => ?_)
        · skip
          have k17 := ci_le (nI_toInt (n := j12) (by omega)) (nI_toInt (n := q515) (by omega)) c16
          refine lv_lload_n S.1 S.2.1 dX7_snow_54 rfl (lv_at hl15 1 rfl) ?_
          refine lv_l2i S.1 S.2.1 dX7_snow_55 rfl ?_
          refine lv_topi (fun v18 e18 => ?_)
          exact hret 56 _ _ dX7_snow_56 rfl (by rw [e18, ix15_o, show q515 = j12 by omega]; unfold snR; rw [if_neg (by omega), nI_clamp (by omega)])
        have k19 := ci_nle (nI_toInt (n := j12) (by omega)) (nI_toInt (n := q515) (by omega)) c16
        refine lv_lload_n S.1 S.2.1 dX7_snow_36 rfl (lv_at hl15 1 rfl) ?_
        refine lv_bipush (v := (nI 100)) S.1 S.2.1 dX7_snow_37 (by decide +kernel) ?_
        refine lv_iload_n S.1 S.2.1 dX7_snow_39 rfl (lv_at hl15 4 rfl) ?_
        refine lv_isub S.1 S.2.1 dX7_snow_40 ?_
        refine lv_topi (fun v20 e20 => ?_)
        refine lv_i2l S.1 S.2.1 dX7_snow_41 rfl ?_
        refine lv_topl (fun v21 e21 => ?_)
        refine lv_lmul S.1 S.2.1 dX7_snow_42 ?_
        refine lv_topl (fun v22 e22 => ?_)
        refine lv_ldc2 (v := 100) S.1 S.2.1 S.2.2.2.1 (S.2.2.2.2 (.constantLong RX7 235 (100)) (by decide +kernel)) dX7_snow_43 ?_
        refine lv_ldiv S.1 S.2.1 dX7_snow_46 (by decide +kernel) ?_
        refine lv_topl (fun v23 e23 => ?_)
        refine lv_lstore_n (lv' := [(3, .long v23), (5, .int (nI q515)), (0, .ref (ad 0)), (1, .int (nI j12)), (2, .int p2)]) S.1 S.2.1 dX7_snow_47 rfl hl15 (by decide) rfl (fun ls24 hl24 => ?_)
        refine lv_iinc (v := (nI (q515 + 1))) (lv' := [(5, .int (nI (q515 + 1))), (3, .long v23), (0, .ref (ad 0)), (1, .int (nI j12)), (2, .int p2)]) S.1 S.2.1 dX7_snow_48 hl24 (k := 1) rfl (nI_add _ 1) (by decide) rfl (fun ls25 hl25 => ?_)
        refine lv_goto (tgt := 30) S.1 S.2.1 dX7_snow_51 (by decide) ?_
        exact ih15 (q515 + 1) (v23) (by omega) (by rw [e23, e22, e21, e20, ix15_o]; rfl) (by omega) ls25 (lv_sub hl25 [0, 1, 2, 3, 4] rfl)
    exact lp15 (j12 - (0) + 1) (0) ((1000000000)) (by omega) (rfl) (by omega) ls14 (lv_sub hl14 [0, 1, 2, 3, 4] rfl)
  have k26 := ci_nle rfl (nI_toInt (n := 100) (by omega)) c10
  refine lv_ldc (v := (-1000000002)) S.1 S.2.1 S.2.2.2.1 (S.2.2.2.2 (.constant RX7 79 (-1000000002)) (by decide +kernel)) dX7_snow_20 ?_
  exact hret 22 _ _ dX7_snow_22 rfl (by unfold snR; rw [if_pos (by omega)])
set_option maxHeartbeats 4000000 in
set_option maxRecDepth 100000 in
theorem c_X7_seal (l : Launch) (D : va_G) (cA ad : Nat → Nat) (t : Nat) (hI : rI ad) (F : Nat → va_E) (hW : WT cA ad F) (p1 : Int32) (p2 : Int32) : MI l D cA ad t yX7_seal wsX7_seal { frames := 1, cells := 0, slots := 0, locals := 22 } [.ref (ad 0), .int p1, .int p2] F (fun r F' => WT cA ad F' ∧ rFr [33, 34, 35] F F' ∧ (True)) := by
  refine en_I rfl (by decide +kernel) (Nat.le_of_ble_eq_true rfl) ?_
  intro p e s m args below meth c ls0 Q S hK hZ hP hS hl0 hret
  have hl0 : lv_has ls0 3 [(0, .ref (ad 0)), (1, .int p1), (2, .int p2)] := hl0
  have hFr : rFr [33, 34, 35] F F := rFr.rf
  have hiX6 : ∀ w ∈ u_ws RX6 TX6 6, w ∈ wsX7_seal := by decide +kernel
  have hiX7 : ∀ w ∈ u_ws RX7 TX7 15, w ∈ wsX7_seal := by decide +kernel
  refine lv_aload_n S.1 S.2.1 dX7_seal_0 rfl (lv_at hl0 0 rfl) ?_
  obtain ⟨c1, d1, k1, dr1, hF1, hc1, hd1, hk1⟩ := wt_main hW
  refine r_get S hK hP 0 (by decide) hF1 (C := RX7) (T := TX7) (N := 15) hiX7 rfl 11 (by decide) (by decide +kernel) (v := .ref (ad c1)) rfl dX7_seal_1 ?_
  refine lv_iload_n S.1 S.2.1 dX7_seal_4 rfl (lv_at hl0 1 rfl) ?_
  obtain ⟨sl3, fm3, tn3, rn3, bn3, hF3, hb3_1, hb3_2, hb3_3⟩ := wt_C hW hc1
  refine r_cVp (As := [.int p1]) (rest := []) S hK hZ hP hS hl0.1 c1 (lt_C hc1) hF3 (C := RX0) rfl (c_X0_hasTown l D cA ad t hI F hW c1 hc1 p1) (cwV 1 S.2.2.2.2 gX7_seal_X0_hasTown rfl rfl rfl (by decide +kernel) ⟨Nat.le_of_ble_eq_true rfl, Nat.le_of_ble_eq_true rfl⟩) rfl rfl (Nat.le_of_ble_eq_true rfl) ⟨Nat.zero_le _, Nat.zero_le _⟩ dX7_seal_5 (fun r2 hr2 => ?_)
  obtain ⟨⟨b4, hb4, rfl⟩, hx4⟩ := hr2
  have hx4 : b4 ≠ 0 → 0 ≤ p1.toInt ∧ p1.toInt ≤ _ := fun q => hx4 (nI_ne0 (by omega) (by omega))
  refine lv_if_ne (tgt := 14) S.1 S.2.1 dX7_seal_8 (by decide) (fun c5 => ?_) (fun c5 => ?_)
  · skip
    have k6 := ci_ne (nI_toInt (n := b4) (by omega)) z_ti c5
    refine lv_iload_n S.1 S.2.1 dX7_seal_14 rfl (lv_at hl0 2 rfl) ?_
    refine lv_if_lt (tgt := 24) S.1 S.2.1 dX7_seal_15 (by decide) (fun c7 => ?_) (fun c7 => ?_)
    · skip
      have k8 := ci_lt rfl z_ti c7
      refine lv_ldc (v := (-1000000002)) S.1 S.2.1 S.2.2.2.1 (S.2.2.2.2 (.constant RX7 79 (-1000000002)) (by decide +kernel)) dX7_seal_24 ?_
      exact hret 26 _ _ _ _ _ dX7_seal_26 rfl hP hS ⟨hW, hFr, trivial⟩
    have k9 := ci_nlt rfl z_ti c7
    refine lv_iload_n S.1 S.2.1 dX7_seal_18 rfl (lv_at hl0 2 rfl) ?_
    refine lv_bipush (v := (nI 48)) S.1 S.2.1 dX7_seal_19 (by decide +kernel) ?_
    refine lv_icmp_lt (tgt := 27) S.1 S.2.1 dX7_seal_21 (by decide) (fun c10 => ?_) (fun c10 => ?_)
    · skip
      have k11 := ci_lt rfl (nI_toInt (n := 48) (by omega)) c10
      refine lv_aload_n S.1 S.2.1 dX7_seal_27 rfl (lv_at hl0 0 rfl) ?_
      refine r_get S hK hP 0 (by decide) hF1 (C := RX7) (T := TX7) (N := 15) hiX7 rfl 5 (by decide) (by decide +kernel) (v := .ref (ad 33)) rfl dX7_seal_28 ?_
      obtain ⟨k12, hF12, hk12⟩ := wt_ways hW
      refine r_get S hK hP 33 (by decide) hF12 (C := RX6) (T := TX6) (N := 6) hiX6 rfl 0 (by decide) (by decide +kernel) (v := .int (nI k12)) rfl dX7_seal_31 ?_
      refine lv_bipush (v := (nI 8)) S.1 S.2.1 dX7_seal_34 (by decide +kernel) ?_
      refine lv_icmp_lt (tgt := 42) S.1 S.2.1 dX7_seal_36 (by decide) (fun c13 => ?_) (fun c13 => ?_)
      · skip
        have k14 := ci_lt (nI_toInt (n := k12) (by omega)) (nI_toInt (n := 8) (by omega)) c13
        refine lv_aload_n S.1 S.2.1 dX7_seal_42 rfl (lv_at hl0 0 rfl) ?_
        refine r_get S hK hP 0 (by decide) hF1 (C := RX7) (T := TX7) (N := 15) hiX7 rfl 5 (by decide) (by decide +kernel) (v := .ref (ad 33)) rfl dX7_seal_43 ?_
        refine lv_iload_n S.1 S.2.1 dX7_seal_46 rfl (lv_at hl0 1 rfl) ?_
        refine lv_iload_n S.1 S.2.1 dX7_seal_47 rfl (lv_at hl0 2 rfl) ?_
        refine r_cVv (As := [.int p1, .int p2]) (rest := []) S hK hZ hP hS hl0.1 33 (by decide) hF12 (C := RX6) rfl (c_X6_add l D cA ad t hI F hW p1 p2) (cwV 2 S.2.2.2.2 gX7_seal_X6_add rfl rfl rfl (by decide +kernel) ⟨Nat.le_of_ble_eq_true rfl, Nat.le_of_ble_eq_true rfl⟩) rfl rfl (Nat.le_of_ble_eq_true rfl) ⟨Nat.zero_le _, Nat.zero_le _⟩ dX7_seal_48 (fun F15 H15 locs15 hr15 hP15 hS15 => ?_)
        obtain ⟨hW15, hFc15, hr15⟩ := hr15
        have hFr15 := hFr.tr hFc15 (by simp <;> first | omega | (simp only [isC, isJ] at *; omega))
        refine lv_aload_n S.1 S.2.1 dX7_seal_51 rfl (lv_at hl0 0 rfl) ?_
        have hF16 := (hFc15 0 (by decide)).trans hF1
        refine r_get S hK hP15 0 (by decide) hF16 (C := RX7) (T := TX7) (N := 15) hiX7 rfl 5 (by decide) (by decide +kernel) (v := .ref (ad 33)) rfl dX7_seal_52 ?_
        obtain ⟨k17, hF17, hk17⟩ := wt_ways hW15
        refine r_get S hK hP15 33 (by decide) hF17 (C := RX6) (T := TX6) (N := 6) hiX6 rfl 0 (by decide) (by decide +kernel) (v := .int (nI k17)) rfl dX7_seal_55 ?_
        exact hret 58 _ _ _ _ _ dX7_seal_58 rfl hP15 hS15 ⟨hW15, hFr15, trivial⟩
      have k18 := ci_nlt (nI_toInt (n := k12) (by omega)) (nI_toInt (n := 8) (by omega)) c13
      refine lv_ldc (v := (-1000000004)) S.1 S.2.1 S.2.2.2.1 (S.2.2.2.2 (.constant RX7 84 (-1000000004)) (by decide +kernel)) dX7_seal_39 ?_
      exact hret 41 _ _ _ _ _ dX7_seal_41 rfl hP hS ⟨hW, hFr, trivial⟩
    have k19 := ci_nlt rfl (nI_toInt (n := 48) (by omega)) c10
    refine lv_ldc (v := (-1000000002)) S.1 S.2.1 S.2.2.2.1 (S.2.2.2.2 (.constant RX7 79 (-1000000002)) (by decide +kernel)) dX7_seal_24 ?_
    exact hret 26 _ _ _ _ _ dX7_seal_26 rfl hP hS ⟨hW, hFr, trivial⟩
  have k20 := ci_eq (nI_toInt (n := b4) (by omega)) z_ti c5
  refine lv_ldc (v := (-1000000001)) S.1 S.2.1 S.2.2.2.1 (S.2.2.2.2 (.constant RX7 147 (-1000000001)) (by decide +kernel)) dX7_seal_11 ?_
  exact hret 13 _ _ _ _ _ dX7_seal_13 rfl hP hS ⟨hW, hFr, trivial⟩
set_option maxHeartbeats 4000000 in
set_option maxRecDepth 100000 in
theorem c_X7_fits (l : Launch) (D : va_G) (cA ad : Nat → Nat) (t : Nat) (hI : rI ad) (F : Nat → va_E) (hW : WT cA ad F) : MI l D cA ad t yX7_fits wsX7_fits { frames := 5, cells := 0, slots := 0, locals := 118 } [.ref (ad 0)] F (fun r F' => WT cA ad F' ∧ rFr [36, 37] F F' ∧ (True)) := by
  refine en_I rfl (by decide +kernel) (Nat.le_of_ble_eq_true rfl) ?_
  intro p e s m args below meth c ls0 Q S hK hZ hP hS hl0 hret
  have hl0 : lv_has ls0 1 [(0, .ref (ad 0))] := hl0
  have hFr : rFr [36, 37] F F := rFr.rf
  have hiX7 : ∀ w ∈ u_ws RX7 TX7 15, w ∈ wsX7_fits := by decide +kernel
  refine lv_aload_n S.1 S.2.1 dX7_fits_0 rfl (lv_at hl0 0 rfl) ?_
  obtain ⟨c1, d1, k1, dr1, hF1, hc1, hd1, hk1⟩ := wt_main hW
  refine r_get S hK hP 0 (by decide) hF1 (C := RX7) (T := TX7) (N := 15) hiX7 rfl 5 (by decide) (by decide +kernel) (v := .ref (ad 33)) rfl dX7_fits_1 ?_
  refine lv_aload_n S.1 S.2.1 dX7_fits_4 rfl (lv_at hl0 0 rfl) ?_
  refine r_get S hK hP 0 (by decide) hF1 (C := RX7) (T := TX7) (N := 15) hiX7 rfl 11 (by decide) (by decide +kernel) (v := .ref (ad c1)) rfl dX7_fits_5 ?_
  refine lv_iconst (v := (-1)) S.1 S.2.1 dX7_fits_8 (by decide +kernel) ?_
  obtain ⟨k3, hF3, hk3⟩ := wt_ways hW
  refine r_cVi (As := [.ref (ad c1), .int (-1)]) (rest := []) S hK hZ hP hS hl0.1 33 (by decide) hF3 (C := RX6) rfl (c_X6_someWay l D cA ad t hI F hW c1 hc1 (-1)) (cwV 2 S.2.2.2.2 gX7_fits_X6_someWay rfl rfl rfl (by decide +kernel) ⟨Nat.le_of_ble_eq_true rfl, Nat.le_of_ble_eq_true rfl⟩) rfl rfl (Nat.le_of_ble_eq_true rfl) ⟨Nat.zero_le _, Nat.zero_le _⟩ dX7_fits_9 (fun r2 F2 H2 locs2 hr2 hP2 hS2 => ?_)
  obtain ⟨hW2, hFc2, hr2⟩ := hr2
  have hFr2 := hFr.tr hFc2 (by simp <;> first | omega | (simp only [isC, isJ] at *; omega))
  obtain ⟨b4, hb4, rfl⟩ := hr2
  refine lv_if_eq (tgt := 19) S.1 S.2.1 dX7_fits_12 (by decide) (fun c5 => ?_) (fun c5 => ?_)
  · skip
    have k6 := ci_eq (nI_toInt (n := b4) (by omega)) z_ti c5
    refine lv_iconst (v := (nI 0)) S.1 S.2.1 dX7_fits_19 (by decide +kernel) ?_
    exact hret 20 _ _ _ _ _ dX7_fits_20 rfl hP2 hS2 ⟨hW2, hFr2, trivial⟩
  have k7 := ci_ne (nI_toInt (n := b4) (by omega)) z_ti c5
  refine lv_iconst (v := (nI 1)) S.1 S.2.1 dX7_fits_15 (by decide +kernel) ?_
  refine lv_goto (tgt := 20) S.1 S.2.1 dX7_fits_16 (by decide) ?_
  exact hret 20 _ _ _ _ _ dX7_fits_20 rfl hP2 hS2 ⟨hW2, hFr2, trivial⟩
set_option maxHeartbeats 4000000 in
set_option maxRecDepth 100000 in
theorem c_X7_bought (l : Launch) (D : va_G) (cA ad : Nat → Nat) (t : Nat) (hI : rI ad) (F : Nat → va_E) (hW : WT cA ad F) : MI l D cA ad t yX7_bought wsX7_bought { frames := 6, cells := 0, slots := 0, locals := 141 } [.ref (ad 0)] F (fun r F' => WT cA ad F' ∧ rFr [36, 37] F F' ∧ (True)) := by
  refine en_I rfl (by decide +kernel) (Nat.le_of_ble_eq_true rfl) ?_
  intro p e s m args below meth c ls0 Q S hK hZ hP hS hl0 hret
  have hl0 : lv_has ls0 1 [(0, .ref (ad 0))] := hl0
  have hFr : rFr [36, 37] F F := rFr.rf
  have hiX7 : ∀ w ∈ u_ws RX7 TX7 15, w ∈ wsX7_bought := by decide +kernel
  refine lv_aload_n S.1 S.2.1 dX7_bought_0 rfl (lv_at hl0 0 rfl) ?_
  obtain ⟨c1, d1, k1, dr1, hF1, hc1, hd1, hk1⟩ := wt_main hW
  refine r_get S hK hP 0 (by decide) hF1 (C := RX7) (T := TX7) (N := 15) hiX7 rfl 5 (by decide) (by decide +kernel) (v := .ref (ad 33)) rfl dX7_bought_1 ?_
  refine lv_aload_n S.1 S.2.1 dX7_bought_4 rfl (lv_at hl0 0 rfl) ?_
  refine r_get S hK hP 0 (by decide) hF1 (C := RX7) (T := TX7) (N := 15) hiX7 rfl 11 (by decide) (by decide +kernel) (v := .ref (ad c1)) rfl dX7_bought_5 ?_
  obtain ⟨k3, hF3, hk3⟩ := wt_ways hW
  refine r_cVi (As := [.ref (ad c1)]) (rest := []) S hK hZ hP hS hl0.1 33 (by decide) hF3 (C := RX6) rfl (c_X6_boughtSeals l D cA ad t hI F hW c1 hc1) (cwV 1 S.2.2.2.2 gX7_bought_X6_boughtSeals rfl rfl rfl (by decide +kernel) ⟨Nat.le_of_ble_eq_true rfl, Nat.le_of_ble_eq_true rfl⟩) rfl rfl (Nat.le_of_ble_eq_true rfl) ⟨Nat.zero_le _, Nat.zero_le _⟩ dX7_bought_8 (fun r2 F2 H2 locs2 hr2 hP2 hS2 => ?_)
  obtain ⟨hW2, hFc2, hr2⟩ := hr2
  have hFr2 := hFr.tr hFc2 (by simp <;> first | omega | (simp only [isC, isJ] at *; omega))
  exact hret 11 _ _ _ _ _ dX7_bought_11 rfl hP2 hS2 ⟨hW2, hFr2, trivial⟩
set_option maxHeartbeats 4000000 in
set_option maxRecDepth 100000 in
theorem c_X7_was (l : Launch) (D : va_G) (cA ad : Nat → Nat) (t : Nat) (hI : rI ad) (F : Nat → va_E) (hW : WT cA ad F) (p1 : Int32) : MI l D cA ad t yX7_was wsX7_was { frames := 5, cells := 0, slots := 0, locals := 117 } [.ref (ad 0), .int p1] F (fun r F' => WT cA ad F' ∧ rFr [36, 37, 38] F F' ∧ (True)) := by
  refine en_I rfl (by decide +kernel) (Nat.le_of_ble_eq_true rfl) ?_
  intro p e s m args below meth c ls0 Q S hK hZ hP hS hl0 hret
  have hl0 : lv_has ls0 2 [(0, .ref (ad 0)), (1, .int p1)] := hl0
  have hFr : rFr [36, 37, 38] F F := rFr.rf
  have hiX7 : ∀ w ∈ u_ws RX7 TX7 15, w ∈ wsX7_was := by decide +kernel
  refine lv_iload_n S.1 S.2.1 dX7_was_0 rfl (lv_at hl0 1 rfl) ?_
  refine lv_if_lt (tgt := 10) S.1 S.2.1 dX7_was_1 (by decide) (fun c1 => ?_) (fun c1 => ?_)
  · skip
    have k2 := ci_lt rfl z_ti c1
    refine lv_ldc (v := (-1000000002)) S.1 S.2.1 S.2.2.2.1 (S.2.2.2.2 (.constant RX7 79 (-1000000002)) (by decide +kernel)) dX7_was_10 ?_
    exact hret 12 _ _ _ _ _ dX7_was_12 rfl hP hS ⟨hW, hFr, trivial⟩
  have k3 := ci_nlt rfl z_ti c1
  refine lv_iload_n S.1 S.2.1 dX7_was_4 rfl (lv_at hl0 1 rfl) ?_
  refine lv_bipush (v := (nI 48)) S.1 S.2.1 dX7_was_5 (by decide +kernel) ?_
  refine lv_icmp_le (tgt := 13) S.1 S.2.1 dX7_was_7 (by decide) (fun c4 => ?_) (fun c4 => ?_)
  · skip
    have k5 := ci_le rfl (nI_toInt (n := 48) (by omega)) c4
    obtain ⟨j6, hj6, rfl⟩ := nI_of_le (x := p1) (B := 48) (by omega) (by omega)
    have kj6 := nI_toInt (n := j6) (by omega)
    refine lv_aload_n S.1 S.2.1 dX7_was_13 rfl (lv_at hl0 0 rfl) ?_
    obtain ⟨c7, d7, k7, dr7, hF7, hc7, hd7, hk7⟩ := wt_main hW
    refine r_get S hK hP 0 (by decide) hF7 (C := RX7) (T := TX7) (N := 15) hiX7 rfl 5 (by decide) (by decide +kernel) (v := .ref (ad 33)) rfl dX7_was_14 ?_
    refine lv_aload_n S.1 S.2.1 dX7_was_17 rfl (lv_at hl0 0 rfl) ?_
    refine r_get S hK hP 0 (by decide) hF7 (C := RX7) (T := TX7) (N := 15) hiX7 rfl 11 (by decide) (by decide +kernel) (v := .ref (ad c7)) rfl dX7_was_18 ?_
    obtain ⟨k9, hF9, hk9⟩ := wt_ways hW
    refine r_cVv (As := [.ref (ad c7)]) (rest := []) S hK hZ hP hS hl0.1 33 (by decide) hF9 (C := RX6) rfl (c_X6_sweepBoth l D cA ad t hI F hW c7 hc7) (cwV 1 S.2.2.2.2 gX7_was_X6_sweepBoth rfl rfl rfl (by decide +kernel) ⟨Nat.le_of_ble_eq_true rfl, Nat.le_of_ble_eq_true rfl⟩) rfl rfl (Nat.le_of_ble_eq_true rfl) ⟨Nat.zero_le _, Nat.zero_le _⟩ dX7_was_21 (fun F8 H8 locs8 hr8 hP8 hS8 => ?_)
    obtain ⟨hW8, hFc8, hr8⟩ := hr8
    have hFr8 := hFr.tr hFc8 (by simp <;> first | omega | (simp only [isC, isJ] at *; omega))
    refine lv_aload_n S.1 S.2.1 dX7_was_24 rfl (lv_at hl0 0 rfl) ?_
    have hF10 := (hFc8 0 (by decide)).trans hF7
    refine r_get S hK hP8 0 (by decide) hF10 (C := RX7) (T := TX7) (N := 15) hiX7 rfl 5 (by decide) (by decide +kernel) (v := .ref (ad 33)) rfl dX7_was_25 ?_
    refine lv_iload_n S.1 S.2.1 dX7_was_28 rfl (lv_at hl0 1 rfl) ?_
    have hF12 := (hFc8 33 (by decide)).trans hF9
    refine r_cVp (As := [.int (nI j6)]) (rest := []) S hK hZ hP8 hS8 hl0.1 33 (by decide) hF12 (C := RX6) rfl (c_X6_townsAt l D cA ad t hI F8 hW8 (j6) (by omega)) (cwV 1 S.2.2.2.2 gX7_was_X6_townsAt rfl rfl rfl (by decide +kernel) ⟨Nat.le_of_ble_eq_true rfl, Nat.le_of_ble_eq_true rfl⟩) rfl rfl (Nat.le_of_ble_eq_true rfl) ⟨Nat.zero_le _, Nat.zero_le _⟩ dX7_was_29 (fun r11 hr11 => ?_)
    exact hret 32 _ _ _ _ _ dX7_was_32 rfl hP8 hS8 ⟨hW8, hFr8, trivial⟩
  have k13 := ci_nle rfl (nI_toInt (n := 48) (by omega)) c4
  refine lv_ldc (v := (-1000000002)) S.1 S.2.1 S.2.2.2.1 (S.2.2.2.2 (.constant RX7 79 (-1000000002)) (by decide +kernel)) dX7_was_10 ?_
  exact hret 12 _ _ _ _ _ dX7_was_12 rfl hP hS ⟨hW, hFr, trivial⟩
set_option maxHeartbeats 4000000 in
set_option maxRecDepth 100000 in
theorem c_X7_ask (l : Launch) (D : va_G) (cA ad : Nat → Nat) (t : Nat) (hI : rI ad) (F : Nat → va_E) (hW : WT cA ad F) : MI l D cA ad t yX7_ask wsX7_ask { frames := 5, cells := 0, slots := 0, locals := 117 } [.ref (ad 0)] F (fun r F' => WT cA ad F' ∧ rFr [36, 37, 38] F F' ∧ (True)) := by
  refine en_I rfl (by decide +kernel) (Nat.le_of_ble_eq_true rfl) ?_
  intro p e s m args below meth c ls0 Q S hK hZ hP hS hl0 hret
  have hl0 : lv_has ls0 1 [(0, .ref (ad 0))] := hl0
  have hFr : rFr [36, 37, 38] F F := rFr.rf
  have hiX7 : ∀ w ∈ u_ws RX7 TX7 15, w ∈ wsX7_ask := by decide +kernel
  refine lv_aload_n S.1 S.2.1 dX7_ask_0 rfl (lv_at hl0 0 rfl) ?_
  obtain ⟨c1, d1, k1, dr1, hF1, hc1, hd1, hk1⟩ := wt_main hW
  refine r_get S hK hP 0 (by decide) hF1 (C := RX7) (T := TX7) (N := 15) hiX7 rfl 5 (by decide) (by decide +kernel) (v := .ref (ad 33)) rfl dX7_ask_1 ?_
  refine lv_aload_n S.1 S.2.1 dX7_ask_4 rfl (lv_at hl0 0 rfl) ?_
  refine r_get S hK hP 0 (by decide) hF1 (C := RX7) (T := TX7) (N := 15) hiX7 rfl 11 (by decide) (by decide +kernel) (v := .ref (ad c1)) rfl dX7_ask_5 ?_
  obtain ⟨k3, hF3, hk3⟩ := wt_ways hW
  refine r_cVv (As := [.ref (ad c1)]) (rest := []) S hK hZ hP hS hl0.1 33 (by decide) hF3 (C := RX6) rfl (c_X6_sweepBoth l D cA ad t hI F hW c1 hc1) (cwV 1 S.2.2.2.2 gX7_ask_X6_sweepBoth rfl rfl rfl (by decide +kernel) ⟨Nat.le_of_ble_eq_true rfl, Nat.le_of_ble_eq_true rfl⟩) rfl rfl (Nat.le_of_ble_eq_true rfl) ⟨Nat.zero_le _, Nat.zero_le _⟩ dX7_ask_8 (fun F2 H2 locs2 hr2 hP2 hS2 => ?_)
  obtain ⟨hW2, hFc2, hr2⟩ := hr2
  have hFr2 := hFr.tr hFc2 (by simp <;> first | omega | (simp only [isC, isJ] at *; omega))
  refine lv_aload_n S.1 S.2.1 dX7_ask_11 rfl (lv_at hl0 0 rfl) ?_
  have hF4 := (hFc2 0 (by decide)).trans hF1
  refine r_get S hK hP2 0 (by decide) hF4 (C := RX7) (T := TX7) (N := 15) hiX7 rfl 5 (by decide) (by decide +kernel) (v := .ref (ad 33)) rfl dX7_ask_12 ?_
  have hF6 := (hFc2 33 (by decide)).trans hF3
  refine r_cVp (As := []) (rest := []) S hK hZ hP2 hS2 hl0.1 33 (by decide) hF6 (C := RX6) rfl (c_X6_widestMonth l D cA ad t hI F2 hW2 ) (cwV 0 S.2.2.2.2 gX7_ask_X6_widestMonth rfl rfl rfl (by decide +kernel) ⟨Nat.le_of_ble_eq_true rfl, Nat.le_of_ble_eq_true rfl⟩) rfl rfl (Nat.le_of_ble_eq_true rfl) ⟨Nat.zero_le _, Nat.zero_le _⟩ dX7_ask_15 (fun r5 hr5 => ?_)
  exact hret 18 _ _ _ _ _ dX7_ask_18 rfl hP2 hS2 ⟨hW2, hFr2, trivial⟩
set_option maxHeartbeats 4000000 in
set_option maxRecDepth 100000 in
theorem c_X7_write (l : Launch) (D : va_G) (cA ad : Nat → Nat) (t : Nat) (hI : rI ad) (F : Nat → va_E) (hW : WT cA ad F) (p1 : Int32) : MI l D cA ad t yX7_write wsX7_write { frames := 0, cells := 0, slots := 0, locals := 0 } [.ref (ad 0), .int p1] F (fun r F' => WT cA ad F' ∧ rFr [0, 44] F F' ∧ (True)) := by
  refine en_I rfl (by decide +kernel) (Nat.le_of_ble_eq_true rfl) ?_
  intro p e s m args below meth c ls0 Q S hK hZ hP hS hl0 hret
  have hl0 : lv_has ls0 2 [(0, .ref (ad 0)), (1, .int p1)] := hl0
  have hFr : rFr [0, 44] F F := rFr.rf
  have hiX7 : ∀ w ∈ u_ws RX7 TX7 15, w ∈ wsX7_write := by decide +kernel
  refine lv_iload_n S.1 S.2.1 dX7_write_0 rfl (lv_at hl0 1 rfl) ?_
  refine lv_if_lt (tgt := 11) S.1 S.2.1 dX7_write_1 (by decide) (fun c1 => ?_) (fun c1 => ?_)
  · skip
    have k2 := ci_lt rfl z_ti c1
    refine lv_ldc (v := (-1000000002)) S.1 S.2.1 S.2.2.2.1 (S.2.2.2.2 (.constant RX7 79 (-1000000002)) (by decide +kernel)) dX7_write_11 ?_
    exact hret 13 _ _ _ _ _ dX7_write_13 rfl hP hS ⟨hW, hFr, trivial⟩
  have k3 := ci_nlt rfl z_ti c1
  refine lv_iload_n S.1 S.2.1 dX7_write_4 rfl (lv_at hl0 1 rfl) ?_
  refine lv_sipush (v := (nI 9999)) S.1 S.2.1 dX7_write_5 (by decide +kernel) ?_
  refine lv_icmp_le (tgt := 14) S.1 S.2.1 dX7_write_8 (by decide) (fun c4 => ?_) (fun c4 => ?_)
  · skip
    have k5 := ci_le rfl (nI_toInt (n := 9999) (by omega)) c4
    refine lv_aload_n S.1 S.2.1 dX7_write_14 rfl (lv_at hl0 0 rfl) ?_
    obtain ⟨c6, d6, k6, dr6, hF6, hc6, hd6, hk6⟩ := wt_main hW
    refine r_get S hK hP 0 (by decide) hF6 (C := RX7) (T := TX7) (N := 15) hiX7 rfl 13 (by decide) (by decide +kernel) (v := .int (nI k6)) rfl dX7_write_15 ?_
    refine lv_bipush (v := (nI 15)) S.1 S.2.1 dX7_write_18 (by decide +kernel) ?_
    refine lv_icmp_lt (tgt := 26) S.1 S.2.1 dX7_write_20 (by decide) (fun c7 => ?_) (fun c7 => ?_)
    · skip
      have k8 := ci_lt (nI_toInt (n := k6) (by omega)) (nI_toInt (n := 15) (by omega)) c7
      refine lv_aload_n S.1 S.2.1 dX7_write_26 rfl (lv_at hl0 0 rfl) ?_
      refine r_get S hK hP 0 (by decide) hF6 (C := RX7) (T := TX7) (N := 15) hiX7 rfl 9 (by decide) (by decide +kernel) (v := .ref (ad 44)) rfl dX7_write_27 ?_
      refine lv_aload_n S.1 S.2.1 dX7_write_30 rfl (lv_at hl0 0 rfl) ?_
      refine r_get S hK hP 0 (by decide) hF6 (C := RX7) (T := TX7) (N := 15) hiX7 rfl 13 (by decide) (by decide +kernel) (v := .int (nI k6)) rfl dX7_write_31 ?_
      refine lv_iload_n S.1 S.2.1 dX7_write_34 rfl (lv_at hl0 1 rfl) ?_
      obtain ⟨g9, hF9, hg9⟩ := wt_I hW (show (44, 15) ∈ rLI by decide)
      refine r_iast S hI hK hP hS 44 (by decide) hF9 (vp_in_nI (show k6 < 15 by omega) (by omega)) dX7_write_35 (fun F10 H10 locs10 eF10 hP10 hS10 => ?_)
      have hW10 := hW.up eF10 (ok_I (show (44, 15) ∈ rLI by decide) (okI_up hg9 (pr_of (by decide))))
      have hFr10 := hFr.up eF10 (by simp <;> first | omega | (simp only [isC, isJ] at *; omega))
      refine lv_aload_n S.1 S.2.1 dX7_write_36 rfl (lv_at hl0 0 rfl) ?_
      refine lv_dup S.1 S.2.1 dX7_write_37 rfl ?_
      have hF11 := (show F10 0 = F 0 by rw [eF10]; exact va_up_ne _ _ (by decide)).trans hF6
      refine r_get S hK hP10 0 (by decide) hF11 (C := RX7) (T := TX7) (N := 15) hiX7 rfl 13 (by decide) (by decide +kernel) (v := .int (nI k6)) rfl dX7_write_38 ?_
      refine lv_iconst (v := (nI 1)) S.1 S.2.1 dX7_write_41 (by decide +kernel) ?_
      refine lv_iadd S.1 S.2.1 dX7_write_42 ?_
      refine lv_topi (fun v12 e12 => ?_)
      obtain rfl : v12 = nI (k6 + 1) := e12.trans (nI_add _ _)
      refine r_put S hI hK hP10 hS10 0 (by decide) hF11 (C := RX7) (T := TX7) (N := 15) hiX7 tyX7_ok nmX7 rfl 13 (by decide) (by decide +kernel) rfl rfl rfl (Nat.le_of_ble_eq_true rfl) dX7_write_43 (fun F13 H13 locs13 eF13 hP13 hS13 => ?_)
      have hF13 : F13 0 = .inr (7, [.ref (ad 1), .ref (ad 3), .ref (ad 4), .ref (ad 26), .ref (ad 30), .ref (ad 33), .ref (ad 39), .ref (ad 42), .ref (ad 43), .ref (ad 44), .ref (ad 45), .ref (ad c6), .ref (ad d6), .int (nI (k6 + 1)), .int dr6]) := by rw [eF13]; exact va_up_self _ _ _
      have hW13 := hW10.up eF13 (ok_main ⟨c6, d6, k6 + 1, dr6, rfl, hc6, hd6, by omega⟩)
      have hFr13 := hFr10.up eF13 (by simp <;> first | omega | (simp only [isC, isJ] at *; omega))
      refine lv_aload_n S.1 S.2.1 dX7_write_46 rfl (lv_at hl0 0 rfl) ?_
      refine r_get S hK hP13 0 (by decide) hF13 (C := RX7) (T := TX7) (N := 15) hiX7 rfl 13 (by decide) (by decide +kernel) (v := .int (nI (k6 + 1))) rfl dX7_write_47 ?_
      exact hret 50 _ _ _ _ _ dX7_write_50 rfl hP13 hS13 ⟨hW13, hFr13, trivial⟩
    have k14 := ci_nlt (nI_toInt (n := k6) (by omega)) (nI_toInt (n := 15) (by omega)) c7
    refine lv_ldc (v := (-1000000004)) S.1 S.2.1 S.2.2.2.1 (S.2.2.2.2 (.constant RX7 84 (-1000000004)) (by decide +kernel)) dX7_write_23 ?_
    exact hret 25 _ _ _ _ _ dX7_write_25 rfl hP hS ⟨hW, hFr, trivial⟩
  have k15 := ci_nle rfl (nI_toInt (n := 9999) (by omega)) c4
  refine lv_ldc (v := (-1000000002)) S.1 S.2.1 S.2.2.2.1 (S.2.2.2.2 (.constant RX7 79 (-1000000002)) (by decide +kernel)) dX7_write_11 ?_
  exact hret 13 _ _ _ _ _ dX7_write_13 rfl hP hS ⟨hW, hFr, trivial⟩
set_option maxHeartbeats 4000000 in
set_option maxRecDepth 100000 in
theorem c_X7_tear (l : Launch) (D : va_G) (cA ad : Nat → Nat) (t : Nat) (hI : rI ad) (F : Nat → va_E) (hW : WT cA ad F) : MI l D cA ad t yX7_tear wsX7_tear { frames := 0, cells := 0, slots := 0, locals := 0 } [.ref (ad 0)] F (fun r F' => WT cA ad F' ∧ rFr [0, 33] F F' ∧ (True)) := by
  refine en_I rfl (by decide +kernel) (Nat.le_of_ble_eq_true rfl) ?_
  intro p e s m args below meth c ls0 Q S hK hZ hP hS hl0 hret
  have hl0 : lv_has ls0 2 [(0, .ref (ad 0))] := hl0
  have hFr : rFr [0, 33] F F := rFr.rf
  have hiX6 : ∀ w ∈ u_ws RX6 TX6 6, w ∈ wsX7_tear := by decide +kernel
  have hiX7 : ∀ w ∈ u_ws RX7 TX7 15, w ∈ wsX7_tear := by decide +kernel
  refine lv_aload_n S.1 S.2.1 dX7_tear_0 rfl (lv_at hl0 0 rfl) ?_
  obtain ⟨c1, d1, k1, dr1, hF1, hc1, hd1, hk1⟩ := wt_main hW
  refine r_get S hK hP 0 (by decide) hF1 (C := RX7) (T := TX7) (N := 15) hiX7 rfl 5 (by decide) (by decide +kernel) (v := .ref (ad 33)) rfl dX7_tear_1 ?_
  obtain ⟨k2, hF2, hk2⟩ := wt_ways hW
  refine r_get S hK hP 33 (by decide) hF2 (C := RX6) (T := TX6) (N := 6) hiX6 rfl 0 (by decide) (by decide +kernel) (v := .int (nI k2)) rfl dX7_tear_4 ?_
  refine lv_aload_n S.1 S.2.1 dX7_tear_7 rfl (lv_at hl0 0 rfl) ?_
  refine r_get S hK hP 0 (by decide) hF1 (C := RX7) (T := TX7) (N := 15) hiX7 rfl 13 (by decide) (by decide +kernel) (v := .int (nI k1)) rfl dX7_tear_8 ?_
  refine lv_iadd S.1 S.2.1 dX7_tear_11 ?_
  refine lv_topi (fun v3 e3 => ?_)
  obtain rfl : v3 = nI (k2 + k1) := e3.trans (nI_add _ _)
  refine lv_istore_n (lv' := [(1, .int (nI (k2 + k1))), (0, .ref (ad 0))]) S.1 S.2.1 dX7_tear_12 rfl hl0 (by decide) rfl (fun ls4 hl4 => ?_)
  refine lv_aload_n S.1 S.2.1 dX7_tear_13 rfl (lv_at hl4 1 rfl) ?_
  refine r_get S hK hP 0 (by decide) hF1 (C := RX7) (T := TX7) (N := 15) hiX7 rfl 5 (by decide) (by decide +kernel) (v := .ref (ad 33)) rfl dX7_tear_14 ?_
  refine lv_iconst (v := (nI 0)) S.1 S.2.1 dX7_tear_17 (by decide +kernel) ?_
  refine r_put S hI hK hP hS 33 (by decide) hF2 (C := RX6) (T := TX6) (N := 6) hiX6 tyX6_ok nmX6 rfl 0 (by decide) (by decide +kernel) rfl rfl rfl (Nat.le_of_ble_eq_true rfl) dX7_tear_18 (fun F5 H5 locs5 eF5 hP5 hS5 => ?_)
  have hF5 : F5 33 = .inr (6, [.int (nI 0), .ref (ad 34), .ref (ad 35), .ref (ad 36), .ref (ad 37), .ref (ad 38)]) := by rw [eF5]; exact va_up_self _ _ _
  have hW5 := hW.up eF5 (ok_ways ⟨0, rfl, by omega⟩)
  have hFr5 := hFr.up eF5 (by simp <;> first | omega | (simp only [isC, isJ] at *; omega))
  refine lv_aload_n S.1 S.2.1 dX7_tear_21 rfl (lv_at hl4 1 rfl) ?_
  refine lv_iconst (v := (nI 0)) S.1 S.2.1 dX7_tear_22 (by decide +kernel) ?_
  have hF6 := (show F5 0 = F 0 by rw [eF5]; exact va_up_ne _ _ (by decide)).trans hF1
  refine r_put S hI hK hP5 hS5 0 (by decide) hF6 (C := RX7) (T := TX7) (N := 15) hiX7 tyX7_ok nmX7 rfl 13 (by decide) (by decide +kernel) rfl rfl rfl (Nat.le_of_ble_eq_true rfl) dX7_tear_23 (fun F7 H7 locs7 eF7 hP7 hS7 => ?_)
  have hF7 : F7 0 = .inr (7, [.ref (ad 1), .ref (ad 3), .ref (ad 4), .ref (ad 26), .ref (ad 30), .ref (ad 33), .ref (ad 39), .ref (ad 42), .ref (ad 43), .ref (ad 44), .ref (ad 45), .ref (ad c1), .ref (ad d1), .int (nI 0), .int dr1]) := by rw [eF7]; exact va_up_self _ _ _
  have hW7 := hW5.up eF7 (ok_main ⟨c1, d1, 0, dr1, rfl, hc1, hd1, by omega⟩)
  have hFr7 := hFr5.up eF7 (by simp <;> first | omega | (simp only [isC, isJ] at *; omega))
  refine lv_iload_n S.1 S.2.1 dX7_tear_26 rfl (lv_at hl4 0 rfl) ?_
  exact hret 27 _ _ _ _ _ dX7_tear_27 rfl hP7 hS7 ⟨hW7, hFr7, trivial⟩
set_option maxHeartbeats 4000000 in
set_option maxRecDepth 100000 in
theorem c_X7_judge (l : Launch) (D : va_G) (cA ad : Nat → Nat) (t : Nat) (hI : rI ad) (F : Nat → va_E) (hW : WT cA ad F) : MP l D cA ad t yX7_judge wsX7_judge { frames := 0, cells := 0, slots := 0, locals := 0 } [.ref (ad 0)] F (fun r => True) := by
  refine en_P rfl (by decide +kernel) (Nat.le_of_ble_eq_true rfl) ?_
  intro p e s m args below meth c ls0 Q S hK hZ hP hS hl0 hret
  have hl0 : lv_has ls0 2 [(0, .ref (ad 0))] := hl0
  have hiX1 : ∀ w ∈ u_ws RX1 TX1 7, w ∈ wsX7_judge := by decide +kernel
  have hiX7 : ∀ w ∈ u_ws RX7 TX7 15, w ∈ wsX7_judge := by decide +kernel
  refine lv_iconst (v := (nI 0)) S.1 S.2.1 dX7_judge_0 (by decide +kernel) ?_
  refine lv_istore_n (lv' := [(1, .int (nI 0)), (0, .ref (ad 0))]) S.1 S.2.1 dX7_judge_1 rfl hl0 (by decide) rfl (fun ls1 hl1 => ?_)
  have lp2 : ∀ (n2 : Nat) (q12 : Nat), q12 ≤ 15 → 15 - q12 < n2 → ∀ (ls : Array Slot), lv_has ls 2 [(1, .int (nI q12)), (0, .ref (ad 0))] → W p l e { frames := 0, cells := 0, slots := 0, locals := 0 } s m args below meth c s.heap [] 0 0 Q (F0 m 2 ls []) := by
    intro n2
    induction n2 with
    | zero =>
      intro q12 iv2_0 hm2 ls2 hl2
      exact absurd hm2 (Nat.not_lt_zero _)
    | succ n2 ih2 =>
      intro q12 iv2_0 hm2 ls2 hl2
      refine lv_iload_n S.1 S.2.1 dX7_judge_2 rfl (lv_at hl2 0 rfl) ?_
      refine lv_aload_n S.1 S.2.1 dX7_judge_3 rfl (lv_at hl2 1 rfl) ?_
      obtain ⟨c3, d3, k3, dr3, hF3, hc3, hd3, hk3⟩ := wt_main hW
      refine r_get S hK hP 0 (by decide) hF3 (C := RX7) (T := TX7) (N := 15) hiX7 rfl 13 (by decide) (by decide +kernel) (v := .int (nI k3)) rfl dX7_judge_4 ?_
      refine lv_icmp_ge (tgt := 40) S.1 S.2.1 dX7_judge_7 (by decide) (fun c4 => ?_) (fun c4 => ?_)
      · skip
        have k5 := ci_le (nI_toInt (n := k3) (by omega)) (nI_toInt (n := q12) (by omega)) c4
        refine lv_iconst (v := (-1)) S.1 S.2.1 dX7_judge_40 (by decide +kernel) ?_
        exact hret 41 _ _ dX7_judge_41 rfl (trivial)
      have k6 := ci_nle (nI_toInt (n := k3) (by omega)) (nI_toInt (n := q12) (by omega)) c4
      refine lv_iload_n S.1 S.2.1 dX7_judge_10 rfl (lv_at hl2 0 rfl) ?_
      refine lv_bipush (v := (nI 15)) S.1 S.2.1 dX7_judge_11 (by decide +kernel) ?_
      refine lv_icmp_ge (tgt := 40) S.1 S.2.1 dX7_judge_13 (by decide) (fun c7 => ?_) (fun c7 => ?_)
      · skip
        have k8 := ci_le (nI_toInt (n := 15) (by omega)) (nI_toInt (n := q12) (by omega)) c7
        refine lv_iconst (v := (-1)) S.1 S.2.1 dX7_judge_40 (by decide +kernel) ?_
        exact hret 41 _ _ dX7_judge_41 rfl (trivial)
      have k9 := ci_nle (nI_toInt (n := 15) (by omega)) (nI_toInt (n := q12) (by omega)) c7
      refine lv_aload_n S.1 S.2.1 dX7_judge_16 rfl (lv_at hl2 1 rfl) ?_
      refine r_get S hK hP 0 (by decide) hF3 (C := RX7) (T := TX7) (N := 15) hiX7 rfl 9 (by decide) (by decide +kernel) (v := .ref (ad 44)) rfl dX7_judge_17 ?_
      refine lv_iload_n S.1 S.2.1 dX7_judge_20 rfl (lv_at hl2 0 rfl) ?_
      obtain ⟨g10, hF10, hg10⟩ := wt_I hW (show (44, 15) ∈ rLI by decide)
      refine r_iald S hK hP 44 (by decide) hF10 (vp_in_nI (show q12 < 15 by omega) (by omega)) dX7_judge_21 ?_
      refine lv_topi (fun v12 e12 => ?_)
      refine lv_aload_n S.1 S.2.1 dX7_judge_22 rfl (lv_at hl2 1 rfl) ?_
      refine r_get S hK hP 0 (by decide) hF3 (C := RX7) (T := TX7) (N := 15) hiX7 rfl 1 (by decide) (by decide +kernel) (v := .ref (ad 3)) rfl dX7_judge_23 ?_
      obtain ⟨ja13, jb13, jc13, jd13, jx13, jy13, jk13, hF13, hk13⟩ := wt_J hW (show isJ 3 from Or.inl rfl)
      refine r_get S hK hP 3 (by decide) hF13 (C := RX1) (T := TX1) (N := 7) hiX1 rfl 3 (by decide) (by decide +kernel) (v := .int jd13) rfl dX7_judge_26 ?_
      refine lv_icmp_eq (tgt := 34) S.1 S.2.1 dX7_judge_29 (by decide) (fun c14 => ?_) (fun c14 => ?_)
      · skip
        have k15 := ci_eq rfl rfl c14
        refine lv_iinc (v := (nI (q12 + 1))) (lv' := [(1, .int (nI (q12 + 1))), (0, .ref (ad 0))]) S.1 S.2.1 dX7_judge_34 hl2 (k := 0) rfl (nI_add _ 1) (by decide) rfl (fun ls16 hl16 => ?_)
        refine lv_goto (tgt := 2) S.1 S.2.1 dX7_judge_37 (by decide) ?_
        exact ih2 (q12 + 1) (by omega) (by omega) ls16 (lv_sub hl16 [0, 1] rfl)
      have k17 := ci_ne rfl rfl c14
      refine lv_iload_n S.1 S.2.1 dX7_judge_32 rfl (lv_at hl2 0 rfl) ?_
      exact hret 33 _ _ dX7_judge_33 rfl (trivial)
  exact lp2 (15 - (0) + 1) (0) (by omega) (by omega) ls1 (lv_sub hl1 [0, 1] rfl)
set_option maxHeartbeats 4000000 in
set_option maxRecDepth 100000 in
theorem c_X7_seed (l : Launch) (D : va_G) (cA ad : Nat → Nat) (t : Nat) (hI : rI ad) (F : Nat → va_E) (hW : WT cA ad F) (p1 : Int32) : MI l D cA ad t yX7_seed wsX7_seed { frames := 0, cells := 0, slots := 0, locals := 0 } [.ref (ad 0), .int p1] F (fun r F' => WT cA ad F' ∧ rFr [0] F F' ∧ (True)) := by
  refine en_I rfl (by decide +kernel) (Nat.le_of_ble_eq_true rfl) ?_
  intro p e s m args below meth c ls0 Q S hK hZ hP hS hl0 hret
  have hl0 : lv_has ls0 3 [(0, .ref (ad 0)), (1, .int p1)] := hl0
  have hFr : rFr [0] F F := rFr.rf
  have hiX7 : ∀ w ∈ u_ws RX7 TX7 15, w ∈ wsX7_seed := by decide +kernel
  refine lv_iload_n S.1 S.2.1 dX7_seed_0 rfl (lv_at hl0 1 rfl) ?_
  refine lv_if_ge (tgt := 7) S.1 S.2.1 dX7_seed_1 (by decide) (fun c1 => ?_) (fun c1 => ?_)
  · skip
    have k2 := ci_le z_ti rfl c1
    refine lv_aload_n S.1 S.2.1 dX7_seed_7 rfl (lv_at hl0 0 rfl) ?_
    obtain ⟨c3, d3, k3, dr3, hF3, hc3, hd3, hk3⟩ := wt_main hW
    refine r_get S hK hP 0 (by decide) hF3 (C := RX7) (T := TX7) (N := 15) hiX7 rfl 14 (by decide) (by decide +kernel) (v := .int dr3) rfl dX7_seed_8 ?_
    refine lv_istore_n (lv' := [(2, .int dr3), (0, .ref (ad 0)), (1, .int p1)]) S.1 S.2.1 dX7_seed_11 rfl hl0 (by decide) rfl (fun ls4 hl4 => ?_)
    refine lv_aload_n S.1 S.2.1 dX7_seed_12 rfl (lv_at hl4 1 rfl) ?_
    refine lv_iload_n S.1 S.2.1 dX7_seed_13 rfl (lv_at hl4 2 rfl) ?_
    refine r_put S hI hK hP hS 0 (by decide) hF3 (C := RX7) (T := TX7) (N := 15) hiX7 tyX7_ok nmX7 rfl 14 (by decide) (by decide +kernel) rfl rfl rfl (Nat.le_of_ble_eq_true rfl) dX7_seed_14 (fun F5 H5 locs5 eF5 hP5 hS5 => ?_)
    have hF5 : F5 0 = .inr (7, [.ref (ad 1), .ref (ad 3), .ref (ad 4), .ref (ad 26), .ref (ad 30), .ref (ad 33), .ref (ad 39), .ref (ad 42), .ref (ad 43), .ref (ad 44), .ref (ad 45), .ref (ad c3), .ref (ad d3), .int (nI k3), .int p1]) := by rw [eF5]; exact va_up_self _ _ _
    have hW5 := hW.up eF5 (ok_main ⟨c3, d3, k3, p1, rfl, hc3, hd3, by omega⟩)
    have hFr5 := hFr.up eF5 (by simp <;> first | omega | (simp only [isC, isJ] at *; omega))
    refine lv_iload_n S.1 S.2.1 dX7_seed_17 rfl (lv_at hl4 0 rfl) ?_
    exact hret 18 _ _ _ _ _ dX7_seed_18 rfl hP5 hS5 ⟨hW5, hFr5, trivial⟩
  have k6 := ci_nle z_ti rfl c1
  refine lv_ldc (v := (-1000000002)) S.1 S.2.1 S.2.2.2.1 (S.2.2.2.2 (.constant RX7 79 (-1000000002)) (by decide +kernel)) dX7_seed_4 ?_
  exact hret 6 _ _ _ _ _ dX7_seed_6 rfl hP hS ⟨hW, hFr, trivial⟩
set_option maxHeartbeats 4000000 in
set_option maxRecDepth 100000 in
theorem c_X7_keep (l : Launch) (D : va_G) (cA ad : Nat → Nat) (t : Nat) (hI : rI ad) (F : Nat → va_E) (hW : WT cA ad F) (p1 : Int32) : MI l D cA ad t yX7_keep wsX7_keep { frames := 1, cells := 0, slots := 0, locals := 21 } [.ref (ad 0), .int p1] F (fun r F' => WT cA ad F' ∧ rFr [4, 40, 41, 42, 43] F F' ∧ (r = kpR p1)) := by
  refine en_I rfl (by decide +kernel) (Nat.le_of_ble_eq_true rfl) ?_
  intro p e s m args below meth c ls0 Q S hK hZ hP hS hl0 hret
  have hl0 : lv_has ls0 2 [(0, .ref (ad 0)), (1, .int p1)] := hl0
  have hFr : rFr [4, 40, 41, 42, 43] F F := rFr.rf
  have hiX2 : ∀ w ∈ u_ws RX2 TX2 2, w ∈ wsX7_keep := by decide +kernel
  have hiX7 : ∀ w ∈ u_ws RX7 TX7 15, w ∈ wsX7_keep := by decide +kernel
  refine lv_iload_n S.1 S.2.1 dX7_keep_0 rfl (lv_at hl0 1 rfl) ?_
  refine lv_if_lt (tgt := 9) S.1 S.2.1 dX7_keep_1 (by decide) (fun c1 => ?_) (fun c1 => ?_)
  · skip
    have k2 := ci_lt rfl z_ti c1
    refine lv_ldc (v := (-1000000001)) S.1 S.2.1 S.2.2.2.1 (S.2.2.2.2 (.constant RX7 147 (-1000000001)) (by decide +kernel)) dX7_keep_9 ?_
    exact hret 11 _ _ _ _ _ dX7_keep_11 rfl hP hS ⟨hW, hFr, by unfold kpR; rw [if_neg (by omega)]⟩
  have k3 := ci_nlt rfl z_ti c1
  refine lv_iload_n S.1 S.2.1 dX7_keep_4 rfl (lv_at hl0 1 rfl) ?_
  refine lv_iconst (v := (nI 2)) S.1 S.2.1 dX7_keep_5 (by decide +kernel) ?_
  refine lv_icmp_lt (tgt := 12) S.1 S.2.1 dX7_keep_6 (by decide) (fun c4 => ?_) (fun c4 => ?_)
  · skip
    have k5 := ci_lt rfl (nI_toInt (n := 2) (by omega)) c4
    obtain ⟨j6, hj6, rfl⟩ := nI_of_le (x := p1) (B := 1) (by omega) (by omega)
    have kj6 := nI_toInt (n := j6) (by omega)
    refine lv_aload_n S.1 S.2.1 dX7_keep_12 rfl (lv_at hl0 0 rfl) ?_
    obtain ⟨c7, d7, k7, dr7, hF7, hc7, hd7, hk7⟩ := wt_main hW
    refine r_get S hK hP 0 (by decide) hF7 (C := RX7) (T := TX7) (N := 15) hiX7 rfl 6 (by decide) (by decide +kernel) (v := .ref (ad 39)) rfl dX7_keep_13 ?_
    refine lv_iload_n S.1 S.2.1 dX7_keep_16 rfl (lv_at hl0 1 rfl) ?_
    obtain ⟨g8, hF8, hg8⟩ := wt_img hW
    obtain ⟨j9, hj9, hg9⟩ := hg8 j6 (by omega)
    refine r_aald S hK hP 39 (by decide) hF8 (vp_in_nI (show j6 < 2 by omega) (by omega)) (a := ad j9) (by rw [nI_clamp (by omega)]; exact hg9) dX7_keep_17 ?_
    refine lv_aload_n S.1 S.2.1 dX7_keep_18 rfl (lv_at hl0 0 rfl) ?_
    refine r_get S hK hP 0 (by decide) hF7 (C := RX7) (T := TX7) (N := 15) hiX7 rfl 1 (by decide) (by decide +kernel) (v := .ref (ad 3)) rfl dX7_keep_19 ?_
    obtain ⟨ja11, jb11, jc11, jd11, jx11, jy11, jk11, hF11, hk11⟩ := wt_J hW (show isJ j9 from Or.inr (Or.inr hj9))
    refine r_cVv (As := [.ref (ad 3)]) (rest := []) S hK hZ hP hS hl0.1 j9 (lt_J (show isJ j9 from Or.inr (Or.inr hj9))) hF11 (C := RX1) rfl (c_X1_copy l D cA ad t hI F hW j9 (show isJ j9 from Or.inr (Or.inr hj9)) 3 (show isJ 3 from Or.inl rfl)) (cwV 1 S.2.2.2.2 gX7_keep_X1_copy rfl rfl rfl (by decide +kernel) ⟨Nat.le_of_ble_eq_true rfl, Nat.le_of_ble_eq_true rfl⟩) rfl rfl (Nat.le_of_ble_eq_true rfl) ⟨Nat.zero_le _, Nat.zero_le _⟩ dX7_keep_22 (fun F10 H10 locs10 hr10 hP10 hS10 => ?_)
    obtain ⟨hW10, hFc10, hr10⟩ := hr10
    have hFr10 := hFr.tr hFc10 (by simp <;> first | omega | (simp only [isC, isJ] at *; omega))
    refine lv_aload_n S.1 S.2.1 dX7_keep_25 rfl (lv_at hl0 0 rfl) ?_
    have hF12 := (hFc10 0 (by have hh_j9 := (show isJ j9 from Or.inr (Or.inr hj9)); unfold isJ at hh_j9; simp only [List.mem_cons, List.not_mem_nil, or_false, not_or]; omega)).trans hF7
    refine r_get S hK hP10 0 (by decide) hF12 (C := RX7) (T := TX7) (N := 15) hiX7 rfl 7 (by decide) (by decide +kernel) (v := .ref (ad 42)) rfl dX7_keep_26 ?_
    refine lv_iload_n S.1 S.2.1 dX7_keep_29 rfl (lv_at hl0 1 rfl) ?_
    refine lv_aload_n S.1 S.2.1 dX7_keep_30 rfl (lv_at hl0 0 rfl) ?_
    refine r_get S hK hP10 0 (by decide) hF12 (C := RX7) (T := TX7) (N := 15) hiX7 rfl 14 (by decide) (by decide +kernel) (v := .int dr7) rfl dX7_keep_31 ?_
    obtain ⟨g13, hF13, hg13⟩ := wt_I hW10 (show (42, 2) ∈ rLI by decide)
    refine r_iast S hI hK hP10 hS10 42 (by decide) hF13 (vp_in_nI (show j6 < 2 by omega) (by omega)) dX7_keep_34 (fun F14 H14 locs14 eF14 hP14 hS14 => ?_)
    have hW14 := hW10.up eF14 (ok_I (show (42, 2) ∈ rLI by decide) (okI_up hg13 (pr_of (by decide))))
    have hFr14 := hFr10.up eF14 (by simp <;> first | omega | (simp only [isC, isJ] at *; omega))
    refine lv_aload_n S.1 S.2.1 dX7_keep_35 rfl (lv_at hl0 0 rfl) ?_
    have hF15 := (show F14 0 = F10 0 by rw [eF14]; exact va_up_ne _ _ (by decide)).trans hF12
    refine r_get S hK hP14 0 (by decide) hF15 (C := RX7) (T := TX7) (N := 15) hiX7 rfl 8 (by decide) (by decide +kernel) (v := .ref (ad 43)) rfl dX7_keep_36 ?_
    refine lv_iload_n S.1 S.2.1 dX7_keep_39 rfl (lv_at hl0 1 rfl) ?_
    refine lv_iconst (v := (nI 1)) S.1 S.2.1 dX7_keep_40 (by decide +kernel) ?_
    obtain ⟨g16, hF16⟩ := wt_Z hW14 (show (43, 2) ∈ rLZ by decide)
    refine r_zast S hI hK hP14 hS14 43 (by decide) hF16 (vp_in_nI (show j6 < 2 by omega) (by omega)) dX7_keep_41 (fun F17 H17 locs17 eF17 hP17 hS17 => ?_)
    have hW17 := hW14.up eF17 (ok_Z (show (43, 2) ∈ rLZ by decide) ⟨_, rfl⟩)
    have hFr17 := hFr14.up eF17 (by simp <;> first | omega | (simp only [isC, isJ] at *; omega))
    refine lv_aload_n S.1 S.2.1 dX7_keep_42 rfl (lv_at hl0 0 rfl) ?_
    have hF18 := (show F17 0 = F14 0 by rw [eF17]; exact va_up_ne _ _ (by decide)).trans hF15
    refine r_get S hK hP17 0 (by decide) hF18 (C := RX7) (T := TX7) (N := 15) hiX7 rfl 2 (by decide) (by decide +kernel) (v := .ref (ad 4)) rfl dX7_keep_43 ?_
    refine lv_iconst (v := (nI 0)) S.1 S.2.1 dX7_keep_46 (by decide +kernel) ?_
    obtain ⟨k19, hF19, hk19⟩ := wt_past hW17
    refine r_put S hI hK hP17 hS17 4 (by decide) hF19 (C := RX2) (T := TX2) (N := 2) hiX2 tyX2_ok nmX2 rfl 1 (by decide) (by decide +kernel) rfl rfl rfl (Nat.le_of_ble_eq_true rfl) dX7_keep_47 (fun F20 H20 locs20 eF20 hP20 hS20 => ?_)
    have hF20 : F20 4 = .inr (2, [.ref (ad 5), .int (nI 0)]) := by rw [eF20]; exact va_up_self _ _ _
    have hW20 := hW17.up eF20 (ok_past ⟨0, rfl, by omega⟩)
    have hFr20 := hFr17.up eF20 (by simp <;> first | omega | (simp only [isC, isJ] at *; omega))
    refine lv_iconst (v := (nI 1)) S.1 S.2.1 dX7_keep_50 (by decide +kernel) ?_
    exact hret 51 _ _ _ _ _ dX7_keep_51 rfl hP20 hS20 ⟨hW20, hFr20, by unfold kpR; rw [if_pos (by omega)]⟩
  have k21 := ci_nlt rfl (nI_toInt (n := 2) (by omega)) c4
  refine lv_ldc (v := (-1000000001)) S.1 S.2.1 S.2.2.2.1 (S.2.2.2.2 (.constant RX7 147 (-1000000001)) (by decide +kernel)) dX7_keep_9 ?_
  exact hret 11 _ _ _ _ _ dX7_keep_11 rfl hP hS ⟨hW, hFr, by unfold kpR; rw [if_neg (by omega)]⟩
set_option maxHeartbeats 4000000 in
set_option maxRecDepth 100000 in
theorem c_X7_goBack (l : Launch) (D : va_G) (cA ad : Nat → Nat) (t : Nat) (hI : rI ad) (F : Nat → va_E) (hW : WT cA ad F) (p1 : Int32) : MI l D cA ad t yX7_goBack wsX7_goBack { frames := 1, cells := 0, slots := 0, locals := 21 } [.ref (ad 0), .int p1] F (fun r F' => WT cA ad F' ∧ rFr [0, 3, 4] F F' ∧ (True)) := by
  refine en_I rfl (by decide +kernel) (Nat.le_of_ble_eq_true rfl) ?_
  intro p e s m args below meth c ls0 Q S hK hZ hP hS hl0 hret
  have hl0 : lv_has ls0 2 [(0, .ref (ad 0)), (1, .int p1)] := hl0
  have hFr : rFr [0, 3, 4] F F := rFr.rf
  have hiX2 : ∀ w ∈ u_ws RX2 TX2 2, w ∈ wsX7_goBack := by decide +kernel
  have hiX7 : ∀ w ∈ u_ws RX7 TX7 15, w ∈ wsX7_goBack := by decide +kernel
  refine lv_iload_n S.1 S.2.1 dX7_goBack_0 rfl (lv_at hl0 1 rfl) ?_
  refine lv_if_lt (tgt := 9) S.1 S.2.1 dX7_goBack_1 (by decide) (fun c1 => ?_) (fun c1 => ?_)
  · skip
    have k2 := ci_lt rfl z_ti c1
    refine lv_ldc (v := (-1000000001)) S.1 S.2.1 S.2.2.2.1 (S.2.2.2.2 (.constant RX7 147 (-1000000001)) (by decide +kernel)) dX7_goBack_9 ?_
    exact hret 11 _ _ _ _ _ dX7_goBack_11 rfl hP hS ⟨hW, hFr, trivial⟩
  have k3 := ci_nlt rfl z_ti c1
  refine lv_iload_n S.1 S.2.1 dX7_goBack_4 rfl (lv_at hl0 1 rfl) ?_
  refine lv_iconst (v := (nI 2)) S.1 S.2.1 dX7_goBack_5 (by decide +kernel) ?_
  refine lv_icmp_lt (tgt := 12) S.1 S.2.1 dX7_goBack_6 (by decide) (fun c4 => ?_) (fun c4 => ?_)
  · skip
    have k5 := ci_lt rfl (nI_toInt (n := 2) (by omega)) c4
    obtain ⟨j6, hj6, rfl⟩ := nI_of_le (x := p1) (B := 1) (by omega) (by omega)
    have kj6 := nI_toInt (n := j6) (by omega)
    refine lv_aload_n S.1 S.2.1 dX7_goBack_12 rfl (lv_at hl0 0 rfl) ?_
    obtain ⟨c7, d7, k7, dr7, hF7, hc7, hd7, hk7⟩ := wt_main hW
    refine r_get S hK hP 0 (by decide) hF7 (C := RX7) (T := TX7) (N := 15) hiX7 rfl 8 (by decide) (by decide +kernel) (v := .ref (ad 43)) rfl dX7_goBack_13 ?_
    refine lv_iload_n S.1 S.2.1 dX7_goBack_16 rfl (lv_at hl0 1 rfl) ?_
    obtain ⟨g8, hF8⟩ := wt_Z hW (show (43, 2) ∈ rLZ by decide)
    refine r_zald S hK hP 43 (by decide) hF8 (vp_in_nI (show j6 < 2 by omega) (by omega)) dX7_goBack_17 ?_
    refine lv_topi (fun v10 e10 => ?_)
    refine lv_if_ne (tgt := 24) S.1 S.2.1 dX7_goBack_18 (by decide) (fun c11 => ?_) (fun c11 => ?_)
    · skip
      have k12 := ci_ne rfl z_ti c11
      refine lv_aload_n S.1 S.2.1 dX7_goBack_24 rfl (lv_at hl0 0 rfl) ?_
      refine r_get S hK hP 0 (by decide) hF7 (C := RX7) (T := TX7) (N := 15) hiX7 rfl 1 (by decide) (by decide +kernel) (v := .ref (ad 3)) rfl dX7_goBack_25 ?_
      refine lv_aload_n S.1 S.2.1 dX7_goBack_28 rfl (lv_at hl0 0 rfl) ?_
      refine r_get S hK hP 0 (by decide) hF7 (C := RX7) (T := TX7) (N := 15) hiX7 rfl 6 (by decide) (by decide +kernel) (v := .ref (ad 39)) rfl dX7_goBack_29 ?_
      refine lv_iload_n S.1 S.2.1 dX7_goBack_32 rfl (lv_at hl0 1 rfl) ?_
      obtain ⟨g13, hF13, hg13⟩ := wt_img hW
      obtain ⟨j14, hj14, hg14⟩ := hg13 j6 (by omega)
      refine r_aald S hK hP 39 (by decide) hF13 (vp_in_nI (show j6 < 2 by omega) (by omega)) (a := ad j14) (by rw [nI_clamp (by omega)]; exact hg14) dX7_goBack_33 ?_
      obtain ⟨ja16, jb16, jc16, jd16, jx16, jy16, jk16, hF16, hk16⟩ := wt_J hW (show isJ 3 from Or.inl rfl)
      refine r_cVv (As := [.ref (ad j14)]) (rest := []) S hK hZ hP hS hl0.1 3 (by decide) hF16 (C := RX1) rfl (c_X1_copy l D cA ad t hI F hW 3 (show isJ 3 from Or.inl rfl) j14 (show isJ j14 from Or.inr (Or.inr hj14))) (cwV 1 S.2.2.2.2 gX7_goBack_X1_copy rfl rfl rfl (by decide +kernel) ⟨Nat.le_of_ble_eq_true rfl, Nat.le_of_ble_eq_true rfl⟩) rfl rfl (Nat.le_of_ble_eq_true rfl) ⟨Nat.zero_le _, Nat.zero_le _⟩ dX7_goBack_34 (fun F15 H15 locs15 hr15 hP15 hS15 => ?_)
      obtain ⟨hW15, hFc15, hr15⟩ := hr15
      have hFr15 := hFr.tr hFc15 (by simp <;> first | omega | (simp only [isC, isJ] at *; omega))
      refine lv_aload_n S.1 S.2.1 dX7_goBack_37 rfl (lv_at hl0 0 rfl) ?_
      refine lv_aload_n S.1 S.2.1 dX7_goBack_38 rfl (lv_at hl0 0 rfl) ?_
      have hF17 := (hFc15 0 (by decide)).trans hF7
      refine r_get S hK hP15 0 (by decide) hF17 (C := RX7) (T := TX7) (N := 15) hiX7 rfl 7 (by decide) (by decide +kernel) (v := .ref (ad 42)) rfl dX7_goBack_39 ?_
      refine lv_iload_n S.1 S.2.1 dX7_goBack_42 rfl (lv_at hl0 1 rfl) ?_
      obtain ⟨g18, hF18, hg18⟩ := wt_I hW15 (show (42, 2) ∈ rLI by decide)
      refine r_iald S hK hP15 42 (by decide) hF18 (vp_in_nI (show j6 < 2 by omega) (by omega)) dX7_goBack_43 ?_
      refine lv_topi (fun v20 e20 => ?_)
      refine r_put S hI hK hP15 hS15 0 (by decide) hF17 (C := RX7) (T := TX7) (N := 15) hiX7 tyX7_ok nmX7 rfl 14 (by decide) (by decide +kernel) rfl rfl rfl (Nat.le_of_ble_eq_true rfl) dX7_goBack_44 (fun F21 H21 locs21 eF21 hP21 hS21 => ?_)
      have hF21 : F21 0 = .inr (7, [.ref (ad 1), .ref (ad 3), .ref (ad 4), .ref (ad 26), .ref (ad 30), .ref (ad 33), .ref (ad 39), .ref (ad 42), .ref (ad 43), .ref (ad 44), .ref (ad 45), .ref (ad c7), .ref (ad d7), .int (nI k7), .int v20]) := by rw [eF21]; exact va_up_self _ _ _
      have hW21 := hW15.up eF21 (ok_main ⟨c7, d7, k7, v20, rfl, hc7, hd7, by omega⟩)
      have hFr21 := hFr15.up eF21 (by simp <;> first | omega | (simp only [isC, isJ] at *; omega))
      refine lv_aload_n S.1 S.2.1 dX7_goBack_47 rfl (lv_at hl0 0 rfl) ?_
      refine r_get S hK hP21 0 (by decide) hF21 (C := RX7) (T := TX7) (N := 15) hiX7 rfl 2 (by decide) (by decide +kernel) (v := .ref (ad 4)) rfl dX7_goBack_48 ?_
      refine lv_iconst (v := (nI 0)) S.1 S.2.1 dX7_goBack_51 (by decide +kernel) ?_
      obtain ⟨k22, hF22, hk22⟩ := wt_past hW21
      refine r_put S hI hK hP21 hS21 4 (by decide) hF22 (C := RX2) (T := TX2) (N := 2) hiX2 tyX2_ok nmX2 rfl 1 (by decide) (by decide +kernel) rfl rfl rfl (Nat.le_of_ble_eq_true rfl) dX7_goBack_52 (fun F23 H23 locs23 eF23 hP23 hS23 => ?_)
      have hF23 : F23 4 = .inr (2, [.ref (ad 5), .int (nI 0)]) := by rw [eF23]; exact va_up_self _ _ _
      have hW23 := hW21.up eF23 (ok_past ⟨0, rfl, by omega⟩)
      have hFr23 := hFr21.up eF23 (by simp <;> first | omega | (simp only [isC, isJ] at *; omega))
      refine lv_iconst (v := (nI 1)) S.1 S.2.1 dX7_goBack_55 (by decide +kernel) ?_
      exact hret 56 _ _ _ _ _ dX7_goBack_56 rfl hP23 hS23 ⟨hW23, hFr23, trivial⟩
    have k24 := ci_eq rfl z_ti c11
    refine lv_ldc (v := (-1000000003)) S.1 S.2.1 S.2.2.2.1 (S.2.2.2.2 (.constant RX7 181 (-1000000003)) (by decide +kernel)) dX7_goBack_21 ?_
    exact hret 23 _ _ _ _ _ dX7_goBack_23 rfl hP hS ⟨hW, hFr, trivial⟩
  have k25 := ci_nlt rfl (nI_toInt (n := 2) (by omega)) c4
  refine lv_ldc (v := (-1000000001)) S.1 S.2.1 S.2.2.2.1 (S.2.2.2.2 (.constant RX7 147 (-1000000001)) (by decide +kernel)) dX7_goBack_9 ?_
  exact hret 11 _ _ _ _ _ dX7_goBack_11 rfl hP hS ⟨hW, hFr, trivial⟩
