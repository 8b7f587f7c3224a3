set_option maxHeartbeats 4000000 in
set_option maxRecDepth 100000 in
theorem c_X3_mostFrom (l : Launch) (D : va_G) (cA ad : Nat → Nat) (t : Nat) (hI : rI ad) (F : Nat → va_E) (hW : WT cA ad F) (p1 : Int32) (p2 : Int32) (p3 : Int32) : MP l D cA ad t yX3_mostFrom wsX3_mostFrom { frames := 0, cells := 0, slots := 0, locals := 0 } [.ref (ad 26), .int p1, .int p2, .int p3] F (fun r => True) := by
  refine en_P rfl (by decide +kernel) (Nat.le_of_ble_eq_true rfl) ?_
  intro p e s m args below meth c ls0 Q S hK hZ hP hS hl0 hret
  have hl0 : lv_has ls0 5 [(0, .ref (ad 26)), (1, .int p1), (2, .int p2), (3, .int p3)] := hl0
  have hiX3 : ∀ w ∈ u_ws RX3 TX3 3, w ∈ wsX3_mostFrom := in_wsX3_mostFrom_1
  refine lv_iload_n S.1 S.2.1 dX3_mostFrom_0 rfl (lv_at hl0 1 rfl) ?_
  refine lv_bipush (v := (nI 40)) S.1 S.2.1 dX3_mostFrom_1 (by decide +kernel) ?_
  refine lv_imul S.1 S.2.1 dX3_mostFrom_3 ?_
  refine lv_topi (fun v1 e1 => ?_)
  refine lv_iload_n S.1 S.2.1 dX3_mostFrom_4 rfl (lv_at hl0 2 rfl) ?_
  refine lv_iconst (v := (nI 5)) S.1 S.2.1 dX3_mostFrom_5 (by decide +kernel) ?_
  refine lv_imul S.1 S.2.1 dX3_mostFrom_6 ?_
  refine lv_topi (fun v2 e2 => ?_)
  refine lv_iadd S.1 S.2.1 dX3_mostFrom_7 ?_
  refine lv_topi (fun v3 e3 => ?_)
  refine lv_iload_n S.1 S.2.1 dX3_mostFrom_8 rfl (lv_at hl0 3 rfl) ?_
  refine lv_iadd S.1 S.2.1 dX3_mostFrom_9 ?_
  refine lv_topi (fun v4 e4 => ?_)
  refine lv_istore (lv' := [(4, .int v4), (0, .ref (ad 26)), (1, .int p1), (2, .int p2), (3, .int p3)]) S.1 S.2.1 dX3_mostFrom_10 hl0 (by decide) rfl (fun ls5 hl5 => ?_)
  refine lv_iload S.1 S.2.1 dX3_mostFrom_12 (lv_at hl5 0 rfl) ?_
  refine lv_if_lt (tgt := 37) S.1 S.2.1 dX3_mostFrom_14 (by decide) (fun c6 => ?_) (fun c6 => ?_)
  · skip
    have k7 := ci_lt rfl z_ti c6
    refine lv_iconst (v := (-1)) S.1 S.2.1 dX3_mostFrom_37 (by decide +kernel) ?_
    exact hret 38 _ _ dX3_mostFrom_38 rfl (trivial)
  have k8 := ci_nlt rfl z_ti c6
  refine lv_iload S.1 S.2.1 dX3_mostFrom_17 (lv_at hl5 0 rfl) ?_
  refine lv_aload_n S.1 S.2.1 dX3_mostFrom_19 rfl (lv_at hl5 1 rfl) ?_
  have hF9 := wt_plan hW
  unfold okPlan at hF9
  refine r_get S hK hP 26 (by decide) hF9 (C := RX3) (T := TX3) (N := 3) hiX3 rfl 0 (by decide) (am_at in_wsX3_mostFrom_0 0 rfl) (v := .ref (ad 27)) rfl dX3_mostFrom_20 ?_
  obtain ⟨g10, hF10, hg10⟩ := wt_I hW (show (27, 1480) ∈ rLI by decide)
  refine r_alen S hK hP 27 (by decide) 0 hF10 rfl dX3_mostFrom_23 ?_
  refine lv_icmp_ge (tgt := 37) S.1 S.2.1 dX3_mostFrom_24 (by decide) (fun c11 => ?_) (fun c11 => ?_)
  · skip
    have k12 := ci_le (nI_toInt (n := 1480) (by decide)) rfl c11
    refine lv_iconst (v := (-1)) S.1 S.2.1 dX3_mostFrom_37 (by decide +kernel) ?_
    exact hret 38 _ _ dX3_mostFrom_38 rfl (trivial)
  have k13 := ci_nle (nI_toInt (n := 1480) (by decide)) rfl c11
  refine lv_aload_n S.1 S.2.1 dX3_mostFrom_27 rfl (lv_at hl5 1 rfl) ?_
  refine r_get S hK hP 26 (by decide) hF9 (C := RX3) (T := TX3) (N := 3) hiX3 rfl 0 (by decide) (am_at in_wsX3_mostFrom_0 0 rfl) (v := .ref (ad 27)) rfl dX3_mostFrom_28 ?_
  refine lv_iload S.1 S.2.1 dX3_mostFrom_31 (lv_at hl5 0 rfl) ?_
  refine r_iald S hK hP 27 (by decide) hF10 (in_of (n := 1480) (a := v4.toInt) rfl (by omega) (by omega)) dX3_mostFrom_33 ?_
  refine lv_topi (fun v15 e15 => ?_)
  refine lv_goto (tgt := 38) S.1 S.2.1 dX3_mostFrom_34 (by decide) ?_
  exact hret 38 _ _ dX3_mostFrom_38 rfl (trivial)
set_option maxHeartbeats 4000000 in
set_option maxRecDepth 100000 in
theorem c_X3_fillTown (l : Launch) (D : va_G) (cA ad : Nat → Nat) (t : Nat) (hI : rI ad) (F : Nat → va_E) (hW : WT cA ad F) (rc : Nat) (hrc : isC rc) (p2 : Int32) (p3 : Int32) (k4 : Nat) (hk4 : k4 ≤ 35) (t5 : Nat) (ht5 : t5 ≤ 7) : MV l D cA ad t yX3_fillTown wsX3_fillTown { frames := 3, cells := 0, slots := 0, locals := 65 } [.ref (ad 26), .ref (ad rc), .int p2, .int p3, .int (nI k4), .int (nI t5)] F (fun F' => WT cA ad F' ∧ rFr [27] F F' ∧ (True)) := by
  refine en_V rfl (by decide +kernel) (Nat.le_of_ble_eq_true rfl) ?_
  intro p e s m args below meth c ls0 Q S hK hZ hP hS hl0 hret
  have hl0 : lv_has ls0 11 [(0, .ref (ad 26)), (1, .ref (ad rc)), (2, .int p2), (3, .int p3), (4, .int (nI k4)), (5, .int (nI t5))] := hl0
  have hFr : rFr [27] F F := rFr.rf
  have hiX0 : ∀ w ∈ u_ws RX0 TX0 10, w ∈ wsX3_fillTown := in_wsX3_fillTown_2
  have hiX3 : ∀ w ∈ u_ws RX3 TX3 3, w ∈ wsX3_fillTown := in_wsX3_fillTown_3
  refine lv_iconst (v := (-1)) S.1 S.2.1 dX3_fillTown_0 (by decide +kernel) ?_
  refine lv_istore (lv' := [(6, .int (-1)), (0, .ref (ad 26)), (1, .ref (ad rc)), (2, .int p2), (3, .int p3), (4, .int (nI k4)), (5, .int (nI t5))]) S.1 S.2.1 dX3_fillTown_1 hl0 (by decide) rfl (fun ls1 hl1 => ?_)
  refine lv_iconst (v := (nI 0)) S.1 S.2.1 dX3_fillTown_3 (by decide +kernel) ?_
  refine lv_istore (lv' := [(7, .int (nI 0)), (6, .int (-1)), (0, .ref (ad 26)), (1, .ref (ad rc)), (2, .int p2), (3, .int p3), (4, .int (nI k4)), (5, .int (nI t5))]) S.1 S.2.1 dX3_fillTown_4 hl1 (by decide) rfl (fun ls2 hl2 => ?_)
  have lp3 : ∀ (n3 : Nat) (q73 : Nat) (x3_6 : Int32), q73 ≤ 8 → 8 - q73 < n3 → ∀ (ls : Array Slot), lv_has ls 11 [(7, .int (nI q73)), (6, .int x3_6), (0, .ref (ad 26)), (1, .ref (ad rc)), (2, .int p2), (3, .int p3), (4, .int (nI k4)), (5, .int (nI t5))] → W p l e { frames := 3, cells := 0, slots := 0, locals := 65 } s m args below meth c s.heap [] 0 0 Q (F0 m 6 ls []) := by
    intro n3
    induction n3 with
    | zero =>
      intro q73 x3_6 iv3_0 hm3 ls3 hl3
      exact absurd hm3 (Nat.not_lt_zero _)
    | succ n3 ih3 =>
      intro q73 x3_6 iv3_0 hm3 ls3 hl3
      refine lv_iload S.1 S.2.1 dX3_fillTown_6 (lv_at hl3 0 rfl) ?_
      refine lv_aload_n S.1 S.2.1 dX3_fillTown_8 rfl (lv_at hl3 3 rfl) ?_
      obtain ⟨sl4, fm4, tn4, rn4, bn4, hF4, hb4_1, hb4_2, hb4_3⟩ := wt_C hW hrc
      refine r_get S hK hP rc (lt_C hrc) hF4 (C := RX0) (T := TX0) (N := 10) hiX0 rfl 2 (by decide) (am_at in_wsX3_fillTown_0 0 rfl) (v := .int (nI tn4)) rfl dX3_fillTown_9 ?_
      refine lv_icmp_ge (tgt := 48) S.1 S.2.1 dX3_fillTown_12 (by decide) (fun c5 => ?_) (fun c5 => ?_)
      · skip
        have k6 := ci_le (nI_toInt (n := tn4) (by omega)) (nI_toInt (n := q73) (by omega)) c5
        refine lv_aload_n S.1 S.2.1 dX3_fillTown_48 rfl (lv_at hl3 3 rfl) ?_
        refine lv_iload S.1 S.2.1 dX3_fillTown_49 (lv_at hl3 7 rfl) ?_
        refine lv_iload_n S.1 S.2.1 dX3_fillTown_51 rfl (lv_at hl3 5 rfl) ?_
        refine lv_iload S.1 S.2.1 dX3_fillTown_52 (lv_at hl3 6 rfl) ?_
        refine lv_iadd S.1 S.2.1 dX3_fillTown_54 ?_
        refine lv_topi (fun v7 e7 => ?_)
        refine r_cVp (As := [.int (nI t5), .int v7]) (rest := []) S hK hZ hP hS hl3.1 rc (lt_C hrc) hF4 (C := RX0) rfl (c_X0_gainIn l D cA ad t hI F hW rc hrc (nI t5) v7) (cwV 2 S.2.2.2.2 gX3_fillTown_X0_gainIn rfl rfl rfl (by decide +kernel) ⟨Nat.le_of_ble_eq_true rfl, Nat.le_of_ble_eq_true rfl⟩) rfl rfl (Nat.le_of_ble_eq_true rfl) ⟨Nat.zero_le _, Nat.zero_le _⟩ dX3_fillTown_55 (fun r8 hr8 => ?_)
        obtain ⟨hr8, hm8⟩ := hr8
        refine lv_istore (lv' := [(7, .int r8), (6, .int x3_6), (0, .ref (ad 26)), (1, .ref (ad rc)), (2, .int p2), (3, .int p3), (4, .int (nI k4)), (5, .int (nI t5))]) S.1 S.2.1 dX3_fillTown_58 hl3 (by decide) rfl (fun ls9 hl9 => ?_)
        refine lv_iconst (v := (nI 0)) S.1 S.2.1 dX3_fillTown_60 (by decide +kernel) ?_
        refine lv_istore (lv' := [(8, .int (nI 0)), (7, .int r8), (6, .int x3_6), (0, .ref (ad 26)), (1, .ref (ad rc)), (2, .int p2), (3, .int p3), (4, .int (nI k4)), (5, .int (nI t5))]) S.1 S.2.1 dX3_fillTown_61 hl9 (by decide) rfl (fun ls10 hl10 => ?_)
        have lp11 : ∀ (n11 : Nat) (q811 : Nat), ∀ (Fl11 : Nat → va_E) (Hl11 : Heap) (lol11 : List Loc), q811 ≤ 5 → 5 - q811 < n11 → WT cA ad Fl11 → rFr [27] F Fl11 → va_P D vwCl (rW ad Fl11) Hl11 → va_S (rA ad) s.heap Hl11 lol11 → ∀ (ls : Array Slot), lv_has ls 11 [(8, .int (nI q811)), (7, .int r8), (6, .int x3_6), (0, .ref (ad 26)), (1, .ref (ad rc)), (2, .int p2), (3, .int p3), (4, .int (nI k4)), (5, .int (nI t5))] → W p l e { frames := 3, cells := 0, slots := 0, locals := 65 } s m args below meth c Hl11 lol11 0 0 Q (F0 m 63 ls []) := by
          intro n11
          induction n11 with
          | zero =>
            intro q811 Fl11 Hl11 lol11 iv11_0 hm11 hWl11 hFl11 hPl11 hSl11 ls11 hl11
            exact absurd hm11 (Nat.not_lt_zero _)
          | succ n11 ih11 =>
            intro q811 Fl11 Hl11 lol11 iv11_0 hm11 hWl11 hFl11 hPl11 hSl11 ls11 hl11
            refine lv_iload S.1 S.2.1 dX3_fillTown_63 (lv_at hl11 0 rfl) ?_
            refine lv_aload_n S.1 S.2.1 dX3_fillTown_65 rfl (lv_at hl11 4 rfl) ?_
            obtain ⟨sl12, fm12, tn12, rn12, bn12, hF12, hb12_1, hb12_2, hb12_3⟩ := wt_C hWl11 hrc
            refine r_get S hK hPl11 rc (lt_C hrc) hF12 (C := RX0) (T := TX0) (N := 10) hiX0 rfl 0 (by decide) (am_at in_wsX3_fillTown_0 5 rfl) (v := .int (nI sl12)) rfl dX3_fillTown_66 ?_
            refine lv_icmp_gt (tgt := 149) S.1 S.2.1 dX3_fillTown_69 (by decide) (fun c13 => ?_) (fun c13 => ?_)
            · skip
              have k14 := ci_lt (nI_toInt (n := sl12) (by omega)) (nI_toInt (n := q811) (by omega)) c13
              exact hret 149 _ _ _ _ dX3_fillTown_149 hPl11 hSl11 ⟨hWl11, hFl11, trivial⟩
            have k15 := ci_nlt (nI_toInt (n := sl12) (by omega)) (nI_toInt (n := q811) (by omega)) c13
            refine lv_iload S.1 S.2.1 dX3_fillTown_72 (lv_at hl11 0 rfl) ?_
            refine lv_aload_n S.1 S.2.1 dX3_fillTown_74 rfl (lv_at hl11 4 rfl) ?_
            refine r_get S hK hPl11 rc (lt_C hrc) hF12 (C := RX0) (T := TX0) (N := 10) hiX0 rfl 0 (by decide) (am_at in_wsX3_fillTown_0 5 rfl) (v := .int (nI sl12)) rfl dX3_fillTown_75 ?_
            refine lv_icmp_ge (tgt := 98) S.1 S.2.1 dX3_fillTown_78 (by decide) (fun c16 => ?_) (fun c16 => ?_)
            · skip
              have k17 := ci_le (nI_toInt (n := sl12) (by omega)) (nI_toInt (n := q811) (by omega)) c16
              refine lv_iconst (v := (-1)) S.1 S.2.1 dX3_fillTown_98 (by decide +kernel) ?_
              refine lv_istore (lv' := [(9, .int (-1)), (8, .int (nI q811)), (7, .int r8), (6, .int x3_6), (0, .ref (ad 26)), (1, .ref (ad rc)), (2, .int p2), (3, .int p3), (4, .int (nI k4)), (5, .int (nI t5))]) S.1 S.2.1 dX3_fillTown_99 hl11 (by decide) rfl (fun ls18 hl18 => ?_)
              refine lv_iload S.1 S.2.1 dX3_fillTown_101 (lv_at hl18 0 rfl) ?_
              refine lv_iconst (v := (-1)) S.1 S.2.1 dX3_fillTown_103 (by decide +kernel) ?_
              refine lv_icmp_ne (tgt := 111) S.1 S.2.1 dX3_fillTown_104 (by decide) (fun c19 => absurd (by decide +kernel) c19) (fun c19 => ?_)
              have k20 := ci_eq (show ((-1) : Int32).toInt = -1 by decide +kernel) (show ((-1) : Int32).toInt = -1 by decide +kernel) c19
              refine lv_iconst (v := (-1)) S.1 S.2.1 dX3_fillTown_107 (by decide +kernel) ?_
              refine lv_goto (tgt := 116) S.1 S.2.1 dX3_fillTown_108 (by decide) ?_
              refine lv_istore (lv' := [(10, .int (-1)), (9, .int (-1)), (8, .int (nI q811)), (7, .int r8), (6, .int x3_6), (0, .ref (ad 26)), (1, .ref (ad rc)), (2, .int p2), (3, .int p3), (4, .int (nI k4)), (5, .int (nI t5))]) S.1 S.2.1 dX3_fillTown_116 hl18 (by decide) rfl (fun ls21 hl21 => ?_)
              refine lv_aload_n S.1 S.2.1 dX3_fillTown_118 rfl (lv_at hl21 5 rfl) ?_
              have hF22 := wt_plan hWl11
              unfold okPlan at hF22
              refine r_get S hK hPl11 26 (by decide) hF22 (C := RX3) (T := TX3) (N := 3) hiX3 rfl 0 (by decide) (am_at in_wsX3_fillTown_0 6 rfl) (v := .ref (ad 27)) rfl dX3_fillTown_119 ?_
              refine lv_iload S.1 S.2.1 dX3_fillTown_122 (lv_at hl21 9 rfl) ?_
              refine lv_bipush (v := (nI 40)) S.1 S.2.1 dX3_fillTown_124 (by decide +kernel) ?_
              refine lv_imul S.1 S.2.1 dX3_fillTown_126 ?_
              refine lv_topi (fun v23 e23 => ?_)
              obtain rfl : v23 = nI (k4 * 40) := e23.trans (pk_mul _ _)
              refine lv_iload S.1 S.2.1 dX3_fillTown_127 (lv_at hl21 10 rfl) ?_
              refine lv_iconst (v := (nI 5)) S.1 S.2.1 dX3_fillTown_129 (by decide +kernel) ?_
              refine lv_imul S.1 S.2.1 dX3_fillTown_130 ?_
              refine lv_topi (fun v24 e24 => ?_)
              obtain rfl : v24 = nI (t5 * 5) := e24.trans (pk_mul _ _)
              refine lv_iadd S.1 S.2.1 dX3_fillTown_131 ?_
              refine lv_topi (fun v25 e25 => ?_)
              obtain rfl : v25 = nI ((k4 * 40) + (t5 * 5)) := e25.trans (nI_add _ _)
              refine lv_iload S.1 S.2.1 dX3_fillTown_132 (lv_at hl21 2 rfl) ?_
              refine lv_iadd S.1 S.2.1 dX3_fillTown_134 ?_
              refine lv_topi (fun v26 e26 => ?_)
              obtain rfl : v26 = nI (((k4 * 40) + (t5 * 5)) + q811) := e26.trans (nI_add _ _)
              refine lv_iload S.1 S.2.1 dX3_fillTown_135 (lv_at hl21 4 rfl) ?_
              refine lv_iload S.1 S.2.1 dX3_fillTown_137 (lv_at hl21 0 rfl) ?_
              refine va_mmax S.1 S.2.1 (by rw [S.2.2.1]; exact hl21.1.symm) S.2.2.2.1 (S.2.2.2.2 (.methodLink RX3 35 Lib.Math.max.name) (am_at in_wsX3_fillTown_0 1 rfl)) (S.2.2.2.2 (.static Lib.Math.max.name) (am_at in_wsX3_fillTown_0 2 rfl)) (S.2.2.2.2 (.initialized "java/lang/Math") (am_at in_wsX3_fillTown_0 3 rfl)) (S.2.2.2.2 (.code Lib.Math.max.name Lib.Math.max.code 2 (some .int)) (am_at in_wsX3_fillTown_0 4 rfl)) (Nat.le_of_ble_eq_true rfl) (Nat.le_of_ble_eq_true rfl) (Nat.zero_le _) (Nat.zero_le _) dX3_fillTown_139 ?_
              refine lv_topi (fun v27 e27 => ?_)
              obtain ⟨g28, hF28, hg28⟩ := wt_I hWl11 (show (27, 1480) ∈ rLI by decide)
              refine r_iast S hI hK hPl11 hSl11 27 (by decide) hF28 (vp_in_nI (show ((k4 * 40) + (t5 * 5)) + q811 < 1480 by omega) (by omega)) dX3_fillTown_142 (fun F29 H29 locs29 eF29 hP29 hS29 => ?_)
              have hW29 := hWl11.up eF29 (ok_I (show (27, 1480) ∈ rLI by decide) (okI_up hg28 (pr_of (by decide))))
              have hFr29 := hFl11.up eF29 (by simp <;> first | omega | (simp only [isC, isJ] at *; omega))
              refine lv_iinc (v := (nI (q811 + 1))) (lv' := [(8, .int (nI (q811 + 1))), (10, .int (-1)), (9, .int (-1)), (7, .int r8), (6, .int x3_6), (0, .ref (ad 26)), (1, .ref (ad rc)), (2, .int p2), (3, .int p3), (4, .int (nI k4)), (5, .int (nI t5))]) S.1 S.2.1 dX3_fillTown_143 hl21 (k := 2) rfl (nI_add _ 1) (by decide) rfl (fun ls30 hl30 => ?_)
              refine lv_goto (tgt := 63) S.1 S.2.1 dX3_fillTown_146 (by decide) ?_
              exact ih11 (q811 + 1) F29 H29 locs29 (by omega) (by omega) hW29 hFr29 hP29 hS29 ls30 (lv_sub hl30 [0, 3, 4, 5, 6, 7, 8, 9, 10] rfl)
            have k31 := ci_nle (nI_toInt (n := sl12) (by omega)) (nI_toInt (n := q811) (by omega)) c16
            refine lv_aload_n S.1 S.2.1 dX3_fillTown_81 rfl (lv_at hl11 3 rfl) ?_
            refine lv_iload S.1 S.2.1 dX3_fillTown_82 (lv_at hl11 7 rfl) ?_
            refine lv_iconst (v := (nI 1)) S.1 S.2.1 dX3_fillTown_84 (by decide +kernel) ?_
            refine lv_iadd S.1 S.2.1 dX3_fillTown_85 ?_
            refine lv_topi (fun v32 e32 => ?_)
            obtain rfl : v32 = nI (k4 + 1) := e32.trans (nI_add _ _)
            refine lv_iload S.1 S.2.1 dX3_fillTown_86 (lv_at hl11 8 rfl) ?_
            refine lv_iload S.1 S.2.1 dX3_fillTown_88 (lv_at hl11 0 rfl) ?_
            refine lv_iconst (v := (nI 1)) S.1 S.2.1 dX3_fillTown_90 (by decide +kernel) ?_
            refine lv_iadd S.1 S.2.1 dX3_fillTown_91 ?_
            refine lv_topi (fun v33 e33 => ?_)
            obtain rfl : v33 = nI (q811 + 1) := e33.trans (nI_add _ _)
            have hF35 := wt_plan hWl11
            unfold okPlan at hF35
            refine r_cVp (As := [.int (nI (k4 + 1)), .int (nI t5), .int (nI (q811 + 1))]) (rest := []) S hK hZ hPl11 hSl11 hl11.1 26 (by decide) hF35 (C := RX3) rfl (c_X3_mostFrom l D cA ad t hI Fl11 hWl11 (nI (k4 + 1)) (nI t5) (nI (q811 + 1))) (cwV 3 S.2.2.2.2 gX3_fillTown_X3_mostFrom rfl rfl rfl (by decide +kernel) ⟨Nat.le_of_ble_eq_true rfl, Nat.le_of_ble_eq_true rfl⟩) rfl rfl (Nat.le_of_ble_eq_true rfl) ⟨Nat.zero_le _, Nat.zero_le _⟩ dX3_fillTown_92 (fun r34 hr34 => ?_)
            refine lv_goto (tgt := 99) S.1 S.2.1 dX3_fillTown_95 (by decide) ?_
            refine lv_istore (lv' := [(9, .int r34), (8, .int (nI q811)), (7, .int r8), (6, .int x3_6), (0, .ref (ad 26)), (1, .ref (ad rc)), (2, .int p2), (3, .int p3), (4, .int (nI k4)), (5, .int (nI t5))]) S.1 S.2.1 dX3_fillTown_99 hl11 (by decide) rfl (fun ls36 hl36 => ?_)
            refine lv_iload S.1 S.2.1 dX3_fillTown_101 (lv_at hl36 0 rfl) ?_
            refine lv_iconst (v := (-1)) S.1 S.2.1 dX3_fillTown_103 (by decide +kernel) ?_
            refine lv_icmp_ne (tgt := 111) S.1 S.2.1 dX3_fillTown_104 (by decide) (fun c37 => ?_) (fun c37 => ?_)
            · skip
              have k38 := ci_ne rfl (show ((-1) : Int32).toInt = -1 by decide +kernel) c37
              refine lv_iload S.1 S.2.1 dX3_fillTown_111 (lv_at hl36 0 rfl) ?_
              refine lv_iload S.1 S.2.1 dX3_fillTown_113 (lv_at hl36 2 rfl) ?_
              refine lv_iadd S.1 S.2.1 dX3_fillTown_115 ?_
              refine lv_topi (fun v39 e39 => ?_)
              refine lv_istore (lv' := [(10, .int v39), (9, .int r34), (8, .int (nI q811)), (7, .int r8), (6, .int x3_6), (0, .ref (ad 26)), (1, .ref (ad rc)), (2, .int p2), (3, .int p3), (4, .int (nI k4)), (5, .int (nI t5))]) S.1 S.2.1 dX3_fillTown_116 hl36 (by decide) rfl (fun ls40 hl40 => ?_)
              refine lv_aload_n S.1 S.2.1 dX3_fillTown_118 rfl (lv_at hl40 5 rfl) ?_
              refine r_get S hK hPl11 26 (by decide) hF35 (C := RX3) (T := TX3) (N := 3) hiX3 rfl 0 (by decide) (am_at in_wsX3_fillTown_0 6 rfl) (v := .ref (ad 27)) rfl dX3_fillTown_119 ?_
              refine lv_iload S.1 S.2.1 dX3_fillTown_122 (lv_at hl40 9 rfl) ?_
              refine lv_bipush (v := (nI 40)) S.1 S.2.1 dX3_fillTown_124 (by decide +kernel) ?_
              refine lv_imul S.1 S.2.1 dX3_fillTown_126 ?_
              refine lv_topi (fun v41 e41 => ?_)
              obtain rfl : v41 = nI (k4 * 40) := e41.trans (pk_mul _ _)
              refine lv_iload S.1 S.2.1 dX3_fillTown_127 (lv_at hl40 10 rfl) ?_
              refine lv_iconst (v := (nI 5)) S.1 S.2.1 dX3_fillTown_129 (by decide +kernel) ?_
              refine lv_imul S.1 S.2.1 dX3_fillTown_130 ?_
              refine lv_topi (fun v42 e42 => ?_)
              obtain rfl : v42 = nI (t5 * 5) := e42.trans (pk_mul _ _)
              refine lv_iadd S.1 S.2.1 dX3_fillTown_131 ?_
              refine lv_topi (fun v43 e43 => ?_)
              obtain rfl : v43 = nI ((k4 * 40) + (t5 * 5)) := e43.trans (nI_add _ _)
              refine lv_iload S.1 S.2.1 dX3_fillTown_132 (lv_at hl40 2 rfl) ?_
              refine lv_iadd S.1 S.2.1 dX3_fillTown_134 ?_
              refine lv_topi (fun v44 e44 => ?_)
              obtain rfl : v44 = nI (((k4 * 40) + (t5 * 5)) + q811) := e44.trans (nI_add _ _)
              refine lv_iload S.1 S.2.1 dX3_fillTown_135 (lv_at hl40 4 rfl) ?_
              refine lv_iload S.1 S.2.1 dX3_fillTown_137 (lv_at hl40 0 rfl) ?_
              refine va_mmax S.1 S.2.1 (by rw [S.2.2.1]; exact hl40.1.symm) S.2.2.2.1 (S.2.2.2.2 (.methodLink RX3 35 Lib.Math.max.name) (am_at in_wsX3_fillTown_0 1 rfl)) (S.2.2.2.2 (.static Lib.Math.max.name) (am_at in_wsX3_fillTown_0 2 rfl)) (S.2.2.2.2 (.initialized "java/lang/Math") (am_at in_wsX3_fillTown_0 3 rfl)) (S.2.2.2.2 (.code Lib.Math.max.name Lib.Math.max.code 2 (some .int)) (am_at in_wsX3_fillTown_0 4 rfl)) (Nat.le_of_ble_eq_true rfl) (Nat.le_of_ble_eq_true rfl) (Nat.zero_le _) (Nat.zero_le _) dX3_fillTown_139 ?_
              refine lv_topi (fun v45 e45 => ?_)
              obtain ⟨g46, hF46, hg46⟩ := wt_I hWl11 (show (27, 1480) ∈ rLI by decide)
              refine r_iast S hI hK hPl11 hSl11 27 (by decide) hF46 (vp_in_nI (show ((k4 * 40) + (t5 * 5)) + q811 < 1480 by omega) (by omega)) dX3_fillTown_142 (fun F47 H47 locs47 eF47 hP47 hS47 => ?_)
              have hW47 := hWl11.up eF47 (ok_I (show (27, 1480) ∈ rLI by decide) (okI_up hg46 (pr_of (by decide))))
              have hFr47 := hFl11.up eF47 (by simp <;> first | omega | (simp only [isC, isJ] at *; omega))
              refine lv_iinc (v := (nI (q811 + 1))) (lv' := [(8, .int (nI (q811 + 1))), (10, .int v39), (9, .int r34), (7, .int r8), (6, .int x3_6), (0, .ref (ad 26)), (1, .ref (ad rc)), (2, .int p2), (3, .int p3), (4, .int (nI k4)), (5, .int (nI t5))]) S.1 S.2.1 dX3_fillTown_143 hl40 (k := 2) rfl (nI_add _ 1) (by decide) rfl (fun ls48 hl48 => ?_)
              refine lv_goto (tgt := 63) S.1 S.2.1 dX3_fillTown_146 (by decide) ?_
              exact ih11 (q811 + 1) F47 H47 locs47 (by omega) (by omega) hW47 hFr47 hP47 hS47 ls48 (lv_sub hl48 [0, 3, 4, 5, 6, 7, 8, 9, 10] rfl)
            have k49 := ci_eq rfl (show ((-1) : Int32).toInt = -1 by decide +kernel) c37
            refine lv_iconst (v := (-1)) S.1 S.2.1 dX3_fillTown_107 (by decide +kernel) ?_
            refine lv_goto (tgt := 116) S.1 S.2.1 dX3_fillTown_108 (by decide) ?_
            refine lv_istore (lv' := [(10, .int (-1)), (9, .int r34), (8, .int (nI q811)), (7, .int r8), (6, .int x3_6), (0, .ref (ad 26)), (1, .ref (ad rc)), (2, .int p2), (3, .int p3), (4, .int (nI k4)), (5, .int (nI t5))]) S.1 S.2.1 dX3_fillTown_116 hl36 (by decide) rfl (fun ls50 hl50 => ?_)
            refine lv_aload_n S.1 S.2.1 dX3_fillTown_118 rfl (lv_at hl50 5 rfl) ?_
            refine r_get S hK hPl11 26 (by decide) hF35 (C := RX3) (T := TX3) (N := 3) hiX3 rfl 0 (by decide) (am_at in_wsX3_fillTown_0 6 rfl) (v := .ref (ad 27)) rfl dX3_fillTown_119 ?_
            refine lv_iload S.1 S.2.1 dX3_fillTown_122 (lv_at hl50 9 rfl) ?_
            refine lv_bipush (v := (nI 40)) S.1 S.2.1 dX3_fillTown_124 (by decide +kernel) ?_
            refine lv_imul S.1 S.2.1 dX3_fillTown_126 ?_
            refine lv_topi (fun v51 e51 => ?_)
            obtain rfl : v51 = nI (k4 * 40) := e51.trans (pk_mul _ _)
            refine lv_iload S.1 S.2.1 dX3_fillTown_127 (lv_at hl50 10 rfl) ?_
            refine lv_iconst (v := (nI 5)) S.1 S.2.1 dX3_fillTown_129 (by decide +kernel) ?_
            refine lv_imul S.1 S.2.1 dX3_fillTown_130 ?_
            refine lv_topi (fun v52 e52 => ?_)
            obtain rfl : v52 = nI (t5 * 5) := e52.trans (pk_mul _ _)
            refine lv_iadd S.1 S.2.1 dX3_fillTown_131 ?_
            refine lv_topi (fun v53 e53 => ?_)
            obtain rfl : v53 = nI ((k4 * 40) + (t5 * 5)) := e53.trans (nI_add _ _)
            refine lv_iload S.1 S.2.1 dX3_fillTown_132 (lv_at hl50 2 rfl) ?_
            refine lv_iadd S.1 S.2.1 dX3_fillTown_134 ?_
            refine lv_topi (fun v54 e54 => ?_)
            obtain rfl : v54 = nI (((k4 * 40) + (t5 * 5)) + q811) := e54.trans (nI_add _ _)
            refine lv_iload S.1 S.2.1 dX3_fillTown_135 (lv_at hl50 4 rfl) ?_
            refine lv_iload S.1 S.2.1 dX3_fillTown_137 (lv_at hl50 0 rfl) ?_
            refine va_mmax S.1 S.2.1 (by rw [S.2.2.1]; exact hl50.1.symm) S.2.2.2.1 (S.2.2.2.2 (.methodLink RX3 35 Lib.Math.max.name) (am_at in_wsX3_fillTown_0 1 rfl)) (S.2.2.2.2 (.static Lib.Math.max.name) (am_at in_wsX3_fillTown_0 2 rfl)) (S.2.2.2.2 (.initialized "java/lang/Math") (am_at in_wsX3_fillTown_0 3 rfl)) (S.2.2.2.2 (.code Lib.Math.max.name Lib.Math.max.code 2 (some .int)) (am_at in_wsX3_fillTown_0 4 rfl)) (Nat.le_of_ble_eq_true rfl) (Nat.le_of_ble_eq_true rfl) (Nat.zero_le _) (Nat.zero_le _) dX3_fillTown_139 ?_
            refine lv_topi (fun v55 e55 => ?_)
            obtain ⟨g56, hF56, hg56⟩ := wt_I hWl11 (show (27, 1480) ∈ rLI by decide)
            refine r_iast S hI hK hPl11 hSl11 27 (by decide) hF56 (vp_in_nI (show ((k4 * 40) + (t5 * 5)) + q811 < 1480 by omega) (by omega)) dX3_fillTown_142 (fun F57 H57 locs57 eF57 hP57 hS57 => ?_)
            have hW57 := hWl11.up eF57 (ok_I (show (27, 1480) ∈ rLI by decide) (okI_up hg56 (pr_of (by decide))))
            have hFr57 := hFl11.up eF57 (by simp <;> first | omega | (simp only [isC, isJ] at *; omega))
            refine lv_iinc (v := (nI (q811 + 1))) (lv' := [(8, .int (nI (q811 + 1))), (10, .int (-1)), (9, .int r34), (7, .int r8), (6, .int x3_6), (0, .ref (ad 26)), (1, .ref (ad rc)), (2, .int p2), (3, .int p3), (4, .int (nI k4)), (5, .int (nI t5))]) S.1 S.2.1 dX3_fillTown_143 hl50 (k := 2) rfl (nI_add _ 1) (by decide) rfl (fun ls58 hl58 => ?_)
            refine lv_goto (tgt := 63) S.1 S.2.1 dX3_fillTown_146 (by decide) ?_
            exact ih11 (q811 + 1) F57 H57 locs57 (by omega) (by omega) hW57 hFr57 hP57 hS57 ls58 (lv_sub hl58 [0, 3, 4, 5, 6, 7, 8, 9, 10] rfl)
        exact lp11 (5 - (0) + 1) (0) F s.heap [] (by omega) (by omega) hW hFr hP hS ls10 (lv_sub hl10 [0, 1, 2, 3, 4, 5, 6, 7, 8] rfl)
      have k59 := ci_nle (nI_toInt (n := tn4) (by omega)) (nI_toInt (n := q73) (by omega)) c5
      refine lv_iload_n S.1 S.2.1 dX3_fillTown_15 rfl (lv_at hl3 4 rfl) ?_
      refine lv_iload S.1 S.2.1 dX3_fillTown_16 (lv_at hl3 0 rfl) ?_
      refine lv_ishr S.1 S.2.1 dX3_fillTown_18 ?_
      refine lv_topi (fun v60 e60 => ?_)
      refine lv_iconst (v := (nI 1)) S.1 S.2.1 dX3_fillTown_19 (by decide +kernel) ?_
      refine lv_iand S.1 S.2.1 dX3_fillTown_20 ?_
      refine lv_topi (fun v61 e61 => ?_)
      refine lv_if_eq (tgt := 42) S.1 S.2.1 dX3_fillTown_21 (by decide) (fun c62 => ?_) (fun c62 => ?_)
      · skip
        have k63 := ci_eq rfl z_ti c62
        refine lv_iinc (v := (nI (q73 + 1))) (lv' := [(7, .int (nI (q73 + 1))), (6, .int x3_6), (0, .ref (ad 26)), (1, .ref (ad rc)), (2, .int p2), (3, .int p3), (4, .int (nI k4)), (5, .int (nI t5))]) S.1 S.2.1 dX3_fillTown_42 hl3 (k := 0) rfl (nI_add _ 1) (by decide) rfl (fun ls64 hl64 => ?_)
        refine lv_goto (tgt := 6) S.1 S.2.1 dX3_fillTown_45 (by decide) ?_
        exact ih3 (q73 + 1) (x3_6) (by omega) (by omega) ls64 (lv_sub hl64 [0, 1, 2, 3, 4, 5, 6, 7] rfl)
      have k65 := ci_ne rfl z_ti c62
      refine lv_iload S.1 S.2.1 dX3_fillTown_24 (lv_at hl3 1 rfl) ?_
      refine lv_aload_n S.1 S.2.1 dX3_fillTown_26 rfl (lv_at hl3 2 rfl) ?_
      refine lv_iload S.1 S.2.1 dX3_fillTown_27 (lv_at hl3 6 rfl) ?_
      refine lv_iconst (v := (nI 1)) S.1 S.2.1 dX3_fillTown_29 (by decide +kernel) ?_
      refine lv_iadd S.1 S.2.1 dX3_fillTown_30 ?_
      refine lv_topi (fun v66 e66 => ?_)
      obtain rfl : v66 = nI (k4 + 1) := e66.trans (nI_add _ _)
      refine lv_iload S.1 S.2.1 dX3_fillTown_31 (lv_at hl3 0 rfl) ?_
      refine lv_iconst (v := (nI 0)) S.1 S.2.1 dX3_fillTown_33 (by decide +kernel) ?_
      have hF68 := wt_plan hW
      unfold okPlan at hF68
      refine r_cVp (As := [.int (nI (k4 + 1)), .int (nI q73), .int (nI 0)]) (rest := [.int x3_6]) S hK hZ hP hS hl3.1 26 (by decide) hF68 (C := RX3) rfl (c_X3_mostFrom l D cA ad t hI F hW (nI (k4 + 1)) (nI q73) (nI 0)) (cwV 3 S.2.2.2.2 gX3_fillTown_X3_mostFrom rfl rfl rfl (by decide +kernel) ⟨Nat.le_of_ble_eq_true rfl, Nat.le_of_ble_eq_true rfl⟩) rfl rfl (Nat.le_of_ble_eq_true rfl) ⟨Nat.zero_le _, Nat.zero_le _⟩ dX3_fillTown_34 (fun r67 hr67 => ?_)
      refine va_mmax S.1 S.2.1 (by rw [S.2.2.1]; exact hl3.1.symm) S.2.2.2.1 (S.2.2.2.2 (.methodLink RX3 35 Lib.Math.max.name) (am_at in_wsX3_fillTown_0 1 rfl)) (S.2.2.2.2 (.static Lib.Math.max.name) (am_at in_wsX3_fillTown_0 2 rfl)) (S.2.2.2.2 (.initialized "java/lang/Math") (am_at in_wsX3_fillTown_0 3 rfl)) (S.2.2.2.2 (.code Lib.Math.max.name Lib.Math.max.code 2 (some .int)) (am_at in_wsX3_fillTown_0 4 rfl)) (Nat.le_of_ble_eq_true rfl) (Nat.le_of_ble_eq_true rfl) (Nat.zero_le _) (Nat.zero_le _) dX3_fillTown_37 ?_
      refine lv_topi (fun v69 e69 => ?_)
      refine lv_istore (lv' := [(6, .int v69), (7, .int (nI q73)), (0, .ref (ad 26)), (1, .ref (ad rc)), (2, .int p2), (3, .int p3), (4, .int (nI k4)), (5, .int (nI t5))]) S.1 S.2.1 dX3_fillTown_40 hl3 (by decide) rfl (fun ls70 hl70 => ?_)
      refine lv_iinc (v := (nI (q73 + 1))) (lv' := [(7, .int (nI (q73 + 1))), (6, .int v69), (0, .ref (ad 26)), (1, .ref (ad rc)), (2, .int p2), (3, .int p3), (4, .int (nI k4)), (5, .int (nI t5))]) S.1 S.2.1 dX3_fillTown_42 hl70 (k := 1) rfl (nI_add _ 1) (by decide) rfl (fun ls71 hl71 => ?_)
      refine lv_goto (tgt := 6) S.1 S.2.1 dX3_fillTown_45 (by decide) ?_
      exact ih3 (q73 + 1) (v69) (by omega) (by omega) ls71 (lv_sub hl71 [0, 1, 2, 3, 4, 5, 6, 7] rfl)
  exact lp3 (8 - (0) + 1) (0) ((-1)) (by omega) (by omega) ls2 (lv_sub hl2 [0, 1, 2, 3, 4, 5, 6, 7] rfl)
set_option maxHeartbeats 4000000 in
set_option maxRecDepth 100000 in
theorem c_X3_fill (l : Launch) (D : va_G) (cA ad : Nat → Nat) (t : Nat) (hI : rI ad) (F : Nat → va_E) (hW : WT cA ad F) (rc : Nat) (hrc : isC rc) (ra : Nat) (hra : (ra, 8) ∈ rLI) (hura : ra ∉ [60, 61, 62, 63, 64, 66]) (p3 : Int32) (n4 : Nat) (hn4 : 1 ≤ n4 ∧ n4 ≤ 36) : MV l D cA ad t yX3_fill wsX3_fill { frames := 4, cells := 0, slots := 0, locals := 95 } [.ref (ad 26), .ref (ad rc), .ref (ad ra), .int p3, .int (nI n4)] F (fun F' => WT cA ad F' ∧ rFr [27] F F' ∧ (True)) := by
  refine en_V rfl (by decide +kernel) (Nat.le_of_ble_eq_true rfl) ?_
  intro p e s m args below meth c ls0 Q S hK hZ hP hS hl0 hret
  have hl0 : lv_has ls0 7 [(0, .ref (ad 26)), (1, .ref (ad rc)), (2, .ref (ad ra)), (3, .int p3), (4, .int (nI n4))] := hl0
  have hFr : rFr [27] F F := rFr.rf
  have hiX0 : ∀ w ∈ u_ws RX0 TX0 10, w ∈ wsX3_fill := in_wsX3_fill_3
  have hiX3 : ∀ w ∈ u_ws RX3 TX3 3, w ∈ wsX3_fill := in_wsX3_fill_2
  refine lv_iconst (v := (nI 0)) S.1 S.2.1 dX3_fill_0 (by decide +kernel) ?_
  refine lv_istore (lv' := [(5, .int (nI 0)), (0, .ref (ad 26)), (1, .ref (ad rc)), (2, .ref (ad ra)), (3, .int p3), (4, .int (nI n4))]) S.1 S.2.1 dX3_fill_1 hl0 (by decide) rfl (fun ls1 hl1 => ?_)
  have lp2 : ∀ (n2 : Nat) (q52 : Nat), ∀ (Fl2 : Nat → va_E) (Hl2 : Heap) (lol2 : List Loc), q52 ≤ 40 → 40 - q52 < n2 → WT cA ad Fl2 → rFr [27] F Fl2 → va_P D vwCl (rW ad Fl2) Hl2 → va_S (rA ad) s.heap Hl2 lol2 → ∀ (ls : Array Slot), lv_has ls 7 [(5, .int (nI q52)), (0, .ref (ad 26)), (1, .ref (ad rc)), (2, .ref (ad ra)), (3, .int p3), (4, .int (nI n4))] → W p l e { frames := 4, cells := 0, slots := 0, locals := 95 } s m args below meth c Hl2 lol2 0 0 Q (F0 m 3 ls []) := by
    intro n2
    induction n2 with
    | zero =>
      intro q52 Fl2 Hl2 lol2 iv2_0 hm2 hWl2 hFl2 hPl2 hSl2 ls2 hl2
      exact absurd hm2 (Nat.not_lt_zero _)
    | succ n2 ih2 =>
      intro q52 Fl2 Hl2 lol2 iv2_0 hm2 hWl2 hFl2 hPl2 hSl2 ls2 hl2
      refine lv_iload S.1 S.2.1 dX3_fill_3 (lv_at hl2 0 rfl) ?_
      refine lv_bipush (v := (nI 40)) S.1 S.2.1 dX3_fill_5 (by decide +kernel) ?_
      refine lv_icmp_ge (tgt := 30) S.1 S.2.1 dX3_fill_7 (by decide) (fun c3 => ?_) (fun c3 => ?_)
      · skip
        have k4 := ci_le (nI_toInt (n := 40) (by decide)) (nI_toInt (n := q52) (by omega)) c3
        refine lv_iload S.1 S.2.1 dX3_fill_30 (lv_at hl2 5 rfl) ?_
        refine lv_iconst (v := (nI 1)) S.1 S.2.1 dX3_fill_32 (by decide +kernel) ?_
        refine lv_isub S.1 S.2.1 dX3_fill_33 ?_
        refine lv_topi (fun v5 e5 => ?_)
        obtain rfl : v5 = nI (n4 - 1) := e5.trans (pk_sub (by omega))
        refine lv_istore (lv' := [(5, .int (nI (n4 - 1))), (0, .ref (ad 26)), (1, .ref (ad rc)), (2, .ref (ad ra)), (3, .int p3), (4, .int (nI n4))]) S.1 S.2.1 dX3_fill_34 hl2 (by decide) rfl (fun ls6 hl6 => ?_)
        have lp7 : ∀ (n7 : Nat) (x7_5 : Int32), ∀ (Fl7 : Nat → va_E) (Hl7 : Heap) (lol7 : List Loc), -1 ≤ x7_5.toInt → x7_5.toInt ≤ 35 → (x7_5.toInt + 1).toNat < n7 → WT cA ad Fl7 → rFr [27] F Fl7 → va_P D vwCl (rW ad Fl7) Hl7 → va_S (rA ad) s.heap Hl7 lol7 → ∀ (ls : Array Slot), lv_has ls 7 [(5, .int x7_5), (0, .ref (ad 26)), (1, .ref (ad rc)), (2, .ref (ad ra)), (3, .int p3), (4, .int (nI n4))] → W p l e { frames := 4, cells := 0, slots := 0, locals := 95 } s m args below meth c Hl7 lol7 0 0 Q (F0 m 36 ls []) := by
          intro n7
          induction n7 with
          | zero =>
            intro x7_5 Fl7 Hl7 lol7 iv7_0 iv7_1 hm7 hWl7 hFl7 hPl7 hSl7 ls7 hl7
            exact absurd hm7 (Nat.not_lt_zero _)
          | succ n7 ih7 =>
            intro x7_5 Fl7 Hl7 lol7 iv7_0 iv7_1 hm7 hWl7 hFl7 hPl7 hSl7 ls7 hl7
            refine lv_iload S.1 S.2.1 dX3_fill_36 (lv_at hl7 0 rfl) ?_
            refine lv_if_lt (tgt := 79) S.1 S.2.1 dX3_fill_38 (by decide) (fun c8 => ?_) (fun c8 => ?_)
            · skip
              have k9 := ci_lt rfl z_ti c8
              exact hret 79 _ _ _ _ dX3_fill_79 hPl7 hSl7 ⟨hWl7, hFl7, trivial⟩
            have k10 := ci_nlt rfl z_ti c8
            obtain ⟨j11, hj11, rfl⟩ := nI_of_le (x := x7_5) (B := 35) (by omega) (by omega)
            have kj11 := nI_toInt (n := j11) (Nat.lt_of_le_of_lt hj11 (by decide))
            refine lv_iconst (v := (nI 0)) S.1 S.2.1 dX3_fill_41 (by decide +kernel) ?_
            refine lv_istore (lv' := [(6, .int (nI 0)), (5, .int (nI j11)), (0, .ref (ad 26)), (1, .ref (ad rc)), (2, .ref (ad ra)), (3, .int p3), (4, .int (nI n4))]) S.1 S.2.1 dX3_fill_42 hl7 (by decide) rfl (fun ls12 hl12 => ?_)
            have lp13 : ∀ (n13 : Nat) (q613 : Nat), ∀ (Fl13 : Nat → va_E) (Hl13 : Heap) (lol13 : List Loc), q613 ≤ 8 → 8 - q613 < n13 → WT cA ad Fl13 → rFr [27] F Fl13 → va_P D vwCl (rW ad Fl13) Hl13 → va_S (rA ad) s.heap Hl13 lol13 → ∀ (ls : Array Slot), lv_has ls 7 [(6, .int (nI q613)), (5, .int (nI j11)), (0, .ref (ad 26)), (1, .ref (ad rc)), (2, .ref (ad ra)), (3, .int p3), (4, .int (nI n4))] → W p l e { frames := 4, cells := 0, slots := 0, locals := 95 } s m args below meth c Hl13 lol13 0 0 Q (F0 m 44 ls []) := by
              intro n13
              induction n13 with
              | zero =>
                intro q613 Fl13 Hl13 lol13 iv13_0 hm13 hWl13 hFl13 hPl13 hSl13 ls13 hl13
                exact absurd hm13 (Nat.not_lt_zero _)
              | succ n13 ih13 =>
                intro q613 Fl13 Hl13 lol13 iv13_0 hm13 hWl13 hFl13 hPl13 hSl13 ls13 hl13
                refine lv_iload S.1 S.2.1 dX3_fill_44 (lv_at hl13 0 rfl) ?_
                refine lv_aload_n S.1 S.2.1 dX3_fill_46 rfl (lv_at hl13 3 rfl) ?_
                obtain ⟨sl14, fm14, tn14, rn14, bn14, hF14, hb14_1, hb14_2, hb14_3⟩ := wt_C hWl13 hrc
                refine r_get S hK hPl13 rc (lt_C hrc) hF14 (C := RX0) (T := TX0) (N := 10) hiX0 rfl 2 (by decide) (am_at in_wsX3_fill_0 1 rfl) (v := .int (nI tn14)) rfl dX3_fill_47 ?_
                refine lv_icmp_ge (tgt := 73) S.1 S.2.1 dX3_fill_50 (by decide) (fun c15 => ?_) (fun c15 => ?_)
                · skip
                  have k16 := ci_le (nI_toInt (n := tn14) (by omega)) (nI_toInt (n := q613) (by omega)) c15
                  obtain ⟨v17, e17⟩ : ∃ y : Int32, y = (nI j11) + Int32.ofInt (-1) := ⟨_, rfl⟩
                  have kd17 : v17.toInt = ((j11 : Nat) : Int) - 1 := by rw [e17]; exact nI_dec (by omega)
                  refine lv_iinc (v := v17) (lv' := [(5, .int v17), (6, .int (nI q613)), (0, .ref (ad 26)), (1, .ref (ad rc)), (2, .ref (ad ra)), (3, .int p3), (4, .int (nI n4))]) S.1 S.2.1 dX3_fill_73 hl13 (k := 1) rfl e17.symm (by decide) rfl (fun ls17 hl17 => ?_)
                  refine lv_goto (tgt := 36) S.1 S.2.1 dX3_fill_76 (by decide) ?_
                  exact ih7 (v17) Fl13 Hl13 lol13 (by omega) (by omega) (by omega) hWl13 hFl13 hPl13 hSl13 ls17 (lv_sub hl17 [0, 2, 3, 4, 5, 6] rfl)
                have k18 := ci_nle (nI_toInt (n := tn14) (by omega)) (nI_toInt (n := q613) (by omega)) c15
                refine lv_aload_n S.1 S.2.1 dX3_fill_53 rfl (lv_at hl13 2 rfl) ?_
                refine lv_aload_n S.1 S.2.1 dX3_fill_54 rfl (lv_at hl13 3 rfl) ?_
                refine lv_aload_n S.1 S.2.1 dX3_fill_55 rfl (lv_at hl13 4 rfl) ?_
                refine lv_iload S.1 S.2.1 dX3_fill_56 (lv_at hl13 0 rfl) ?_
                obtain ⟨g19, hF19, hg19⟩ := wt_I hWl13 hra
                refine r_iald S hK hPl13 ra (lt_I hra) hF19 (vp_in_nI (show q613 < 8 by omega) (by omega)) dX3_fill_58 ?_
                refine lv_topi (fun v21 e21 => ?_)
                refine lv_iload_n S.1 S.2.1 dX3_fill_59 rfl (lv_at hl13 5 rfl) ?_
                refine lv_iload S.1 S.2.1 dX3_fill_60 (lv_at hl13 1 rfl) ?_
                refine lv_iload S.1 S.2.1 dX3_fill_62 (lv_at hl13 0 rfl) ?_
                have hF23 := wt_plan hWl13
                unfold okPlan at hF23
                refine r_cVv (As := [.ref (ad rc), .int v21, .int p3, .int (nI j11), .int (nI q613)]) (rest := []) S hK hZ hPl13 hSl13 hl13.1 26 (by decide) hF23 (C := RX3) rfl (c_X3_fillTown l D cA ad t hI Fl13 hWl13 rc hrc v21 p3 (j11) (by omega) (q613) (by omega)) (cwV 5 S.2.2.2.2 gX3_fill_X3_fillTown rfl rfl rfl (by decide +kernel) ⟨Nat.le_of_ble_eq_true rfl, Nat.le_of_ble_eq_true rfl⟩) rfl rfl (Nat.le_of_ble_eq_true rfl) ⟨Nat.zero_le _, Nat.zero_le _⟩ dX3_fill_64 (fun F22 H22 locs22 hr22 hP22 hS22 => ?_)
                obtain ⟨hW22, hFc22, hr22⟩ := hr22
                have hFr22 := hFl13.tr hFc22 (by simp <;> first | omega | (simp only [isC, isJ] at *; omega))
                refine lv_iinc (v := (nI (q613 + 1))) (lv' := [(6, .int (nI (q613 + 1))), (5, .int (nI j11)), (0, .ref (ad 26)), (1, .ref (ad rc)), (2, .ref (ad ra)), (3, .int p3), (4, .int (nI n4))]) S.1 S.2.1 dX3_fill_67 hl13 (k := 0) rfl (nI_add _ 1) (by decide) rfl (fun ls24 hl24 => ?_)
                refine lv_goto (tgt := 44) S.1 S.2.1 dX3_fill_70 (by decide) ?_
                exact ih13 (q613 + 1) F22 H22 locs22 (by omega) (by omega) hW22 hFr22 hP22 hS22 ls24 (lv_sub hl24 [0, 1, 2, 3, 4, 5, 6] rfl)
            exact lp13 (8 - (0) + 1) (0) Fl7 Hl7 lol7 (by omega) (by omega) hWl7 hFl7 hPl7 hSl7 ls12 (lv_sub hl12 [0, 1, 2, 3, 4, 5, 6] rfl)
        have kt25 := nI_toInt (n := n4 - 1) (by omega)
        exact lp7 (((nI (n4 - 1)).toInt + 1).toNat + 1) ((nI (n4 - 1))) Fl2 Hl2 lol2 (by omega) (by omega) (by omega) hWl2 hFl2 hPl2 hSl2 ls6 (lv_sub hl6 [0, 1, 2, 3, 4, 5] rfl)
      have k26 := ci_nle (nI_toInt (n := 40) (by decide)) (nI_toInt (n := q52) (by omega)) c3
      refine lv_aload_n S.1 S.2.1 dX3_fill_10 rfl (lv_at hl2 1 rfl) ?_
      have hF27 := wt_plan hWl2
      unfold okPlan at hF27
      refine r_get S hK hPl2 26 (by decide) hF27 (C := RX3) (T := TX3) (N := 3) hiX3 rfl 0 (by decide) (am_at in_wsX3_fill_0 0 rfl) (v := .ref (ad 27)) rfl dX3_fill_11 ?_
      refine lv_iload S.1 S.2.1 dX3_fill_14 (lv_at hl2 5 rfl) ?_
      refine lv_bipush (v := (nI 40)) S.1 S.2.1 dX3_fill_16 (by decide +kernel) ?_
      refine lv_imul S.1 S.2.1 dX3_fill_18 ?_
      refine lv_topi (fun v28 e28 => ?_)
      obtain rfl : v28 = nI (n4 * 40) := e28.trans (pk_mul _ _)
      refine lv_iload S.1 S.2.1 dX3_fill_19 (lv_at hl2 0 rfl) ?_
      refine lv_iadd S.1 S.2.1 dX3_fill_21 ?_
      refine lv_topi (fun v29 e29 => ?_)
      obtain rfl : v29 = nI ((n4 * 40) + q52) := e29.trans (nI_add _ _)
      refine lv_iconst (v := (nI 0)) S.1 S.2.1 dX3_fill_22 (by decide +kernel) ?_
      obtain ⟨g30, hF30, hg30⟩ := wt_I hWl2 (show (27, 1480) ∈ rLI by decide)
      refine r_iast S hI hK hPl2 hSl2 27 (by decide) hF30 (vp_in_nI (show (n4 * 40) + q52 < 1480 by omega) (by omega)) dX3_fill_23 (fun F31 H31 locs31 eF31 hP31 hS31 => ?_)
      have hW31 := hWl2.up eF31 (ok_I (show (27, 1480) ∈ rLI by decide) (okI_up hg30 (pr_of (by decide))))
      have hFr31 := hFl2.up eF31 (by simp <;> first | omega | (simp only [isC, isJ] at *; omega))
      refine lv_iinc (v := (nI (q52 + 1))) (lv' := [(5, .int (nI (q52 + 1))), (0, .ref (ad 26)), (1, .ref (ad rc)), (2, .ref (ad ra)), (3, .int p3), (4, .int (nI n4))]) S.1 S.2.1 dX3_fill_24 hl2 (k := 0) rfl (nI_add _ 1) (by decide) rfl (fun ls32 hl32 => ?_)
      refine lv_goto (tgt := 3) S.1 S.2.1 dX3_fill_27 (by decide) ?_
      exact ih2 (q52 + 1) F31 H31 locs31 (by omega) (by omega) hW31 hFr31 hP31 hS31 ls32 (lv_sub hl32 [0, 1, 2, 3, 4, 5] rfl)
  exact lp2 (40 - (0) + 1) (0) F s.heap [] (by omega) (by omega) hW hFr hP hS ls1 (lv_sub hl1 [0, 1, 2, 3, 4, 5] rfl)
set_option maxHeartbeats 4000000 in
set_option maxRecDepth 100000 in
theorem c_X3_staysFirst (l : Launch) (D : va_G) (cA ad : Nat → Nat) (t : Nat) (hI : rI ad) (F : Nat → va_E) (hW : WT cA ad F) (rc : Nat) (hrc : isC rc) (p2 : Int32) (p3 : Int32) (p4 : Int32) (p5 : Int32) : MP l D cA ad t yX3_staysFirst wsX3_staysFirst { frames := 3, cells := 0, slots := 0, locals := 65 } [.ref (ad 26), .ref (ad rc), .int p2, .int p3, .int p4, .int p5] F (fun r => le32 1 r) := by
  refine en_P rfl (by decide +kernel) (Nat.le_of_ble_eq_true rfl) ?_
  intro p e s m args below meth c ls0 Q S hK hZ hP hS hl0 hret
  have hl0 : lv_has ls0 7 [(0, .ref (ad 26)), (1, .ref (ad rc)), (2, .int p2), (3, .int p3), (4, .int p4), (5, .int p5)] := hl0
  have hiX0 : ∀ w ∈ u_ws RX0 TX0 10, w ∈ wsX3_staysFirst := in_wsX3_staysFirst_1
  refine lv_iload S.1 S.2.1 dX3_staysFirst_0 (lv_at hl0 5 rfl) ?_
  refine lv_aload_n S.1 S.2.1 dX3_staysFirst_2 rfl (lv_at hl0 1 rfl) ?_
  obtain ⟨sl1, fm1, tn1, rn1, bn1, hF1, hb1_1, hb1_2, hb1_3⟩ := wt_C hW hrc
  refine r_get S hK hP rc (lt_C hrc) hF1 (C := RX0) (T := TX0) (N := 10) hiX0 rfl 0 (by decide) (am_at in_wsX3_staysFirst_0 0 rfl) (v := .int (nI sl1)) rfl dX3_staysFirst_3 ?_
  refine lv_icmp_lt (tgt := 11) S.1 S.2.1 dX3_staysFirst_6 (by decide) (fun c2 => ?_) (fun c2 => ?_)
  · skip
    have k3 := ci_lt rfl (nI_toInt (n := sl1) (by omega)) c2
    refine lv_aload_n S.1 S.2.1 dX3_staysFirst_11 rfl (lv_at hl0 0 rfl) ?_
    refine lv_iload_n S.1 S.2.1 dX3_staysFirst_12 rfl (lv_at hl0 3 rfl) ?_
    refine lv_iconst (v := (nI 1)) S.1 S.2.1 dX3_staysFirst_13 (by decide +kernel) ?_
    refine lv_iadd S.1 S.2.1 dX3_staysFirst_14 ?_
    refine lv_topi (fun v4 e4 => ?_)
    refine lv_iload S.1 S.2.1 dX3_staysFirst_15 (lv_at hl0 4 rfl) ?_
    refine lv_iload S.1 S.2.1 dX3_staysFirst_17 (lv_at hl0 5 rfl) ?_
    refine lv_iconst (v := (nI 1)) S.1 S.2.1 dX3_staysFirst_19 (by decide +kernel) ?_
    refine lv_iadd S.1 S.2.1 dX3_staysFirst_20 ?_
    refine lv_topi (fun v5 e5 => ?_)
    have hF7 := wt_plan hW
    unfold okPlan at hF7
    refine r_cVp (As := [.int v4, .int p4, .int v5]) (rest := []) S hK hZ hP hS hl0.1 26 (by decide) hF7 (C := RX3) rfl (c_X3_mostFrom l D cA ad t hI F hW v4 p4 v5) (cwV 3 S.2.2.2.2 gX3_staysFirst_X3_mostFrom rfl rfl rfl (by decide +kernel) ⟨Nat.le_of_ble_eq_true rfl, Nat.le_of_ble_eq_true rfl⟩) rfl rfl (Nat.le_of_ble_eq_true rfl) ⟨Nat.zero_le _, Nat.zero_le _⟩ dX3_staysFirst_21 (fun r6 hr6 => ?_)
    refine lv_istore (lv' := [(6, .int r6), (0, .ref (ad 26)), (1, .ref (ad rc)), (2, .int p2), (3, .int p3), (4, .int p4), (5, .int p5)]) S.1 S.2.1 dX3_staysFirst_24 hl0 (by decide) rfl (fun ls8 hl8 => ?_)
    refine lv_iload S.1 S.2.1 dX3_staysFirst_26 (lv_at hl8 0 rfl) ?_
    refine lv_iconst (v := (-1)) S.1 S.2.1 dX3_staysFirst_28 (by decide +kernel) ?_
    refine lv_icmp_eq (tgt := 60) S.1 S.2.1 dX3_staysFirst_29 (by decide) (fun c9 => ?_) (fun c9 => ?_)
    · skip
      have k10 := ci_eq rfl (show ((-1) : Int32).toInt = -1 by decide +kernel) c9
      refine lv_iconst (v := (nI 0)) S.1 S.2.1 dX3_staysFirst_60 (by decide +kernel) ?_
      exact hret 61 _ _ dX3_staysFirst_61 rfl (⟨0, by omega, rfl⟩)
    have k11 := ci_ne rfl (show ((-1) : Int32).toInt = -1 by decide +kernel) c9
    refine lv_iload S.1 S.2.1 dX3_staysFirst_32 (lv_at hl8 0 rfl) ?_
    refine lv_aload_n S.1 S.2.1 dX3_staysFirst_34 rfl (lv_at hl8 2 rfl) ?_
    refine lv_iload S.1 S.2.1 dX3_staysFirst_35 (lv_at hl8 5 rfl) ?_
    refine lv_iload_n S.1 S.2.1 dX3_staysFirst_37 rfl (lv_at hl8 3 rfl) ?_
    refine lv_iload_n S.1 S.2.1 dX3_staysFirst_38 rfl (lv_at hl8 4 rfl) ?_
    refine lv_iadd S.1 S.2.1 dX3_staysFirst_39 ?_
    refine lv_topi (fun v12 e12 => ?_)
    refine r_cVp (As := [.int p4, .int v12]) (rest := [.int r6]) S hK hZ hP hS hl8.1 rc (lt_C hrc) hF1 (C := RX0) rfl (c_X0_gainIn l D cA ad t hI F hW rc hrc p4 v12) (cwV 2 S.2.2.2.2 gX3_staysFirst_X0_gainIn rfl rfl rfl (by decide +kernel) ⟨Nat.le_of_ble_eq_true rfl, Nat.le_of_ble_eq_true rfl⟩) rfl rfl (Nat.le_of_ble_eq_true rfl) ⟨Nat.zero_le _, Nat.zero_le _⟩ dX3_staysFirst_40 (fun r13 hr13 => ?_)
    obtain ⟨hr13, hm13⟩ := hr13
    refine lv_iadd S.1 S.2.1 dX3_staysFirst_43 ?_
    refine lv_topi (fun v14 e14 => ?_)
    refine lv_aload_n S.1 S.2.1 dX3_staysFirst_44 rfl (lv_at hl8 1 rfl) ?_
    refine lv_iload_n S.1 S.2.1 dX3_staysFirst_45 rfl (lv_at hl8 4 rfl) ?_
    refine lv_iload S.1 S.2.1 dX3_staysFirst_46 (lv_at hl8 5 rfl) ?_
    refine lv_iload S.1 S.2.1 dX3_staysFirst_48 (lv_at hl8 6 rfl) ?_
    refine r_cVp (As := [.int p3, .int p4, .int p5]) (rest := [.int v14]) S hK hZ hP hS hl8.1 26 (by decide) hF7 (C := RX3) rfl (c_X3_mostFrom l D cA ad t hI F hW p3 p4 p5) (cwV 3 S.2.2.2.2 gX3_staysFirst_X3_mostFrom rfl rfl rfl (by decide +kernel) ⟨Nat.le_of_ble_eq_true rfl, Nat.le_of_ble_eq_true rfl⟩) rfl rfl (Nat.le_of_ble_eq_true rfl) ⟨Nat.zero_le _, Nat.zero_le _⟩ dX3_staysFirst_50 (fun r15 hr15 => ?_)
    refine lv_icmp_ne (tgt := 60) S.1 S.2.1 dX3_staysFirst_53 (by decide) (fun c16 => ?_) (fun c16 => ?_)
    · skip
      have k17 := ci_ne rfl rfl c16
      refine lv_iconst (v := (nI 0)) S.1 S.2.1 dX3_staysFirst_60 (by decide +kernel) ?_
      exact hret 61 _ _ dX3_staysFirst_61 rfl (⟨0, by omega, rfl⟩)
    have k18 := ci_eq rfl rfl c16
    refine lv_iconst (v := (nI 1)) S.1 S.2.1 dX3_staysFirst_56 (by decide +kernel) ?_
    refine lv_goto (tgt := 61) S.1 S.2.1 dX3_staysFirst_57 (by decide) ?_
    exact hret 61 _ _ dX3_staysFirst_61 rfl (⟨1, by omega, rfl⟩)
  have k19 := ci_nlt rfl (nI_toInt (n := sl1) (by omega)) c2
  refine lv_iconst (v := (nI 0)) S.1 S.2.1 dX3_staysFirst_9 (by decide +kernel) ?_
  exact hret 10 _ _ dX3_staysFirst_10 rfl (⟨0, by omega, rfl⟩)
set_option maxHeartbeats 4000000 in
set_option maxRecDepth 100000 in
theorem c_X3_walksFirst (l : Launch) (D : va_G) (cA ad : Nat → Nat) (t : Nat) (hI : rI ad) (F : Nat → va_E) (hW : WT cA ad F) (rc : Nat) (hrc : isC rc) (p2 : Int32) (p3 : Int32) (p4 : Int32) (p5 : Int32) : MP l D cA ad t yX3_walksFirst wsX3_walksFirst { frames := 1, cells := 0, slots := 0, locals := 24 } [.ref (ad 26), .ref (ad rc), .int p2, .int p3, .int p4, .int p5] F (fun r => True) := by
  refine en_P rfl (by decide +kernel) (Nat.le_of_ble_eq_true rfl) ?_
  intro p e s m args below meth c ls0 Q S hK hZ hP hS hl0 hret
  have hl0 : lv_has ls0 7 [(0, .ref (ad 26)), (1, .ref (ad rc)), (2, .int p2), (3, .int p3), (4, .int p4), (5, .int p5)] := hl0
  have hiX0 : ∀ w ∈ u_ws RX0 TX0 10, w ∈ wsX3_walksFirst := in_wsX3_walksFirst_1
  refine lv_iconst (v := (nI 0)) S.1 S.2.1 dX3_walksFirst_0 (by decide +kernel) ?_
  refine lv_istore (lv' := [(6, .int (nI 0)), (0, .ref (ad 26)), (1, .ref (ad rc)), (2, .int p2), (3, .int p3), (4, .int p4), (5, .int p5)]) S.1 S.2.1 dX3_walksFirst_1 hl0 (by decide) rfl (fun ls1 hl1 => ?_)
  have lp2 : ∀ (n2 : Nat) (q62 : Nat), q62 ≤ 8 → 8 - q62 < n2 → ∀ (ls : Array Slot), lv_has ls 7 [(6, .int (nI q62)), (0, .ref (ad 26)), (1, .ref (ad rc)), (2, .int p2), (3, .int p3), (4, .int p4), (5, .int p5)] → W p l e { frames := 1, cells := 0, slots := 0, locals := 24 } s m args below meth c s.heap [] 0 0 Q (F0 m 3 ls []) := by
    intro n2
    induction n2 with
    | zero =>
      intro q62 iv2_0 hm2 ls2 hl2
      exact absurd hm2 (Nat.not_lt_zero _)
    | succ n2 ih2 =>
      intro q62 iv2_0 hm2 ls2 hl2
      refine lv_iload S.1 S.2.1 dX3_walksFirst_3 (lv_at hl2 0 rfl) ?_
      refine lv_aload_n S.1 S.2.1 dX3_walksFirst_5 rfl (lv_at hl2 2 rfl) ?_
      obtain ⟨sl3, fm3, tn3, rn3, bn3, hF3, hb3_1, hb3_2, hb3_3⟩ := wt_C hW hrc
      refine r_get S hK hP rc (lt_C hrc) hF3 (C := RX0) (T := TX0) (N := 10) hiX0 rfl 2 (by decide) (am_at in_wsX3_walksFirst_0 0 rfl) (v := .int (nI tn3)) rfl dX3_walksFirst_6 ?_
      refine lv_icmp_ge (tgt := 45) S.1 S.2.1 dX3_walksFirst_9 (by decide) (fun c4 => ?_) (fun c4 => ?_)
      · skip
        have k5 := ci_le (nI_toInt (n := tn3) (by omega)) (nI_toInt (n := q62) (by omega)) c4
        refine lv_iload S.1 S.2.1 dX3_walksFirst_45 (lv_at hl2 6 rfl) ?_
        exact hret 47 _ _ dX3_walksFirst_47 rfl (trivial)
      have k6 := ci_nle (nI_toInt (n := tn3) (by omega)) (nI_toInt (n := q62) (by omega)) c4
      refine lv_iload_n S.1 S.2.1 dX3_walksFirst_12 rfl (lv_at hl2 3 rfl) ?_
      refine lv_iload S.1 S.2.1 dX3_walksFirst_13 (lv_at hl2 0 rfl) ?_
      refine lv_ishr S.1 S.2.1 dX3_walksFirst_15 ?_
      refine lv_topi (fun v7 e7 => ?_)
      refine lv_iconst (v := (nI 1)) S.1 S.2.1 dX3_walksFirst_16 (by decide +kernel) ?_
      refine lv_iand S.1 S.2.1 dX3_walksFirst_17 ?_
      refine lv_topi (fun v8 e8 => ?_)
      refine lv_if_eq (tgt := 39) S.1 S.2.1 dX3_walksFirst_18 (by decide) (fun c9 => ?_) (fun c9 => ?_)
      · skip
        have k10 := ci_eq rfl z_ti c9
        refine lv_iinc (v := (nI (q62 + 1))) (lv' := [(6, .int (nI (q62 + 1))), (0, .ref (ad 26)), (1, .ref (ad rc)), (2, .int p2), (3, .int p3), (4, .int p4), (5, .int p5)]) S.1 S.2.1 dX3_walksFirst_39 hl2 (k := 0) rfl (nI_add _ 1) (by decide) rfl (fun ls11 hl11 => ?_)
        refine lv_goto (tgt := 3) S.1 S.2.1 dX3_walksFirst_42 (by decide) ?_
        exact ih2 (q62 + 1) (by omega) (by omega) ls11 (lv_sub hl11 [0, 1, 2, 3, 4, 5, 6] rfl)
      have k12 := ci_ne rfl z_ti c9
      refine lv_aload_n S.1 S.2.1 dX3_walksFirst_21 rfl (lv_at hl2 1 rfl) ?_
      refine lv_iload_n S.1 S.2.1 dX3_walksFirst_22 rfl (lv_at hl2 4 rfl) ?_
      refine lv_iconst (v := (nI 1)) S.1 S.2.1 dX3_walksFirst_23 (by decide +kernel) ?_
      refine lv_iadd S.1 S.2.1 dX3_walksFirst_24 ?_
      refine lv_topi (fun v13 e13 => ?_)
      refine lv_iload S.1 S.2.1 dX3_walksFirst_25 (lv_at hl2 0 rfl) ?_
      refine lv_iconst (v := (nI 0)) S.1 S.2.1 dX3_walksFirst_27 (by decide +kernel) ?_
      have hF15 := wt_plan hW
      unfold okPlan at hF15
      refine r_cVp (As := [.int v13, .int (nI q62), .int (nI 0)]) (rest := []) S hK hZ hP hS hl2.1 26 (by decide) hF15 (C := RX3) rfl (c_X3_mostFrom l D cA ad t hI F hW v13 (nI q62) (nI 0)) (cwV 3 S.2.2.2.2 gX3_walksFirst_X3_mostFrom rfl rfl rfl (by decide +kernel) ⟨Nat.le_of_ble_eq_true rfl, Nat.le_of_ble_eq_true rfl⟩) rfl rfl (Nat.le_of_ble_eq_true rfl) ⟨Nat.zero_le _, Nat.zero_le _⟩ dX3_walksFirst_28 (fun r14 hr14 => ?_)
      refine lv_iload S.1 S.2.1 dX3_walksFirst_31 (lv_at hl2 5 rfl) ?_
      refine lv_icmp_ne (tgt := 39) S.1 S.2.1 dX3_walksFirst_33 (by decide) (fun c16 => ?_) (fun c16 => ?_)
      · skip
        have k17 := ci_ne rfl rfl c16
        refine lv_iinc (v := (nI (q62 + 1))) (lv' := [(6, .int (nI (q62 + 1))), (0, .ref (ad 26)), (1, .ref (ad rc)), (2, .int p2), (3, .int p3), (4, .int p4), (5, .int p5)]) S.1 S.2.1 dX3_walksFirst_39 hl2 (k := 0) rfl (nI_add _ 1) (by decide) rfl (fun ls18 hl18 => ?_)
        refine lv_goto (tgt := 3) S.1 S.2.1 dX3_walksFirst_42 (by decide) ?_
        exact ih2 (q62 + 1) (by omega) (by omega) ls18 (lv_sub hl18 [0, 1, 2, 3, 4, 5, 6] rfl)
      have k19 := ci_eq rfl rfl c16
      refine lv_iload S.1 S.2.1 dX3_walksFirst_36 (lv_at hl2 0 rfl) ?_
      exact hret 38 _ _ dX3_walksFirst_38 rfl (trivial)
  exact lp2 (8 - (0) + 1) (0) (by omega) (by omega) ls1 (lv_sub hl1 [0, 1, 2, 3, 4, 5, 6] rfl)
set_option maxHeartbeats 4000000 in
set_option maxRecDepth 100000 in
theorem c_X3_townBehind (l : Launch) (D : va_G) (cA ad : Nat → Nat) (t : Nat) (hI : rI ad) (F : Nat → va_E) (hW : WT cA ad F) (rc : Nat) (hrc : isC rc) (ra : Nat) (hra : (ra, 8) ∈ rLI) (hura : ra ∉ [60, 61, 62, 63, 64, 66]) (rj : Nat) (hrj : isJ rj) (i4 : Nat) (hi4 : i4 ≤ 35) : MP l D cA ad t yX3_townBehind wsX3_townBehind { frames := 4, cells := 0, slots := 0, locals := 91 } [.ref (ad 26), .ref (ad rc), .ref (ad ra), .ref (ad rj), .int (nI i4)] F (fun r => True) := by
  refine en_P rfl (by decide +kernel) (Nat.le_of_ble_eq_true rfl) ?_
  intro p e s m args below meth c ls0 Q S hK hZ hP hS hl0 hret
  have hl0 : lv_has ls0 8 [(0, .ref (ad 26)), (1, .ref (ad rc)), (2, .ref (ad ra)), (3, .ref (ad rj)), (4, .int (nI i4))] := hl0
  have hiX1 : ∀ w ∈ u_ws RX1 TX1 7, w ∈ wsX3_townBehind := in_wsX3_townBehind_2
  refine lv_aload_n S.1 S.2.1 dX3_townBehind_0 rfl (lv_at hl0 3 rfl) ?_
  obtain ⟨ja1, jb1, jc1, jd1, jx1, jy1, jk1, hF1, hk1⟩ := wt_J hW hrj
  refine r_get S hK hP rj (lt_J hrj) hF1 (C := RX1) (T := TX1) (N := 7) hiX1 rfl 0 (by decide) (am_at in_wsX3_townBehind_0 0 rfl) (v := .int ja1) rfl dX3_townBehind_1 ?_
  refine lv_istore (lv' := [(5, .int ja1), (0, .ref (ad 26)), (1, .ref (ad rc)), (2, .ref (ad ra)), (3, .ref (ad rj)), (4, .int (nI i4))]) S.1 S.2.1 dX3_townBehind_4 hl0 (by decide) rfl (fun ls2 hl2 => ?_)
  refine lv_aload_n S.1 S.2.1 dX3_townBehind_6 rfl (lv_at hl2 4 rfl) ?_
  refine r_get S hK hP rj (lt_J hrj) hF1 (C := RX1) (T := TX1) (N := 7) hiX1 rfl 2 (by decide) (am_at in_wsX3_townBehind_0 1 rfl) (v := .int jc1) rfl dX3_townBehind_7 ?_
  refine lv_istore (lv' := [(6, .int jc1), (5, .int ja1), (0, .ref (ad 26)), (1, .ref (ad rc)), (2, .ref (ad ra)), (3, .ref (ad rj)), (4, .int (nI i4))]) S.1 S.2.1 dX3_townBehind_10 hl2 (by decide) rfl (fun ls3 hl3 => ?_)
  refine lv_iconst (v := (nI 0)) S.1 S.2.1 dX3_townBehind_12 (by decide +kernel) ?_
  refine lv_istore (lv' := [(7, .int (nI 0)), (6, .int jc1), (5, .int ja1), (0, .ref (ad 26)), (1, .ref (ad rc)), (2, .ref (ad ra)), (3, .ref (ad rj)), (4, .int (nI i4))]) S.1 S.2.1 dX3_townBehind_13 hl3 (by decide) rfl (fun ls4 hl4 => ?_)
  have lp5 : ∀ (n5 : Nat) (q75 : Nat) (x5_6 : Int32) (x5_5 : Int32), q75 ≤ i4 + 1 → i4 + 1 - q75 < n5 → ∀ (ls : Array Slot), lv_has ls 8 [(7, .int (nI q75)), (6, .int x5_6), (5, .int x5_5), (0, .ref (ad 26)), (1, .ref (ad rc)), (2, .ref (ad ra)), (3, .ref (ad rj)), (4, .int (nI i4))] → W p l e { frames := 4, cells := 0, slots := 0, locals := 91 } s m args below meth c s.heap [] 0 0 Q (F0 m 15 ls []) := by
    intro n5
    induction n5 with
    | zero =>
      intro q75 x5_6 x5_5 iv5_0 hm5 ls5 hl5
      exact absurd hm5 (Nat.not_lt_zero _)
    | succ n5 ih5 =>
      intro q75 x5_6 x5_5 iv5_0 hm5 ls5 hl5
      refine lv_iload S.1 S.2.1 dX3_townBehind_15 (lv_at hl5 0 rfl) ?_
      refine lv_iload S.1 S.2.1 dX3_townBehind_17 (lv_at hl5 7 rfl) ?_
      refine lv_icmp_gt (tgt := 84) S.1 S.2.1 dX3_townBehind_19 (by decide) (fun c6 => ?_) (fun c6 => ?_)
      · skip
        have k7 := ci_lt (nI_toInt (n := i4) (by omega)) (nI_toInt (n := q75) (by omega)) c6
        refine lv_iload S.1 S.2.1 dX3_townBehind_84 (lv_at hl5 2 rfl) ?_
        exact hret 86 _ _ dX3_townBehind_86 rfl (trivial)
      have k8 := ci_nlt (nI_toInt (n := i4) (by omega)) (nI_toInt (n := q75) (by omega)) c6
      refine lv_aload_n S.1 S.2.1 dX3_townBehind_22 rfl (lv_at hl5 3 rfl) ?_
      refine lv_aload_n S.1 S.2.1 dX3_townBehind_23 rfl (lv_at hl5 4 rfl) ?_
      refine lv_aload_n S.1 S.2.1 dX3_townBehind_24 rfl (lv_at hl5 6 rfl) ?_
      refine r_get S hK hP rj (lt_J hrj) hF1 (C := RX1) (T := TX1) (N := 7) hiX1 rfl 1 (by decide) (am_at in_wsX3_townBehind_0 2 rfl) (v := .int jb1) rfl dX3_townBehind_25 ?_
      refine lv_iload S.1 S.2.1 dX3_townBehind_28 (lv_at hl5 0 rfl) ?_
      refine lv_iload S.1 S.2.1 dX3_townBehind_30 (lv_at hl5 2 rfl) ?_
      refine lv_iload S.1 S.2.1 dX3_townBehind_32 (lv_at hl5 1 rfl) ?_
      have hF10 := wt_plan hW
      unfold okPlan at hF10
      refine r_cVp (As := [.ref (ad rc), .int jb1, .int (nI q75), .int x5_5, .int x5_6]) (rest := []) S hK hZ hP hS hl5.1 26 (by decide) hF10 (C := RX3) rfl (c_X3_staysFirst l D cA ad t hI F hW rc hrc jb1 (nI q75) x5_5 x5_6) (cwV 5 S.2.2.2.2 gX3_townBehind_X3_staysFirst rfl rfl rfl (by decide +kernel) ⟨Nat.le_of_ble_eq_true rfl, Nat.le_of_ble_eq_true rfl⟩) rfl rfl (Nat.le_of_ble_eq_true rfl) ⟨Nat.zero_le _, Nat.zero_le _⟩ dX3_townBehind_34 (fun r9 hr9 => ?_)
      obtain ⟨b11, hb11, rfl⟩ := hr9
      refine lv_if_eq (tgt := 46) S.1 S.2.1 dX3_townBehind_37 (by decide) (fun c12 => ?_) (fun c12 => ?_)
      · skip
        have k13 := ci_eq (nI_toInt (n := b11) (Nat.lt_of_le_of_lt hb11 (by decide))) z_ti c12
        refine lv_aload_n S.1 S.2.1 dX3_townBehind_46 rfl (lv_at hl5 3 rfl) ?_
        refine lv_aload_n S.1 S.2.1 dX3_townBehind_47 rfl (lv_at hl5 4 rfl) ?_
        refine lv_iconst (v := (nI 1)) S.1 S.2.1 dX3_townBehind_48 (by decide +kernel) ?_
        refine lv_iload S.1 S.2.1 dX3_townBehind_49 (lv_at hl5 2 rfl) ?_
        refine lv_ishl S.1 S.2.1 dX3_townBehind_51 ?_
        refine lv_topi (fun v14 e14 => ?_)
        refine lv_aload_n S.1 S.2.1 dX3_townBehind_52 rfl (lv_at hl5 5 rfl) ?_
        refine r_cNp (As := [.int v14, .ref (ad ra)]) (rest := [.ref (ad rc), .ref (ad 26)]) S hK hZ hP hS hl5.1 (c_X7_exitsOf l D cA ad t hI F hW v14 ra hra hura) (va_cnB 2 S.2.2.2.2 gX3_townBehind_X7_exitsOf_n62 rfl rfl rfl hZ.2.2.1 (S.2.2.2.2 (.initialized RX7) (am_at in_wsX3_townBehind_1 8 rfl)) (by decide +kernel) ⟨Nat.le_of_ble_eq_true rfl, Nat.le_of_ble_eq_true rfl⟩) (S.2.2.2.2 (.static yX7_exitsOf) (am_at in_wsX3_townBehind_1 7 rfl)) rfl rfl (Nat.le_of_ble_eq_true rfl) ⟨Nat.zero_le _, Nat.zero_le _⟩ dX3_townBehind_53 (fun r15 hr15 => ?_)
        obtain ⟨hr15, hm15⟩ := hr15
        refine lv_iload S.1 S.2.1 dX3_townBehind_56 (lv_at hl5 0 rfl) ?_
        refine lv_aload_n S.1 S.2.1 dX3_townBehind_58 rfl (lv_at hl5 3 rfl) ?_
        refine lv_iload S.1 S.2.1 dX3_townBehind_59 (lv_at hl5 0 rfl) ?_
        refine lv_iload S.1 S.2.1 dX3_townBehind_61 (lv_at hl5 2 rfl) ?_
        refine lv_iload S.1 S.2.1 dX3_townBehind_63 (lv_at hl5 1 rfl) ?_
        refine r_cVp (As := [.int (nI q75), .int x5_5, .int x5_6]) (rest := [.int (nI q75), .int r15, .ref (ad rc), .ref (ad 26)]) S hK hZ hP hS hl5.1 26 (by decide) hF10 (C := RX3) rfl (c_X3_mostFrom l D cA ad t hI F hW (nI q75) x5_5 x5_6) (cwV 3 S.2.2.2.2 gX3_townBehind_X3_mostFrom rfl rfl rfl (by decide +kernel) ⟨Nat.le_of_ble_eq_true rfl, Nat.le_of_ble_eq_true rfl⟩) rfl rfl (Nat.le_of_ble_eq_true rfl) ⟨Nat.zero_le _, Nat.zero_le _⟩ dX3_townBehind_65 (fun r16 hr16 => ?_)
        refine lv_iload S.1 S.2.1 dX3_townBehind_68 (lv_at hl5 2 rfl) ?_
        refine r_cVp (As := [.ref (ad rc), .int r15, .int (nI q75), .int r16, .int x5_5]) (rest := []) S hK hZ hP hS hl5.1 26 (by decide) hF10 (C := RX3) rfl (c_X3_walksFirst l D cA ad t hI F hW rc hrc r15 (nI q75) r16 x5_5) (cwV 5 S.2.2.2.2 gX3_townBehind_X3_walksFirst rfl rfl rfl (by decide +kernel) ⟨Nat.le_of_ble_eq_true rfl, Nat.le_of_ble_eq_true rfl⟩) rfl rfl (Nat.le_of_ble_eq_true rfl) ⟨Nat.zero_le _, Nat.zero_le _⟩ dX3_townBehind_70 (fun r17 hr17 => ?_)
        refine lv_istore (lv' := [(5, .int r17), (7, .int (nI q75)), (6, .int x5_6), (0, .ref (ad 26)), (1, .ref (ad rc)), (2, .ref (ad ra)), (3, .ref (ad rj)), (4, .int (nI i4))]) S.1 S.2.1 dX3_townBehind_73 hl5 (by decide) rfl (fun ls18 hl18 => ?_)
        refine lv_iconst (v := (nI 0)) S.1 S.2.1 dX3_townBehind_75 (by decide +kernel) ?_
        refine lv_istore (lv' := [(6, .int (nI 0)), (5, .int r17), (7, .int (nI q75)), (0, .ref (ad 26)), (1, .ref (ad rc)), (2, .ref (ad ra)), (3, .ref (ad rj)), (4, .int (nI i4))]) S.1 S.2.1 dX3_townBehind_76 hl18 (by decide) rfl (fun ls19 hl19 => ?_)
        refine lv_iinc (v := (nI (q75 + 1))) (lv' := [(7, .int (nI (q75 + 1))), (6, .int (nI 0)), (5, .int r17), (0, .ref (ad 26)), (1, .ref (ad rc)), (2, .ref (ad ra)), (3, .ref (ad rj)), (4, .int (nI i4))]) S.1 S.2.1 dX3_townBehind_78 hl19 (k := 2) rfl (nI_add _ 1) (by decide) rfl (fun ls20 hl20 => ?_)
        refine lv_goto (tgt := 15) S.1 S.2.1 dX3_townBehind_81 (by decide) ?_
        exact ih5 (q75 + 1) ((nI 0)) (r17) (by omega) (by omega) ls20 (lv_sub hl20 [0, 1, 2, 3, 4, 5, 6, 7] rfl)
      have k21 := ci_ne (nI_toInt (n := b11) (Nat.lt_of_le_of_lt hb11 (by decide))) z_ti c12
      obtain ⟨v22, e22⟩ : ∃ y : Int32, y = x5_6 + Int32.ofInt (1) := ⟨_, rfl⟩
      refine lv_iinc (v := v22) (lv' := [(6, .int v22), (7, .int (nI q75)), (5, .int x5_5), (0, .ref (ad 26)), (1, .ref (ad rc)), (2, .ref (ad ra)), (3, .ref (ad rj)), (4, .int (nI i4))]) S.1 S.2.1 dX3_townBehind_40 hl5 (k := 1) rfl e22.symm (by decide) rfl (fun ls22 hl22 => ?_)
      refine lv_goto (tgt := 78) S.1 S.2.1 dX3_townBehind_43 (by decide) ?_
      refine lv_iinc (v := (nI (q75 + 1))) (lv' := [(7, .int (nI (q75 + 1))), (6, .int v22), (5, .int x5_5), (0, .ref (ad 26)), (1, .ref (ad rc)), (2, .ref (ad ra)), (3, .ref (ad rj)), (4, .int (nI i4))]) S.1 S.2.1 dX3_townBehind_78 hl22 (k := 1) rfl (nI_add _ 1) (by decide) rfl (fun ls23 hl23 => ?_)
      refine lv_goto (tgt := 15) S.1 S.2.1 dX3_townBehind_81 (by decide) ?_
      exact ih5 (q75 + 1) (v22) (x5_5) (by omega) (by omega) ls23 (lv_sub hl23 [0, 1, 2, 3, 4, 5, 6, 7] rfl)
  exact lp5 (i4 + 1 - (0) + 1) (0) (jc1) (ja1) (by omega) (by omega) ls4 (lv_sub hl4 [0, 1, 2, 3, 4, 5, 6, 7] rfl)
noncomputable def m_X3_union_L4_3_b (k0 : SS → Int32 → Int32 → Nat → Int32) (σ : SS) (a0 : Int32) (a1 : Int32) (a2 : Nat) : Int32 :=
  if (nI 5) ≤ a0 then
    a1
  else
    k0 σ (a0 + Int32.ofInt (1)) (a1 ||| (σ a2 (rl a0))) a2
noncomputable def m_X3_union_L4_3 : Nat → SS → Int32 → Int32 → Nat → Int32
  | 0 => fun σ _ _ _ => 0
  | n + 1 => m_X3_union_L4_3_b (m_X3_union_L4_3 n)
noncomputable def m_X3_union (σ : SS) (a0 : Nat) : Int32 :=
  m_X3_union_L4_3 2000 σ (nI 0) (nI 0) a0
set_option maxHeartbeats 4000000 in
set_option maxRecDepth 100000 in
theorem c_X3_union (l : Launch) (D : va_G) (cA ad : Nat → Nat) (t : Nat) (hI : rI ad) (F : Nat → va_E) (hW : WT cA ad F) (ra : Nat) (hra : (ra, 5) ∈ rLI) (hura : ra ∉ [60, 61, 62, 63, 64, 66]) : MP l D cA ad t yX3_union wsX3_union { frames := 0, cells := 0, slots := 0, locals := 0 } [.ref (ad ra)] F (fun r => (True) ∧ m_X3_union (AB ad F) ra = r) := by
  refine en_P rfl (by decide +kernel) (Nat.le_of_ble_eq_true rfl) ?_
  intro p e s m args below meth c ls0 Q S hK hZ hP hS hl0 hret
  have hl0 : lv_has ls0 3 [(0, .ref (ad ra))] := hl0
  obtain ⟨M, hM⟩ : ∃ M, M = m_X3_union (AB ad F) ra := ⟨_, rfl⟩
  refine lv_iconst (v := (nI 0)) S.1 S.2.1 dX3_union_0 (by decide +kernel) ?_
  refine lv_istore_n (lv' := [(1, .int (nI 0)), (0, .ref (ad ra))]) S.1 S.2.1 dX3_union_1 rfl hl0 (by decide) rfl (fun ls1 hl1 => ?_)
  refine lv_iconst (v := (nI 0)) S.1 S.2.1 dX3_union_2 (by decide +kernel) ?_
  refine lv_istore_n (lv' := [(2, .int (nI 0)), (1, .int (nI 0)), (0, .ref (ad ra))]) S.1 S.2.1 dX3_union_3 rfl hl1 (by decide) rfl (fun ls2 hl2 => ?_)
  have lp3 : ∀ (n3 : Nat) (q23 : Nat) (x3_1 : Int32), q23 ≤ 5 → 5 - q23 < n3 → M = m_X3_union_L4_3 n3 (AB ad F) (nI q23) x3_1 ra → ∀ (ls : Array Slot), lv_has ls 3 [(2, .int (nI q23)), (1, .int x3_1), (0, .ref (ad ra))] → W p l e { frames := 0, cells := 0, slots := 0, locals := 0 } s m args below meth c s.heap [] 0 0 Q (F0 m 4 ls []) := by
    intro n3
    induction n3 with
    | zero =>
      intro q23 x3_1 iv3_0 hm3 hEl3 ls3 hl3
      exact absurd hm3 (Nat.not_lt_zero _)
    | succ n3 ih3 =>
      intro q23 x3_1 iv3_0 hm3 hEl3 ls3 hl3
      have hE4 : M = m_X3_union_L4_3_b (m_X3_union_L4_3 n3) (AB ad F) (nI q23) x3_1 ra := hEl3
      refine lv_iload_n S.1 S.2.1 dX3_union_4 rfl (lv_at hl3 0 rfl) ?_
      refine lv_aload_n S.1 S.2.1 dX3_union_5 rfl (lv_at hl3 2 rfl) ?_
      obtain ⟨g5, hF5, hg5⟩ := wt_I hW hra
      refine r_alen S hK hP ra (lt_I hra) 0 hF5 rfl dX3_union_6 ?_
      refine lv_icmp_ge (tgt := 22) S.1 S.2.1 dX3_union_7 (by decide) (fun c6 => ?_) (fun c6 => ?_)
      · skip
        have k7 := ci_le (nI_toInt (n := 5) (by decide)) (nI_toInt (n := q23) (by omega)) c6
        refine lv_iload_n S.1 S.2.1 dX3_union_22 rfl (lv_at hl3 1 rfl) ?_
        have hE8 : M = x3_1 := hE4.trans ((show m_X3_union_L4_3_b (m_X3_union_L4_3 n3) (AB ad F) (nI q23) x3_1 ra = x3_1 from by unfold m_X3_union_L4_3_b; rw [if_pos (le_cg rfl rfl c6)]).trans rfl)
        exact hret 23 _ _ dX3_union_23 rfl (⟨trivial, hM.symm.trans hE8⟩)
      have k9 := ci_nle (nI_toInt (n := 5) (by decide)) (nI_toInt (n := q23) (by omega)) c6
      refine lv_iload_n S.1 S.2.1 dX3_union_10 rfl (lv_at hl3 1 rfl) ?_
      refine lv_aload_n S.1 S.2.1 dX3_union_11 rfl (lv_at hl3 2 rfl) ?_
      refine lv_iload_n S.1 S.2.1 dX3_union_12 rfl (lv_at hl3 0 rfl) ?_
      refine r_iald S hK hP ra (lt_I hra) hF5 (vp_in_nI (show q23 < 5 by omega) (by omega)) dX3_union_13 ?_
      refine lv_topi (fun v11 e11 => ?_)
      have m12 : ((AB ad F) ra (rl (nI q23))) = v11 := (ab_cg rfl rfl).trans ((AB_g hF5).trans e11.symm)
      refine lv_ior S.1 S.2.1 dX3_union_14 ?_
      refine lv_topi (fun v13 e13 => ?_)
      have m14 : (x3_1 ||| ((AB ad F) ra (rl (nI q23)))) = v13 := cg2 (fun (x : Int32) (y : Int32) => x ||| y) (Eq.refl (x3_1 : Int32)) m12 e13
      refine lv_istore_n (lv' := [(1, .int v13), (2, .int (nI q23)), (0, .ref (ad ra))]) S.1 S.2.1 dX3_union_15 rfl hl3 (by decide) rfl (fun ls15 hl15 => ?_)
      have m17 : ((nI q23) + Int32.ofInt (1)) = (nI (q23 + 1)) := (congrArg (fun q : Int32 => q + Int32.ofInt (1)) rfl).trans (nI_add _ 1)
      refine lv_iinc (v := (nI (q23 + 1))) (lv' := [(2, .int (nI (q23 + 1))), (1, .int v13), (0, .ref (ad ra))]) S.1 S.2.1 dX3_union_16 hl15 (k := 1) rfl (nI_add _ 1) (by decide) rfl (fun ls16 hl16 => ?_)
      refine lv_goto (tgt := 4) S.1 S.2.1 dX3_union_19 (by decide) ?_
      have hE18 : M = (m_X3_union_L4_3 n3) (AB ad F) (nI (q23 + 1)) v13 ra := hE4.trans ((show m_X3_union_L4_3_b (m_X3_union_L4_3 n3) (AB ad F) (nI q23) x3_1 ra = (m_X3_union_L4_3 n3) (AB ad F) ((nI q23) + Int32.ofInt (1)) (x3_1 ||| ((AB ad F) ra (rl (nI q23)))) ra from by unfold m_X3_union_L4_3_b; rw [if_neg (nle_cg rfl rfl c6)]).trans (congr (congr (congr (congrArg ((m_X3_union_L4_3 n3)) (rfl : AB ad F = AB ad F)) m17) m14) (Eq.refl ra)))
      exact ih3 (q23 + 1) (v13) (by omega) (by omega) hE18 ls16 (lv_sub hl16 [0, 1, 2] rfl)
  have hE19 : M = m_X3_union_L4_3 2000 (AB ad F) (nI 0) (nI 0) ra := hM.trans ((show m_X3_union (AB ad F) ra = m_X3_union_L4_3 2000 (AB ad F) (nI 0) (nI 0) ra from rfl).trans (congr (congr (congr (congrArg (m_X3_union_L4_3 2000) (rfl : AB ad F = AB ad F)) (Eq.refl ((nI 0) : Int32))) (Eq.refl ((nI 0) : Int32))) (Eq.refl ra)))
  exact lp3 2000 (0) ((nI 0)) (by omega) (by omega) hE19 ls2 (lv_sub hl2 [0, 1, 2] rfl)
noncomputable def m_X3_spendMonth_35 (k0 : SS → Int32 → Int32 → Nat → Nat → Int32 → SS) (σ : SS) (a0 : Int32) (a1 : Int32) (a2 : Nat) (a3 : Nat) (a4 : Int32) : SS :=
  k0 σ (a0 + Int32.ofInt (-1)) a1 a2 a3 a4
noncomputable def m_X3_spendMonth_22 (k0 : SS → Int32 → Int32 → Nat → Nat → Int32 → SS) (σ : SS) (a0 : Int32) (a1 : Int32) (a2 : Nat) (a3 : Nat) (a4 : Int32) : SS :=
  k0 σ (a0 + Int32.ofInt (-1)) a1 a2 a3 a4
noncomputable def m_X3_spendMonth_13 (k0 : SS → Int32 → Int32 → Nat → Nat → Int32 → SS) (σ : SS) (a0 : Int32) (a1 : Int32) (a2 : Nat) (a3 : Nat) (a4 : Int32) : SS :=
  σ
noncomputable def m_X3_spendMonth_L12_7_b (k0 : SS → Int32 → Int32 → Nat → Nat → Int32 → SS) (σ : SS) (a0 : Int32) (a1 : Int32) (a2 : Nat) (a3 : Nat) (a4 : Int32) : SS :=
  if a0 ≤ (0 : Int32) then
    m_X3_spendMonth_13 k0 (st σ a2 (rl (nI 0)) a1) a0 a1 a2 a3 a4
  else
    if a4 < a0 then
      m_X3_spendMonth_22 k0 (st σ a2 (rl a0) (nI 0)) a0 a1 a2 a3 a4
    else
      m_X3_spendMonth_35 k0 (st σ a2 (rl a0) (σ a2 (rl (a0 - (nI 1))))) a0 a1 a2 a3 a4
noncomputable def m_X3_spendMonth_L12_7 : Nat → SS → Int32 → Int32 → Nat → Nat → Int32 → SS
  | 0 => fun σ _ _ _ _ _ => σ
  | n + 1 => m_X3_spendMonth_L12_7_b (m_X3_spendMonth_L12_7 n)
noncomputable def m_X3_spendMonth (σ : SS) (a0 : Nat) (a1 : Nat) (a2 : Int32) : SS :=
  m_X3_spendMonth_L12_7 2000 σ (nI 4) (m_X7_exitsOf σ (m_X3_union σ a0) a1) a0 a1 a2
set_option maxHeartbeats 4000000 in
set_option maxRecDepth 100000 in
theorem c_X3_spendMonth (l : Launch) (D : va_G) (cA ad : Nat → Nat) (t : Nat) (hI : rI ad) (F : Nat → va_E) (hW : WT cA ad F) (ra : Nat) (hra : (ra, 5) ∈ rLI) (hura : ra ∉ [60, 61, 62, 63, 64, 66]) (rb : Nat) (hrb : (rb, 8) ∈ rLI) (hurb : rb ∉ [60, 61, 62, 63, 64, 66]) (p3 : Int32) : MV l D cA ad t yX3_spendMonth wsX3_spendMonth { frames := 1, cells := 0, slots := 0, locals := 23 } [.ref (ad ra), .ref (ad rb), .int p3] F (fun F' => WT cA ad F' ∧ rFr [ra] F F' ∧ ((True) ∧ m_X3_spendMonth (AB ad F) ra rb p3 = AB ad F')) := by
  refine en_V rfl (by decide +kernel) (Nat.le_of_ble_eq_true rfl) ?_
  intro p e s m args below meth c ls0 Q S hK hZ hP hS hl0 hret
  have hl0 : lv_has ls0 5 [(0, .ref (ad ra)), (1, .ref (ad rb)), (2, .int p3)] := hl0
  have hFr : rFr [ra] F F := rFr.rf
  obtain ⟨M, hM⟩ : ∃ M, M = m_X3_spendMonth (AB ad F) ra rb p3 := ⟨_, rfl⟩
  refine lv_aload_n S.1 S.2.1 dX3_spendMonth_0 rfl (lv_at hl0 0 rfl) ?_
  refine r_cSp (As := [.ref (ad ra)]) (rest := []) S hK hZ hP hS hl0.1 (c_X3_union l D cA ad t hI F hW ra hra hura) (va_cwS 1 S.2.2.2.2 gX3_spendMonth_X3_union rfl rfl rfl (by decide +kernel) ⟨Nat.le_of_ble_eq_true rfl, Nat.le_of_ble_eq_true rfl⟩) rfl rfl (Nat.le_of_ble_eq_true rfl) ⟨Nat.zero_le _, Nat.zero_le _⟩ dX3_spendMonth_1 (fun r1 hr1 => ?_)
  obtain ⟨hr1, hm1⟩ := hr1
  have m2 : (m_X3_union (AB ad F) ra) = r1 := (congr (Eq.refl (m_X3_union (AB ad F))) (Eq.refl ra)).trans hm1
  refine lv_aload_n S.1 S.2.1 dX3_spendMonth_4 rfl (lv_at hl0 1 rfl) ?_
  refine r_cNp (As := [.int r1, .ref (ad rb)]) (rest := []) S hK hZ hP hS hl0.1 (c_X7_exitsOf l D cA ad t hI F hW r1 rb hrb hurb) (va_cnB 2 S.2.2.2.2 gX3_spendMonth_X7_exitsOf_n62 rfl rfl rfl hZ.2.2.1 (S.2.2.2.2 (.initialized RX7) (am_at in_wsX3_spendMonth_0 5 rfl)) (by decide +kernel) ⟨Nat.le_of_ble_eq_true rfl, Nat.le_of_ble_eq_true rfl⟩) (S.2.2.2.2 (.static yX7_exitsOf) (am_at in_wsX3_spendMonth_0 4 rfl)) rfl rfl (Nat.le_of_ble_eq_true rfl) ⟨Nat.zero_le _, Nat.zero_le _⟩ dX3_spendMonth_5 (fun r3 hr3 => ?_)
  obtain ⟨hr3, hm3⟩ := hr3
  have m4 : (m_X7_exitsOf (AB ad F) (m_X3_union (AB ad F) ra) rb) = r3 := (congr (congr (Eq.refl (m_X7_exitsOf (AB ad F))) m2) (Eq.refl rb)).trans hm3
  refine lv_istore_n (lv' := [(3, .int r3), (0, .ref (ad ra)), (1, .ref (ad rb)), (2, .int p3)]) S.1 S.2.1 dX3_spendMonth_8 rfl hl0 (by decide) rfl (fun ls5 hl5 => ?_)
  refine lv_iconst (v := (nI 4)) S.1 S.2.1 dX3_spendMonth_9 (by decide +kernel) ?_
  refine lv_istore (lv' := [(4, .int (nI 4)), (3, .int r3), (0, .ref (ad ra)), (1, .ref (ad rb)), (2, .int p3)]) S.1 S.2.1 dX3_spendMonth_10 hl5 (by decide) rfl (fun ls6 hl6 => ?_)
  have lp7 : ∀ (n7 : Nat) (x7_4 : Int32), ∀ (Fl7 : Nat → va_E) (Hl7 : Heap) (lol7 : List Loc), -1 ≤ x7_4.toInt → x7_4.toInt ≤ 4 → (x7_4.toInt + 1).toNat < n7 → WT cA ad Fl7 → rFr [ra] F Fl7 → va_P D vwCl (rW ad Fl7) Hl7 → va_S (rA ad) s.heap Hl7 lol7 → M = m_X3_spendMonth_L12_7 n7 (AB ad Fl7) x7_4 r3 ra rb p3 → ∀ (ls : Array Slot), lv_has ls 5 [(4, .int x7_4), (3, .int r3), (0, .ref (ad ra)), (1, .ref (ad rb)), (2, .int p3)] → W p l e { frames := 1, cells := 0, slots := 0, locals := 23 } s m args below meth c Hl7 lol7 0 0 Q (F0 m 12 ls []) := by
    intro n7
    induction n7 with
    | zero =>
      intro x7_4 Fl7 Hl7 lol7 iv7_0 iv7_1 hm7 hWl7 hFl7 hPl7 hSl7 hEl7 ls7 hl7
      exact absurd hm7 (Nat.not_lt_zero _)
    | succ n7 ih7 =>
      intro x7_4 Fl7 Hl7 lol7 iv7_0 iv7_1 hm7 hWl7 hFl7 hPl7 hSl7 hEl7 ls7 hl7
      have hE8 : M = m_X3_spendMonth_L12_7_b (m_X3_spendMonth_L12_7 n7) (AB ad Fl7) x7_4 r3 ra rb p3 := hEl7
      refine lv_iload S.1 S.2.1 dX3_spendMonth_12 (lv_at hl7 0 rfl) ?_
      refine lv_if_le (tgt := 43) S.1 S.2.1 dX3_spendMonth_14 (by decide) (fun c9 => ?_) (fun c9 => ?_)
      · skip
        have k10 := ci_le rfl z_ti c9
        refine lv_aload_n S.1 S.2.1 dX3_spendMonth_43 rfl (lv_at hl7 2 rfl) ?_
        refine lv_iconst (v := (nI 0)) S.1 S.2.1 dX3_spendMonth_44 (by decide +kernel) ?_
        refine lv_iload_n S.1 S.2.1 dX3_spendMonth_45 rfl (lv_at hl7 1 rfl) ?_
        obtain ⟨g11, hF11, hg11⟩ := wt_I hWl7 hra
        refine r_iast S hI hK hPl7 hSl7 ra (lt_I hra) hF11 (vp_in_nI (show 0 < 5 by omega) (by omega)) dX3_spendMonth_46 (fun F12 H12 locs12 eF12 hP12 hS12 => ?_)
        have hW12 := hWl7.up eF12 (ok_I hra (okI_up hg11 (pr_of hura)))
        have hFr12 := hFl7.up eF12 (by simp <;> first | omega | (simp only [isC, isJ] at *; omega))
        have hE14 : M = m_X3_spendMonth_13 (m_X3_spendMonth_L12_7 n7) (AB ad F12) x7_4 r3 ra rb p3 := hE8.trans ((show m_X3_spendMonth_L12_7_b (m_X3_spendMonth_L12_7 n7) (AB ad Fl7) x7_4 r3 ra rb p3 = m_X3_spendMonth_13 (m_X3_spendMonth_L12_7 n7) (st (AB ad Fl7) ra (rl (nI 0)) r3) x7_4 r3 ra rb p3 from by unfold m_X3_spendMonth_L12_7_b; rw [if_pos (le_cg rfl rfl c9)]).trans (congr (congr (congr (congr (congr (congrArg (m_X3_spendMonth_13 (m_X3_spendMonth_L12_7 n7)) ((st_cg rfl (congrArg rl rfl) rfl).trans (AB_ast hF11 eF12).symm)) (Eq.refl (x7_4 : Int32))) (Eq.refl (r3 : Int32))) (Eq.refl ra)) (Eq.refl rb)) (Eq.refl (p3 : Int32))))
        have hE15 : M = AB ad F12 := hE14.trans ((show m_X3_spendMonth_13 (m_X3_spendMonth_L12_7 n7) (AB ad F12) x7_4 r3 ra rb p3 = (AB ad F12) from rfl).trans rfl)
        exact hret 47 _ _ _ _ dX3_spendMonth_47 hP12 hS12 ⟨hW12, hFr12, ⟨trivial, hM.symm.trans hE15⟩⟩
      have k16 := ci_nle rfl z_ti c9
      obtain ⟨j17, hj17, rfl⟩ := nI_of_le (x := x7_4) (B := 4) (by omega) (by omega)
      have kj17 := nI_toInt (n := j17) (Nat.lt_of_le_of_lt hj17 (by decide))
      refine lv_aload_n S.1 S.2.1 dX3_spendMonth_17 rfl (lv_at hl7 2 rfl) ?_
      refine lv_iload S.1 S.2.1 dX3_spendMonth_18 (lv_at hl7 0 rfl) ?_
      refine lv_iload S.1 S.2.1 dX3_spendMonth_20 (lv_at hl7 0 rfl) ?_
      refine lv_iload_n S.1 S.2.1 dX3_spendMonth_22 rfl (lv_at hl7 4 rfl) ?_
      refine lv_icmp_gt (tgt := 35) S.1 S.2.1 dX3_spendMonth_23 (by decide) (fun c18 => ?_) (fun c18 => ?_)
      · skip
        have k19 := ci_lt rfl (nI_toInt (n := j17) (Nat.lt_of_le_of_lt hj17 (by decide))) c18
        refine lv_iconst (v := (nI 0)) S.1 S.2.1 dX3_spendMonth_35 (by decide +kernel) ?_
        obtain ⟨g20, hF20, hg20⟩ := wt_I hWl7 hra
        refine r_iast S hI hK hPl7 hSl7 ra (lt_I hra) hF20 (vp_in_nI (show j17 < 5 by omega) (by omega)) dX3_spendMonth_36 (fun F21 H21 locs21 eF21 hP21 hS21 => ?_)
        have hW21 := hWl7.up eF21 (ok_I hra (okI_up hg20 (pr_of hura)))
        have hFr21 := hFl7.up eF21 (by simp <;> first | omega | (simp only [isC, isJ] at *; omega))
        have hE23 : M = m_X3_spendMonth_22 (m_X3_spendMonth_L12_7 n7) (AB ad F21) (nI j17) r3 ra rb p3 := hE8.trans ((show m_X3_spendMonth_L12_7_b (m_X3_spendMonth_L12_7 n7) (AB ad Fl7) (nI j17) r3 ra rb p3 = m_X3_spendMonth_22 (m_X3_spendMonth_L12_7 n7) (st (AB ad Fl7) ra (rl (nI j17)) (nI 0)) (nI j17) r3 ra rb p3 from by unfold m_X3_spendMonth_L12_7_b; rw [if_neg (nle_cg rfl rfl c9), if_pos (lt_cg rfl rfl c18)]).trans (congr (congr (congr (congr (congr (congrArg (m_X3_spendMonth_22 (m_X3_spendMonth_L12_7 n7)) ((st_cg rfl (congrArg rl rfl) rfl).trans (AB_ast hF20 eF21).symm)) (Eq.refl ((nI j17) : Int32))) (Eq.refl (r3 : Int32))) (Eq.refl ra)) (Eq.refl rb)) (Eq.refl (p3 : Int32))))
        obtain ⟨v24, e24⟩ : ∃ y : Int32, y = (nI j17) + Int32.ofInt (-1) := ⟨_, rfl⟩
        have kd24 : v24.toInt = ((j17 : Nat) : Int) - 1 := by rw [e24]; exact nI_dec (by omega)
        have m25 : ((nI j17) + Int32.ofInt (-1)) = v24 := (congrArg (fun q : Int32 => q + Int32.ofInt (-1)) rfl).trans e24.symm
        refine lv_iinc (v := v24) (lv' := [(4, .int v24), (3, .int r3), (0, .ref (ad ra)), (1, .ref (ad rb)), (2, .int p3)]) S.1 S.2.1 dX3_spendMonth_37 hl7 (k := 0) rfl e24.symm (by decide) rfl (fun ls24 hl24 => ?_)
        refine lv_goto (tgt := 12) S.1 S.2.1 dX3_spendMonth_40 (by decide) ?_
        have hE26 : M = (m_X3_spendMonth_L12_7 n7) (AB ad F21) v24 r3 ra rb p3 := hE23.trans ((show m_X3_spendMonth_22 (m_X3_spendMonth_L12_7 n7) (AB ad F21) (nI j17) r3 ra rb p3 = (m_X3_spendMonth_L12_7 n7) (AB ad F21) ((nI j17) + Int32.ofInt (-1)) r3 ra rb p3 from rfl).trans (congr (congr (congr (congr (congr (congrArg ((m_X3_spendMonth_L12_7 n7)) (rfl : AB ad F21 = AB ad F21)) m25) (Eq.refl (r3 : Int32))) (Eq.refl ra)) (Eq.refl rb)) (Eq.refl (p3 : Int32))))
        exact ih7 (v24) F21 H21 locs21 (by omega) (by omega) (by omega) hW21 hFr21 hP21 hS21 hE26 ls24 (lv_sub hl24 [0, 1, 2, 3, 4] rfl)
      have k27 := ci_nlt rfl (nI_toInt (n := j17) (Nat.lt_of_le_of_lt hj17 (by decide))) c18
      refine lv_aload_n S.1 S.2.1 dX3_spendMonth_26 rfl (lv_at hl7 2 rfl) ?_
      refine lv_iload S.1 S.2.1 dX3_spendMonth_27 (lv_at hl7 0 rfl) ?_
      refine lv_iconst (v := (nI 1)) S.1 S.2.1 dX3_spendMonth_29 (by decide +kernel) ?_
      refine lv_isub S.1 S.2.1 dX3_spendMonth_30 ?_
      refine lv_topi (fun v28 e28 => ?_)
      obtain rfl : v28 = nI (j17 - 1) := e28.trans (pk_sub (by omega))
      have m29 : ((nI j17) - (nI 1)) = (nI (j17 - 1)) := cg2 (fun (x : Int32) (y : Int32) => x - y) (Eq.refl ((nI j17) : Int32)) (Eq.refl ((nI 1) : Int32)) e28
      obtain ⟨g30, hF30, hg30⟩ := wt_I hWl7 hra
      refine r_iald S hK hPl7 ra (lt_I hra) hF30 (vp_in_nI (show j17 - 1 < 5 by omega) (by omega)) dX3_spendMonth_31 ?_
      refine lv_topi (fun v32 e32 => ?_)
      have m33 : ((AB ad Fl7) ra (rl ((nI j17) - (nI 1)))) = v32 := (ab_cg rfl m29).trans ((AB_g hF30).trans e32.symm)
      refine lv_goto (tgt := 36) S.1 S.2.1 dX3_spendMonth_32 (by decide) ?_
      refine r_iast S hI hK hPl7 hSl7 ra (lt_I hra) hF30 (vp_in_nI (show j17 < 5 by omega) (by omega)) dX3_spendMonth_36 (fun F34 H34 locs34 eF34 hP34 hS34 => ?_)
      have hW34 := hWl7.up eF34 (ok_I hra (okI_up hg30 (pr_of hura)))
      have hFr34 := hFl7.up eF34 (by simp <;> first | omega | (simp only [isC, isJ] at *; omega))
      have hE36 : M = m_X3_spendMonth_35 (m_X3_spendMonth_L12_7 n7) (AB ad F34) (nI j17) r3 ra rb p3 := hE8.trans ((show m_X3_spendMonth_L12_7_b (m_X3_spendMonth_L12_7 n7) (AB ad Fl7) (nI j17) r3 ra rb p3 = m_X3_spendMonth_35 (m_X3_spendMonth_L12_7 n7) (st (AB ad Fl7) ra (rl (nI j17)) ((AB ad Fl7) ra (rl ((nI j17) - (nI 1))))) (nI j17) r3 ra rb p3 from by unfold m_X3_spendMonth_L12_7_b; rw [if_neg (nle_cg rfl rfl c9), if_neg (nlt_cg rfl rfl c18)]).trans (congr (congr (congr (congr (congr (congrArg (m_X3_spendMonth_35 (m_X3_spendMonth_L12_7 n7)) ((st_cg rfl (congrArg rl rfl) m33).trans (AB_ast hF30 eF34).symm)) (Eq.refl ((nI j17) : Int32))) (Eq.refl (r3 : Int32))) (Eq.refl ra)) (Eq.refl rb)) (Eq.refl (p3 : Int32))))
      obtain ⟨v37, e37⟩ : ∃ y : Int32, y = (nI j17) + Int32.ofInt (-1) := ⟨_, rfl⟩
      have kd37 : v37.toInt = ((j17 : Nat) : Int) - 1 := by rw [e37]; exact nI_dec (by omega)
      have m38 : ((nI j17) + Int32.ofInt (-1)) = v37 := (congrArg (fun q : Int32 => q + Int32.ofInt (-1)) rfl).trans e37.symm
      refine lv_iinc (v := v37) (lv' := [(4, .int v37), (3, .int r3), (0, .ref (ad ra)), (1, .ref (ad rb)), (2, .int p3)]) S.1 S.2.1 dX3_spendMonth_37 hl7 (k := 0) rfl e37.symm (by decide) rfl (fun ls37 hl37 => ?_)
      refine lv_goto (tgt := 12) S.1 S.2.1 dX3_spendMonth_40 (by decide) ?_
      have hE39 : M = (m_X3_spendMonth_L12_7 n7) (AB ad F34) v37 r3 ra rb p3 := hE36.trans ((show m_X3_spendMonth_35 (m_X3_spendMonth_L12_7 n7) (AB ad F34) (nI j17) r3 ra rb p3 = (m_X3_spendMonth_L12_7 n7) (AB ad F34) ((nI j17) + Int32.ofInt (-1)) r3 ra rb p3 from rfl).trans (congr (congr (congr (congr (congr (congrArg ((m_X3_spendMonth_L12_7 n7)) (rfl : AB ad F34 = AB ad F34)) m38) (Eq.refl (r3 : Int32))) (Eq.refl ra)) (Eq.refl rb)) (Eq.refl (p3 : Int32))))
      exact ih7 (v37) F34 H34 locs34 (by omega) (by omega) (by omega) hW34 hFr34 hP34 hS34 hE39 ls37 (lv_sub hl37 [0, 1, 2, 3, 4] rfl)
  have kt40 := nI_toInt (n := 4) (by decide)
  have hE41 : M = m_X3_spendMonth_L12_7 2000 (AB ad F) (nI 4) r3 ra rb p3 := hM.trans ((show m_X3_spendMonth (AB ad F) ra rb p3 = m_X3_spendMonth_L12_7 2000 (AB ad F) (nI 4) (m_X7_exitsOf (AB ad F) (m_X3_union (AB ad F) ra) rb) ra rb p3 from rfl).trans (congr (congr (congr (congr (congr (congrArg (m_X3_spendMonth_L12_7 2000) (rfl : AB ad F = AB ad F)) (Eq.refl ((nI 4) : Int32))) m4) (Eq.refl ra)) (Eq.refl rb)) (Eq.refl (p3 : Int32))))
  exact lp7 2000 ((nI 4)) F s.heap [] (by omega) (by omega) (by omega) hW hFr hP hS hE41 ls6 (lv_sub hl6 [0, 1, 2, 3, 4] rfl)
noncomputable def m_X3_monthsToMeet_92 (k0 : SS → Int32 → Nat → Nat → Nat → Int32 → Int32 × SS) (σ : SS) (a0 : Int32) (a1 : Nat) (a2 : Nat) (a3 : Nat) (a4 : Int32) : Int32 × SS :=
  k0 σ (a0 + Int32.ofInt (1)) a1 a2 a3 a4
noncomputable def m_X3_monthsToMeet_82 (k0 : SS → Int32 → Nat → Nat → Nat → Int32 → Int32 × SS) (σ : SS) (a0 : Int32) (a1 : Nat) (a2 : Nat) (a3 : Nat) (a4 : Int32) : Int32 × SS :=
  k0 σ (a0 + Int32.ofInt (1)) a1 a2 a3 a4
noncomputable def m_X3_monthsToMeet_75 (k0 : SS → Int32 → Nat → Nat → Nat → Int32 → Int32 × SS) (σ : SS) (a0 : Int32) (a1 : Nat) (a2 : Nat) (a3 : Nat) (a4 : Int32) : Int32 × SS :=
  if a0 = (0 : Int32) then
    m_X3_monthsToMeet_92 k0 (st σ 29 (rl a0) ((nI 1) <<< (a4 &&& 31))) a0 a1 a2 a3 a4
  else
    m_X3_monthsToMeet_82 k0 (st σ 29 (rl a0) (nI 0)) a0 a1 a2 a3 a4
noncomputable def m_X3_monthsToMeet_64 (k0 : SS → Int32 → Nat → Nat → Nat → Int32 → Int32 × SS) (σ : SS) (a0 : Int32) (a1 : Nat) (a2 : Nat) (a3 : Nat) (a4 : Int32) : Int32 × SS :=
  k0 σ (a0 + Int32.ofInt (1)) a1 a2 a3 a4
noncomputable def m_X3_monthsToMeet_54 (k0 : SS → Int32 → Nat → Nat → Nat → Int32 → Int32 × SS) (σ : SS) (a0 : Int32) (a1 : Nat) (a2 : Nat) (a3 : Nat) (a4 : Int32) : Int32 × SS :=
  k0 σ (a0 + Int32.ofInt (1)) a1 a2 a3 a4
noncomputable def m_X3_monthsToMeet_47 (k0 : SS → Int32 → Nat → Nat → Nat → Int32 → Int32 × SS) (σ : SS) (a0 : Int32) (a1 : Nat) (a2 : Nat) (a3 : Nat) (a4 : Int32) : Int32 × SS :=
  if a0 = (0 : Int32) then
    m_X3_monthsToMeet_64 k0 (st σ 29 (rl a0) ((nI 1) <<< (a4 &&& 31))) a0 a1 a2 a3 a4
  else
    m_X3_monthsToMeet_54 k0 (st σ 29 (rl a0) (nI 0)) a0 a1 a2 a3 a4
noncomputable def m_X3_monthsToMeet_31 (k0 : SS → Int32 → Nat → Nat → Nat → Int32 → Int32 × SS) (k1 : SS → Int32 → Nat → Nat → Nat → Int32 → Int32 × SS) (σ : SS) (a0 : Int32) (a1 : Nat) (a2 : Nat) (a3 : Nat) (a4 : Int32) : Int32 × SS :=
  k1 σ (a0 + Int32.ofInt (1)) a1 a2 a3 a4
noncomputable def m_X3_monthsToMeet_25 (k0 : SS → Int32 → Nat → Nat → Nat → Int32 → Int32 × SS) (k1 : SS → Int32 → Nat → Nat → Nat → Int32 → Int32 × SS) (σ : SS) (a0 : Int32) (a1 : Nat) (a2 : Nat) (a3 : Nat) (a4 : Int32) : Int32 × SS :=
  m_X3_monthsToMeet_31 k0 k1 (m_X3_spendMonth σ 29 a2 (σ a1 0)) a0 a1 a2 a3 a4
noncomputable def m_X3_monthsToMeet_L64_7_b (k0 : SS → Int32 → Nat → Nat → Nat → Int32 → Int32 × SS) (k1 : SS → Int32 → Nat → Nat → Nat → Int32 → Int32 × SS) (σ : SS) (a0 : Int32) (a1 : Nat) (a2 : Nat) (a3 : Nat) (a4 : Int32) : Int32 × SS :=
  if (nI 24) < a0 then
    (((-1) : Int32), σ)
  else
    if ((m_X3_union σ 28) &&& (m_X3_union σ 29)) = (0 : Int32) then
      m_X3_monthsToMeet_25 k0 k1 (m_X3_spendMonth σ 28 a2 (σ a1 0)) a0 a1 a2 a3 a4
    else
      (a0, σ)
noncomputable def m_X3_monthsToMeet_L64_7 (k0 : SS → Int32 → Nat → Nat → Nat → Int32 → Int32 × SS) : Nat → SS → Int32 → Nat → Nat → Nat → Int32 → Int32 × SS
  | 0 => fun σ _ _ _ _ _ => (0, σ)
  | n + 1 => m_X3_monthsToMeet_L64_7_b k0 (m_X3_monthsToMeet_L64_7 k0 n)
noncomputable def m_X3_monthsToMeet_L3_2_b (k0 : SS → Int32 → Nat → Nat → Nat → Int32 → Int32 × SS) (σ : SS) (a0 : Int32) (a1 : Nat) (a2 : Nat) (a3 : Nat) (a4 : Int32) : Int32 × SS :=
  if (nI 5) ≤ a0 then
    m_X3_monthsToMeet_L64_7 k0 2000 σ (nI 0) a1 a2 a3 a4
  else
    if a0 = (σ a3 2) then
      m_X3_monthsToMeet_75 k0 (st σ 28 (rl a0) ((nI 1) <<< ((σ a3 0) &&& 31))) a0 a1 a2 a3 a4
    else
      m_X3_monthsToMeet_47 k0 (st σ 28 (rl a0) (nI 0)) a0 a1 a2 a3 a4
noncomputable def m_X3_monthsToMeet_L3_2 : Nat → SS → Int32 → Nat → Nat → Nat → Int32 → Int32 × SS
  | 0 => fun σ _ _ _ _ _ => (0, σ)
  | n + 1 => m_X3_monthsToMeet_L3_2_b (m_X3_monthsToMeet_L3_2 n)
noncomputable def m_X3_monthsToMeet (σ : SS) (a0 : Nat) (a1 : Nat) (a2 : Nat) (a3 : Int32) : Int32 × SS :=
  m_X3_monthsToMeet_L3_2 2000 σ (nI 0) a0 a1 a2 a3
set_option maxHeartbeats 4000000 in
set_option maxRecDepth 100000 in
theorem c_X3_monthsToMeet (l : Launch) (D : va_G) (cA ad : Nat → Nat) (t : Nat) (hI : rI ad) (F : Nat → va_E) (hW : WT cA ad F) (rc : Nat) (hrc : isC rc) (ra : Nat) (hra : (ra, 8) ∈ rLI) (hura : ra ∉ [60, 61, 62, 63, 64, 66]) (rj : Nat) (hrj : isJ rj) (p4 : Int32) : MI l D cA ad t yX3_monthsToMeet wsX3_monthsToMeet { frames := 2, cells := 0, slots := 0, locals := 47 } [.ref (ad 26), .ref (ad rc), .ref (ad ra), .ref (ad rj), .int p4] F (fun r F' => WT cA ad F' ∧ rFr [28, 29] F F' ∧ ((True) ∧ m_X3_monthsToMeet (AB ad F) rc ra rj p4 = (r, AB ad F'))) := by
  refine en_I rfl (by decide +kernel) (Nat.le_of_ble_eq_true rfl) ?_
  intro p e s m args below meth c ls0 Q S hK hZ hP hS hl0 hret
  have hl0 : lv_has ls0 6 [(0, .ref (ad 26)), (1, .ref (ad rc)), (2, .ref (ad ra)), (3, .ref (ad rj)), (4, .int p4)] := hl0
  have hFr : rFr [28, 29] F F := rFr.rf
  have hiX0 : ∀ w ∈ u_ws RX0 TX0 10, w ∈ wsX3_monthsToMeet := in_wsX3_monthsToMeet_3
  have hiX1 : ∀ w ∈ u_ws RX1 TX1 7, w ∈ wsX3_monthsToMeet := in_wsX3_monthsToMeet_2
  have hiX3 : ∀ w ∈ u_ws RX3 TX3 3, w ∈ wsX3_monthsToMeet := in_wsX3_monthsToMeet_1
  obtain ⟨M, hM⟩ : ∃ M, M = m_X3_monthsToMeet (AB ad F) rc ra rj p4 := ⟨_, rfl⟩
  refine lv_iconst (v := (nI 0)) S.1 S.2.1 dX3_monthsToMeet_0 (by decide +kernel) ?_
  refine lv_istore (lv' := [(5, .int (nI 0)), (0, .ref (ad 26)), (1, .ref (ad rc)), (2, .ref (ad ra)), (3, .ref (ad rj)), (4, .int p4)]) S.1 S.2.1 dX3_monthsToMeet_1 hl0 (by decide) rfl (fun ls1 hl1 => ?_)
  have lp2 : ∀ (n2 : Nat) (q52 : Nat), ∀ (Fl2 : Nat → va_E) (Hl2 : Heap) (lol2 : List Loc), q52 ≤ 5 → 5 - q52 < n2 → WT cA ad Fl2 → rFr [28, 29] F Fl2 → va_P D vwCl (rW ad Fl2) Hl2 → va_S (rA ad) s.heap Hl2 lol2 → M = m_X3_monthsToMeet_L3_2 n2 (AB ad Fl2) (nI q52) rc ra rj p4 → ∀ (ls : Array Slot), lv_has ls 6 [(5, .int (nI q52)), (0, .ref (ad 26)), (1, .ref (ad rc)), (2, .ref (ad ra)), (3, .ref (ad rj)), (4, .int p4)] → W p l e { frames := 2, cells := 0, slots := 0, locals := 47 } s m args below meth c Hl2 lol2 0 0 Q (F0 m 3 ls []) := by
    intro n2
    induction n2 with
    | zero =>
      intro q52 Fl2 Hl2 lol2 iv2_0 hm2 hWl2 hFl2 hPl2 hSl2 hEl2 ls2 hl2
      exact absurd hm2 (Nat.not_lt_zero _)
    | succ n2 ih2 =>
      intro q52 Fl2 Hl2 lol2 iv2_0 hm2 hWl2 hFl2 hPl2 hSl2 hEl2 ls2 hl2
      have hE3 : M = m_X3_monthsToMeet_L3_2_b (m_X3_monthsToMeet_L3_2 n2) (AB ad Fl2) (nI q52) rc ra rj p4 := hEl2
      refine lv_iload S.1 S.2.1 dX3_monthsToMeet_3 (lv_at hl2 0 rfl) ?_
      refine lv_iconst (v := (nI 5)) S.1 S.2.1 dX3_monthsToMeet_5 (by decide +kernel) ?_
      refine lv_icmp_ge (tgt := 61) S.1 S.2.1 dX3_monthsToMeet_6 (by decide) (fun c4 => ?_) (fun c4 => ?_)
      · skip
        have k5 := ci_le (nI_toInt (n := 5) (by decide)) (nI_toInt (n := q52) (by omega)) c4
        refine lv_iconst (v := (nI 0)) S.1 S.2.1 dX3_monthsToMeet_61 (by decide +kernel) ?_
        refine lv_istore (lv' := [(5, .int (nI 0)), (0, .ref (ad 26)), (1, .ref (ad rc)), (2, .ref (ad ra)), (3, .ref (ad rj)), (4, .int p4)]) S.1 S.2.1 dX3_monthsToMeet_62 hl2 (by decide) rfl (fun ls6 hl6 => ?_)
        have lp7 : ∀ (n7 : Nat) (q57 : Nat), ∀ (Fl7 : Nat → va_E) (Hl7 : Heap) (lol7 : List Loc), q57 ≤ 25 → 25 - q57 < n7 → WT cA ad Fl7 → rFr [28, 29] F Fl7 → va_P D vwCl (rW ad Fl7) Hl7 → va_S (rA ad) s.heap Hl7 lol7 → M = m_X3_monthsToMeet_L64_7 (m_X3_monthsToMeet_L3_2 n2) n7 (AB ad Fl7) (nI q57) rc ra rj p4 → ∀ (ls : Array Slot), lv_has ls 6 [(5, .int (nI q57)), (0, .ref (ad 26)), (1, .ref (ad rc)), (2, .ref (ad ra)), (3, .ref (ad rj)), (4, .int p4)] → W p l e { frames := 2, cells := 0, slots := 0, locals := 47 } s m args below meth c Hl7 lol7 0 0 Q (F0 m 64 ls []) := by
          intro n7
          induction n7 with
          | zero =>
            intro q57 Fl7 Hl7 lol7 iv7_0 hm7 hWl7 hFl7 hPl7 hSl7 hEl7 ls7 hl7
            exact absurd hm7 (Nat.not_lt_zero _)
          | succ n7 ih7 =>
            intro q57 Fl7 Hl7 lol7 iv7_0 hm7 hWl7 hFl7 hPl7 hSl7 hEl7 ls7 hl7
            have hE8 : M = m_X3_monthsToMeet_L64_7_b (m_X3_monthsToMeet_L3_2 n2) (m_X3_monthsToMeet_L64_7 (m_X3_monthsToMeet_L3_2 n2) n7) (AB ad Fl7) (nI q57) rc ra rj p4 := hEl7
            refine lv_iload S.1 S.2.1 dX3_monthsToMeet_64 (lv_at hl7 0 rfl) ?_
            refine lv_bipush (v := (nI 24)) S.1 S.2.1 dX3_monthsToMeet_66 (by decide +kernel) ?_
            refine lv_icmp_gt (tgt := 122) S.1 S.2.1 dX3_monthsToMeet_68 (by decide) (fun c9 => ?_) (fun c9 => ?_)
            · skip
              have k10 := ci_lt (nI_toInt (n := 24) (by decide)) (nI_toInt (n := q57) (by omega)) c9
              refine lv_iconst (v := (-1)) S.1 S.2.1 dX3_monthsToMeet_122 (by decide +kernel) ?_
              have hE11 : M = ((-1), AB ad Fl7) := hE8.trans ((show m_X3_monthsToMeet_L64_7_b (m_X3_monthsToMeet_L3_2 n2) (m_X3_monthsToMeet_L64_7 (m_X3_monthsToMeet_L3_2 n2) n7) (AB ad Fl7) (nI q57) rc ra rj p4 = (((-1) : Int32), (AB ad Fl7)) from by unfold m_X3_monthsToMeet_L64_7_b; rw [if_pos (lt_cg rfl rfl c9)]).trans (congrArg (fun q => (q, AB ad Fl7)) rfl))
              exact hret 123 _ _ _ _ _ dX3_monthsToMeet_123 rfl hPl7 hSl7 ⟨hWl7, hFl7, ⟨trivial, hM.symm.trans hE11⟩⟩
            have k12 := ci_nlt (nI_toInt (n := 24) (by decide)) (nI_toInt (n := q57) (by omega)) c9
            refine lv_aload_n S.1 S.2.1 dX3_monthsToMeet_71 rfl (lv_at hl7 1 rfl) ?_
            have hF13 := wt_plan hWl7
            unfold okPlan at hF13
            refine r_get S hK hPl7 26 (by decide) hF13 (C := RX3) (T := TX3) (N := 3) hiX3 rfl 1 (by decide) (am_at in_wsX3_monthsToMeet_0 0 rfl) (v := .ref (ad 28)) rfl dX3_monthsToMeet_72 ?_
            refine r_cSp (As := [.ref (ad 28)]) (rest := []) S hK hZ hPl7 hSl7 hl7.1 (c_X3_union l D cA ad t hI Fl7 hWl7 28 (show (28, 5) ∈ rLI by decide) (by decide)) (va_cwS 1 S.2.2.2.2 gX3_monthsToMeet_X3_union rfl rfl rfl (by decide +kernel) ⟨Nat.le_of_ble_eq_true rfl, Nat.le_of_ble_eq_true rfl⟩) rfl rfl (Nat.le_of_ble_eq_true rfl) ⟨Nat.zero_le _, Nat.zero_le _⟩ dX3_monthsToMeet_75 (fun r14 hr14 => ?_)
            obtain ⟨hr14, hm14⟩ := hr14
            have m15 : (m_X3_union (AB ad Fl7) 28) = r14 := (congr (Eq.refl (m_X3_union (AB ad Fl7))) (Eq.refl 28)).trans hm14
            refine lv_aload_n S.1 S.2.1 dX3_monthsToMeet_78 rfl (lv_at hl7 1 rfl) ?_
            refine r_get S hK hPl7 26 (by decide) hF13 (C := RX3) (T := TX3) (N := 3) hiX3 rfl 2 (by decide) (am_at in_wsX3_monthsToMeet_0 3 rfl) (v := .ref (ad 29)) rfl dX3_monthsToMeet_79 ?_
            refine r_cSp (As := [.ref (ad 29)]) (rest := [.int r14]) S hK hZ hPl7 hSl7 hl7.1 (c_X3_union l D cA ad t hI Fl7 hWl7 29 (show (29, 5) ∈ rLI by decide) (by decide)) (va_cwS 1 S.2.2.2.2 gX3_monthsToMeet_X3_union rfl rfl rfl (by decide +kernel) ⟨Nat.le_of_ble_eq_true rfl, Nat.le_of_ble_eq_true rfl⟩) rfl rfl (Nat.le_of_ble_eq_true rfl) ⟨Nat.zero_le _, Nat.zero_le _⟩ dX3_monthsToMeet_82 (fun r16 hr16 => ?_)
            obtain ⟨hr16, hm16⟩ := hr16
            have m17 : (m_X3_union (AB ad Fl7) 29) = r16 := (congr (Eq.refl (m_X3_union (AB ad Fl7))) (Eq.refl 29)).trans hm16
            refine lv_iand S.1 S.2.1 dX3_monthsToMeet_85 ?_
            refine lv_topi (fun v18 e18 => ?_)
            have m19 : ((m_X3_union (AB ad Fl7) 28) &&& (m_X3_union (AB ad Fl7) 29)) = v18 := cg2 (fun (x : Int32) (y : Int32) => x &&& y) m15 m17 e18
            refine lv_if_eq (tgt := 92) S.1 S.2.1 dX3_monthsToMeet_86 (by decide) (fun c20 => ?_) (fun c20 => ?_)
            · skip
              have k21 := ci_eq rfl z_ti c20
              refine lv_aload_n S.1 S.2.1 dX3_monthsToMeet_92 rfl (lv_at hl7 1 rfl) ?_
              refine r_get S hK hPl7 26 (by decide) hF13 (C := RX3) (T := TX3) (N := 3) hiX3 rfl 1 (by decide) (am_at in_wsX3_monthsToMeet_0 0 rfl) (v := .ref (ad 28)) rfl dX3_monthsToMeet_93 ?_
              refine lv_aload_n S.1 S.2.1 dX3_monthsToMeet_96 rfl (lv_at hl7 3 rfl) ?_
              refine lv_aload_n S.1 S.2.1 dX3_monthsToMeet_97 rfl (lv_at hl7 2 rfl) ?_
              obtain ⟨sl22, fm22, tn22, rn22, bn22, hF22, hb22_1, hb22_2, hb22_3⟩ := wt_C hWl7 hrc
              refine r_get S hK hPl7 rc (lt_C hrc) hF22 (C := RX0) (T := TX0) (N := 10) hiX0 rfl 0 (by decide) (am_at in_wsX3_monthsToMeet_0 4 rfl) (v := .int (nI sl22)) rfl dX3_monthsToMeet_98 ?_
              have m23 : ((AB ad Fl7) rc 0) = (nI sl22) := (congrArg (fun q => AB ad Fl7 q 0) rfl).trans (AB_f hF22 rfl)
              refine r_cSv (As := [.ref (ad 28), .ref (ad ra), .int (nI sl22)]) (rest := []) S hK hZ hPl7 hSl7 hl7.1 (c_X3_spendMonth l D cA ad t hI Fl7 hWl7 28 (show (28, 5) ∈ rLI by decide) (by decide) ra hra hura (nI sl22)) (va_cwS 3 S.2.2.2.2 gX3_monthsToMeet_X3_spendMonth rfl rfl rfl (by decide +kernel) ⟨Nat.le_of_ble_eq_true rfl, Nat.le_of_ble_eq_true rfl⟩) rfl rfl (Nat.le_of_ble_eq_true rfl) ⟨Nat.zero_le _, Nat.zero_le _⟩ dX3_monthsToMeet_101 (fun F24 H24 locs24 hr24 hP24 hS24 => ?_)
              obtain ⟨hW24, hFc24, hr24⟩ := hr24
              obtain ⟨hr24, hm24⟩ := hr24
              have hFr24 := hFl7.tr hFc24 (by simp <;> first | omega | (simp only [isC, isJ] at *; omega))
              have hE26 : M = m_X3_monthsToMeet_25 (m_X3_monthsToMeet_L3_2 n2) (m_X3_monthsToMeet_L64_7 (m_X3_monthsToMeet_L3_2 n2) n7) (AB ad F24) (nI q57) rc ra rj p4 := hE8.trans ((show m_X3_monthsToMeet_L64_7_b (m_X3_monthsToMeet_L3_2 n2) (m_X3_monthsToMeet_L64_7 (m_X3_monthsToMeet_L3_2 n2) n7) (AB ad Fl7) (nI q57) rc ra rj p4 = m_X3_monthsToMeet_25 (m_X3_monthsToMeet_L3_2 n2) (m_X3_monthsToMeet_L64_7 (m_X3_monthsToMeet_L3_2 n2) n7) (m_X3_spendMonth (AB ad Fl7) 28 ra ((AB ad Fl7) rc 0)) (nI q57) rc ra rj p4 from by unfold m_X3_monthsToMeet_L64_7_b; rw [if_neg (nlt_cg rfl rfl c9), if_pos (eq_cg m19 rfl c20)]).trans (congr (congr (congr (congr (congr (congrArg (m_X3_monthsToMeet_25 (m_X3_monthsToMeet_L3_2 n2) (m_X3_monthsToMeet_L64_7 (m_X3_monthsToMeet_L3_2 n2) n7)) ((congr (congr (congr (Eq.refl (m_X3_spendMonth (AB ad Fl7))) (Eq.refl 28)) (Eq.refl ra)) m23).trans hm24)) (Eq.refl ((nI q57) : Int32))) (Eq.refl rc)) (Eq.refl ra)) (Eq.refl rj)) (Eq.refl (p4 : Int32))))
              refine lv_aload_n S.1 S.2.1 dX3_monthsToMeet_104 rfl (lv_at hl7 1 rfl) ?_
              have hF27 := (hFc24 26 (by decide)).trans hF13
              refine r_get S hK hP24 26 (by decide) hF27 (C := RX3) (T := TX3) (N := 3) hiX3 rfl 2 (by decide) (am_at in_wsX3_monthsToMeet_0 3 rfl) (v := .ref (ad 29)) rfl dX3_monthsToMeet_105 ?_
              refine lv_aload_n S.1 S.2.1 dX3_monthsToMeet_108 rfl (lv_at hl7 3 rfl) ?_
              refine lv_aload_n S.1 S.2.1 dX3_monthsToMeet_109 rfl (lv_at hl7 2 rfl) ?_
              have hF28 := (hFc24 rc (by have hh1 := hrc; unfold isC at hh1; simp only [List.mem_cons, List.not_mem_nil, or_false, not_or]; omega)).trans hF22
              refine r_get S hK hP24 rc (lt_C hrc) hF28 (C := RX0) (T := TX0) (N := 10) hiX0 rfl 0 (by decide) (am_at in_wsX3_monthsToMeet_0 4 rfl) (v := .int (nI sl22)) rfl dX3_monthsToMeet_110 ?_
              have m29 : ((AB ad F24) rc 0) = (nI sl22) := (congrArg (fun q => AB ad F24 q 0) rfl).trans (AB_f hF28 rfl)
              refine r_cSv (As := [.ref (ad 29), .ref (ad ra), .int (nI sl22)]) (rest := []) S hK hZ hP24 hS24 hl7.1 (c_X3_spendMonth l D cA ad t hI F24 hW24 29 (show (29, 5) ∈ rLI by decide) (by decide) ra hra hura (nI sl22)) (va_cwS 3 S.2.2.2.2 gX3_monthsToMeet_X3_spendMonth rfl rfl rfl (by decide +kernel) ⟨Nat.le_of_ble_eq_true rfl, Nat.le_of_ble_eq_true rfl⟩) rfl rfl (Nat.le_of_ble_eq_true rfl) ⟨Nat.zero_le _, Nat.zero_le _⟩ dX3_monthsToMeet_113 (fun F30 H30 locs30 hr30 hP30 hS30 => ?_)
              obtain ⟨hW30, hFc30, hr30⟩ := hr30
              obtain ⟨hr30, hm30⟩ := hr30
              have hFr30 := hFr24.tr hFc30 (by simp <;> first | omega | (simp only [isC, isJ] at *; omega))
              have hE32 : M = m_X3_monthsToMeet_31 (m_X3_monthsToMeet_L3_2 n2) (m_X3_monthsToMeet_L64_7 (m_X3_monthsToMeet_L3_2 n2) n7) (AB ad F30) (nI q57) rc ra rj p4 := hE26.trans ((show m_X3_monthsToMeet_25 (m_X3_monthsToMeet_L3_2 n2) (m_X3_monthsToMeet_L64_7 (m_X3_monthsToMeet_L3_2 n2) n7) (AB ad F24) (nI q57) rc ra rj p4 = m_X3_monthsToMeet_31 (m_X3_monthsToMeet_L3_2 n2) (m_X3_monthsToMeet_L64_7 (m_X3_monthsToMeet_L3_2 n2) n7) (m_X3_spendMonth (AB ad F24) 29 ra ((AB ad F24) rc 0)) (nI q57) rc ra rj p4 from rfl).trans (congr (congr (congr (congr (congr (congrArg (m_X3_monthsToMeet_31 (m_X3_monthsToMeet_L3_2 n2) (m_X3_monthsToMeet_L64_7 (m_X3_monthsToMeet_L3_2 n2) n7)) ((congr (congr (congr (Eq.refl (m_X3_spendMonth (AB ad F24))) (Eq.refl 29)) (Eq.refl ra)) m29).trans hm30)) (Eq.refl ((nI q57) : Int32))) (Eq.refl rc)) (Eq.refl ra)) (Eq.refl rj)) (Eq.refl (p4 : Int32))))
              have m34 : ((nI q57) + Int32.ofInt (1)) = (nI (q57 + 1)) := (congrArg (fun q : Int32 => q + Int32.ofInt (1)) rfl).trans (nI_add _ 1)
              refine lv_iinc (v := (nI (q57 + 1))) (lv' := [(5, .int (nI (q57 + 1))), (0, .ref (ad 26)), (1, .ref (ad rc)), (2, .ref (ad ra)), (3, .ref (ad rj)), (4, .int p4)]) S.1 S.2.1 dX3_monthsToMeet_116 hl7 (k := 0) rfl (nI_add _ 1) (by decide) rfl (fun ls33 hl33 => ?_)
              refine lv_goto (tgt := 64) S.1 S.2.1 dX3_monthsToMeet_119 (by decide) ?_
              have hE35 : M = (m_X3_monthsToMeet_L64_7 (m_X3_monthsToMeet_L3_2 n2) n7) (AB ad F30) (nI (q57 + 1)) rc ra rj p4 := hE32.trans ((show m_X3_monthsToMeet_31 (m_X3_monthsToMeet_L3_2 n2) (m_X3_monthsToMeet_L64_7 (m_X3_monthsToMeet_L3_2 n2) n7) (AB ad F30) (nI q57) rc ra rj p4 = (m_X3_monthsToMeet_L64_7 (m_X3_monthsToMeet_L3_2 n2) n7) (AB ad F30) ((nI q57) + Int32.ofInt (1)) rc ra rj p4 from rfl).trans (congr (congr (congr (congr (congr (congrArg ((m_X3_monthsToMeet_L64_7 (m_X3_monthsToMeet_L3_2 n2) n7)) (rfl : AB ad F30 = AB ad F30)) m34) (Eq.refl rc)) (Eq.refl ra)) (Eq.refl rj)) (Eq.refl (p4 : Int32))))
              exact ih7 (q57 + 1) F30 H30 locs30 (by omega) (by omega) hW30 hFr30 hP30 hS30 hE35 ls33 (lv_sub hl33 [0, 1, 2, 3, 4, 5] rfl)
            have k36 := ci_ne rfl z_ti c20
            refine lv_iload S.1 S.2.1 dX3_monthsToMeet_89 (lv_at hl7 0 rfl) ?_
            have hE37 : M = ((nI q57), AB ad Fl7) := hE8.trans ((show m_X3_monthsToMeet_L64_7_b (m_X3_monthsToMeet_L3_2 n2) (m_X3_monthsToMeet_L64_7 (m_X3_monthsToMeet_L3_2 n2) n7) (AB ad Fl7) (nI q57) rc ra rj p4 = ((nI q57), (AB ad Fl7)) from by unfold m_X3_monthsToMeet_L64_7_b; rw [if_neg (nlt_cg rfl rfl c9), if_neg (neq_cg m19 rfl c20)]).trans (congrArg (fun q => (q, AB ad Fl7)) rfl))
            exact hret 91 _ _ _ _ _ dX3_monthsToMeet_91 rfl hPl7 hSl7 ⟨hWl7, hFl7, ⟨trivial, hM.symm.trans hE37⟩⟩
        have hE38 : M = m_X3_monthsToMeet_L64_7 (m_X3_monthsToMeet_L3_2 n2) 2000 (AB ad Fl2) (nI 0) rc ra rj p4 := hE3.trans ((show m_X3_monthsToMeet_L3_2_b (m_X3_monthsToMeet_L3_2 n2) (AB ad Fl2) (nI q52) rc ra rj p4 = m_X3_monthsToMeet_L64_7 (m_X3_monthsToMeet_L3_2 n2) 2000 (AB ad Fl2) (nI 0) rc ra rj p4 from by unfold m_X3_monthsToMeet_L3_2_b; rw [if_pos (le_cg rfl rfl c4)]).trans (congr (congr (congr (congr (congr (congrArg (m_X3_monthsToMeet_L64_7 (m_X3_monthsToMeet_L3_2 n2) 2000) (rfl : AB ad Fl2 = AB ad Fl2)) (Eq.refl ((nI 0) : Int32))) (Eq.refl rc)) (Eq.refl ra)) (Eq.refl rj)) (Eq.refl (p4 : Int32))))
        exact lp7 2000 (0) Fl2 Hl2 lol2 (by omega) (by omega) hWl2 hFl2 hPl2 hSl2 hE38 ls6 (lv_sub hl6 [0, 1, 2, 3, 4, 5] rfl)
      have k39 := ci_nle (nI_toInt (n := 5) (by decide)) (nI_toInt (n := q52) (by omega)) c4
      refine lv_aload_n S.1 S.2.1 dX3_monthsToMeet_9 rfl (lv_at hl2 1 rfl) ?_
      have hF40 := wt_plan hWl2
      unfold okPlan at hF40
      refine r_get S hK hPl2 26 (by decide) hF40 (C := RX3) (T := TX3) (N := 3) hiX3 rfl 1 (by decide) (am_at in_wsX3_monthsToMeet_0 0 rfl) (v := .ref (ad 28)) rfl dX3_monthsToMeet_10 ?_
      refine lv_iload S.1 S.2.1 dX3_monthsToMeet_13 (lv_at hl2 0 rfl) ?_
      refine lv_iload S.1 S.2.1 dX3_monthsToMeet_15 (lv_at hl2 0 rfl) ?_
      refine lv_aload_n S.1 S.2.1 dX3_monthsToMeet_17 rfl (lv_at hl2 4 rfl) ?_
      obtain ⟨ja41, jb41, jc41, jd41, jx41, jy41, jk41, hF41, hk41⟩ := wt_J hWl2 hrj
      refine r_get S hK hPl2 rj (lt_J hrj) hF41 (C := RX1) (T := TX1) (N := 7) hiX1 rfl 2 (by decide) (am_at in_wsX3_monthsToMeet_0 1 rfl) (v := .int jc41) rfl dX3_monthsToMeet_18 ?_
      have m42 : ((AB ad Fl2) rj 2) = jc41 := (congrArg (fun q => AB ad Fl2 q 2) rfl).trans (AB_f hF41 rfl)
      refine lv_icmp_ne (tgt := 33) S.1 S.2.1 dX3_monthsToMeet_21 (by decide) (fun c43 => ?_) (fun c43 => ?_)
      · skip
        have k44 := ci_ne (nI_toInt (n := q52) (by omega)) rfl c43
        refine lv_iconst (v := (nI 0)) S.1 S.2.1 dX3_monthsToMeet_33 (by decide +kernel) ?_
        obtain ⟨g45, hF45, hg45⟩ := wt_I hWl2 (show (28, 5) ∈ rLI by decide)
        refine r_iast S hI hK hPl2 hSl2 28 (by decide) hF45 (vp_in_nI (show q52 < 5 by omega) (by omega)) dX3_monthsToMeet_34 (fun F46 H46 locs46 eF46 hP46 hS46 => ?_)
        have hW46 := hWl2.up eF46 (ok_I (show (28, 5) ∈ rLI by decide) (okI_up hg45 (pr_of (by decide))))
        have hFr46 := hFl2.up eF46 (by simp <;> first | omega | (simp only [isC, isJ] at *; omega))
        have hE48 : M = m_X3_monthsToMeet_47 (m_X3_monthsToMeet_L3_2 n2) (AB ad F46) (nI q52) rc ra rj p4 := hE3.trans ((show m_X3_monthsToMeet_L3_2_b (m_X3_monthsToMeet_L3_2 n2) (AB ad Fl2) (nI q52) rc ra rj p4 = m_X3_monthsToMeet_47 (m_X3_monthsToMeet_L3_2 n2) (st (AB ad Fl2) 28 (rl (nI q52)) (nI 0)) (nI q52) rc ra rj p4 from by unfold m_X3_monthsToMeet_L3_2_b; rw [if_neg (nle_cg rfl rfl c4), if_neg (neq_cg rfl m42 c43)]).trans (congr (congr (congr (congr (congr (congrArg (m_X3_monthsToMeet_47 (m_X3_monthsToMeet_L3_2 n2)) ((st_cg rfl (congrArg rl rfl) rfl).trans (AB_ast hF45 eF46).symm)) (Eq.refl ((nI q52) : Int32))) (Eq.refl rc)) (Eq.refl ra)) (Eq.refl rj)) (Eq.refl (p4 : Int32))))
        refine lv_aload_n S.1 S.2.1 dX3_monthsToMeet_35 rfl (lv_at hl2 1 rfl) ?_
        have hF49 := (show F46 26 = Fl2 26 by rw [eF46]; exact va_up_ne _ _ (by decide)).trans hF40
        refine r_get S hK hP46 26 (by decide) hF49 (C := RX3) (T := TX3) (N := 3) hiX3 rfl 2 (by decide) (am_at in_wsX3_monthsToMeet_0 3 rfl) (v := .ref (ad 29)) rfl dX3_monthsToMeet_36 ?_
        refine lv_iload S.1 S.2.1 dX3_monthsToMeet_39 (lv_at hl2 0 rfl) ?_
        refine lv_iload S.1 S.2.1 dX3_monthsToMeet_41 (lv_at hl2 0 rfl) ?_
        refine lv_if_ne (tgt := 53) S.1 S.2.1 dX3_monthsToMeet_43 (by decide) (fun c50 => ?_) (fun c50 => ?_)
        · skip
          have k51 := ci_ne (nI_toInt (n := q52) (by omega)) z_ti c50
          refine lv_iconst (v := (nI 0)) S.1 S.2.1 dX3_monthsToMeet_53 (by decide +kernel) ?_
          obtain ⟨g52, hF52, hg52⟩ := wt_I hW46 (show (29, 5) ∈ rLI by decide)
          refine r_iast S hI hK hP46 hS46 29 (by decide) hF52 (vp_in_nI (show q52 < 5 by omega) (by omega)) dX3_monthsToMeet_54 (fun F53 H53 locs53 eF53 hP53 hS53 => ?_)
          have hW53 := hW46.up eF53 (ok_I (show (29, 5) ∈ rLI by decide) (okI_up hg52 (pr_of (by decide))))
          have hFr53 := hFr46.up eF53 (by simp <;> first | omega | (simp only [isC, isJ] at *; omega))
          have hE55 : M = m_X3_monthsToMeet_54 (m_X3_monthsToMeet_L3_2 n2) (AB ad F53) (nI q52) rc ra rj p4 := hE48.trans ((show m_X3_monthsToMeet_47 (m_X3_monthsToMeet_L3_2 n2) (AB ad F46) (nI q52) rc ra rj p4 = m_X3_monthsToMeet_54 (m_X3_monthsToMeet_L3_2 n2) (st (AB ad F46) 29 (rl (nI q52)) (nI 0)) (nI q52) rc ra rj p4 from by unfold m_X3_monthsToMeet_47; rw [if_neg (neq_cg rfl rfl c50)]).trans (congr (congr (congr (congr (congr (congrArg (m_X3_monthsToMeet_54 (m_X3_monthsToMeet_L3_2 n2)) ((st_cg rfl (congrArg rl rfl) rfl).trans (AB_ast hF52 eF53).symm)) (Eq.refl ((nI q52) : Int32))) (Eq.refl rc)) (Eq.refl ra)) (Eq.refl rj)) (Eq.refl (p4 : Int32))))
          have m57 : ((nI q52) + Int32.ofInt (1)) = (nI (q52 + 1)) := (congrArg (fun q : Int32 => q + Int32.ofInt (1)) rfl).trans (nI_add _ 1)
          refine lv_iinc (v := (nI (q52 + 1))) (lv' := [(5, .int (nI (q52 + 1))), (0, .ref (ad 26)), (1, .ref (ad rc)), (2, .ref (ad ra)), (3, .ref (ad rj)), (4, .int p4)]) S.1 S.2.1 dX3_monthsToMeet_55 hl2 (k := 0) rfl (nI_add _ 1) (by decide) rfl (fun ls56 hl56 => ?_)
          refine lv_goto (tgt := 3) S.1 S.2.1 dX3_monthsToMeet_58 (by decide) ?_
          have hE58 : M = (m_X3_monthsToMeet_L3_2 n2) (AB ad F53) (nI (q52 + 1)) rc ra rj p4 := hE55.trans ((show m_X3_monthsToMeet_54 (m_X3_monthsToMeet_L3_2 n2) (AB ad F53) (nI q52) rc ra rj p4 = (m_X3_monthsToMeet_L3_2 n2) (AB ad F53) ((nI q52) + Int32.ofInt (1)) rc ra rj p4 from rfl).trans (congr (congr (congr (congr (congr (congrArg ((m_X3_monthsToMeet_L3_2 n2)) (rfl : AB ad F53 = AB ad F53)) m57) (Eq.refl rc)) (Eq.refl ra)) (Eq.refl rj)) (Eq.refl (p4 : Int32))))
          exact ih2 (q52 + 1) F53 H53 locs53 (by omega) (by omega) hW53 hFr53 hP53 hS53 hE58 ls56 (lv_sub hl56 [0, 1, 2, 3, 4, 5] rfl)
        have k59 := ci_eq (nI_toInt (n := q52) (by omega)) z_ti c50
        refine lv_iconst (v := (nI 1)) S.1 S.2.1 dX3_monthsToMeet_46 (by decide +kernel) ?_
        refine lv_iload S.1 S.2.1 dX3_monthsToMeet_47 (lv_at hl2 5 rfl) ?_
        refine lv_ishl S.1 S.2.1 dX3_monthsToMeet_49 ?_
        refine lv_topi (fun v60 e60 => ?_)
        have m61 : ((nI 1) <<< (p4 &&& 31)) = v60 := cg2 (fun (x : Int32) (y : Int32) => x <<< (y &&& 31)) (Eq.refl ((nI 1) : Int32)) (Eq.refl (p4 : Int32)) e60
        refine lv_goto (tgt := 54) S.1 S.2.1 dX3_monthsToMeet_50 (by decide) ?_
        obtain ⟨g62, hF62, hg62⟩ := wt_I hW46 (show (29, 5) ∈ rLI by decide)
        refine r_iast S hI hK hP46 hS46 29 (by decide) hF62 (vp_in_nI (show q52 < 5 by omega) (by omega)) dX3_monthsToMeet_54 (fun F63 H63 locs63 eF63 hP63 hS63 => ?_)
        have hW63 := hW46.up eF63 (ok_I (show (29, 5) ∈ rLI by decide) (okI_up hg62 (pr_of (by decide))))
        have hFr63 := hFr46.up eF63 (by simp <;> first | omega | (simp only [isC, isJ] at *; omega))
        have hE65 : M = m_X3_monthsToMeet_64 (m_X3_monthsToMeet_L3_2 n2) (AB ad F63) (nI q52) rc ra rj p4 := hE48.trans ((show m_X3_monthsToMeet_47 (m_X3_monthsToMeet_L3_2 n2) (AB ad F46) (nI q52) rc ra rj p4 = m_X3_monthsToMeet_64 (m_X3_monthsToMeet_L3_2 n2) (st (AB ad F46) 29 (rl (nI q52)) ((nI 1) <<< (p4 &&& 31))) (nI q52) rc ra rj p4 from by unfold m_X3_monthsToMeet_47; rw [if_pos (eq_cg rfl rfl c50)]).trans (congr (congr (congr (congr (congr (congrArg (m_X3_monthsToMeet_64 (m_X3_monthsToMeet_L3_2 n2)) ((st_cg rfl (congrArg rl rfl) m61).trans (AB_ast hF62 eF63).symm)) (Eq.refl ((nI q52) : Int32))) (Eq.refl rc)) (Eq.refl ra)) (Eq.refl rj)) (Eq.refl (p4 : Int32))))
        have m67 : ((nI q52) + Int32.ofInt (1)) = (nI (q52 + 1)) := (congrArg (fun q : Int32 => q + Int32.ofInt (1)) rfl).trans (nI_add _ 1)
        refine lv_iinc (v := (nI (q52 + 1))) (lv' := [(5, .int (nI (q52 + 1))), (0, .ref (ad 26)), (1, .ref (ad rc)), (2, .ref (ad ra)), (3, .ref (ad rj)), (4, .int p4)]) S.1 S.2.1 dX3_monthsToMeet_55 hl2 (k := 0) rfl (nI_add _ 1) (by decide) rfl (fun ls66 hl66 => ?_)
        refine lv_goto (tgt := 3) S.1 S.2.1 dX3_monthsToMeet_58 (by decide) ?_
        have hE68 : M = (m_X3_monthsToMeet_L3_2 n2) (AB ad F63) (nI (q52 + 1)) rc ra rj p4 := hE65.trans ((show m_X3_monthsToMeet_64 (m_X3_monthsToMeet_L3_2 n2) (AB ad F63) (nI q52) rc ra rj p4 = (m_X3_monthsToMeet_L3_2 n2) (AB ad F63) ((nI q52) + Int32.ofInt (1)) rc ra rj p4 from rfl).trans (congr (congr (congr (congr (congr (congrArg ((m_X3_monthsToMeet_L3_2 n2)) (rfl : AB ad F63 = AB ad F63)) m67) (Eq.refl rc)) (Eq.refl ra)) (Eq.refl rj)) (Eq.refl (p4 : Int32))))
        exact ih2 (q52 + 1) F63 H63 locs63 (by omega) (by omega) hW63 hFr63 hP63 hS63 hE68 ls66 (lv_sub hl66 [0, 1, 2, 3, 4, 5] rfl)
      have k69 := ci_eq (nI_toInt (n := q52) (by omega)) rfl c43
      refine lv_iconst (v := (nI 1)) S.1 S.2.1 dX3_monthsToMeet_24 (by decide +kernel) ?_
      refine lv_aload_n S.1 S.2.1 dX3_monthsToMeet_25 rfl (lv_at hl2 4 rfl) ?_
      refine r_get S hK hPl2 rj (lt_J hrj) hF41 (C := RX1) (T := TX1) (N := 7) hiX1 rfl 0 (by decide) (am_at in_wsX3_monthsToMeet_0 2 rfl) (v := .int ja41) rfl dX3_monthsToMeet_26 ?_
      have m70 : ((AB ad Fl2) rj 0) = ja41 := (congrArg (fun q => AB ad Fl2 q 0) rfl).trans (AB_f hF41 rfl)
      refine lv_ishl S.1 S.2.1 dX3_monthsToMeet_29 ?_
      refine lv_topi (fun v71 e71 => ?_)
      have m72 : ((nI 1) <<< (((AB ad Fl2) rj 0) &&& 31)) = v71 := cg2 (fun (x : Int32) (y : Int32) => x <<< (y &&& 31)) (Eq.refl ((nI 1) : Int32)) m70 e71
      refine lv_goto (tgt := 34) S.1 S.2.1 dX3_monthsToMeet_30 (by decide) ?_
      obtain ⟨g73, hF73, hg73⟩ := wt_I hWl2 (show (28, 5) ∈ rLI by decide)
      refine r_iast S hI hK hPl2 hSl2 28 (by decide) hF73 (vp_in_nI (show q52 < 5 by omega) (by omega)) dX3_monthsToMeet_34 (fun F74 H74 locs74 eF74 hP74 hS74 => ?_)
      have hW74 := hWl2.up eF74 (ok_I (show (28, 5) ∈ rLI by decide) (okI_up hg73 (pr_of (by decide))))
      have hFr74 := hFl2.up eF74 (by simp <;> first | omega | (simp only [isC, isJ] at *; omega))
      have hE76 : M = m_X3_monthsToMeet_75 (m_X3_monthsToMeet_L3_2 n2) (AB ad F74) (nI q52) rc ra rj p4 := hE3.trans ((show m_X3_monthsToMeet_L3_2_b (m_X3_monthsToMeet_L3_2 n2) (AB ad Fl2) (nI q52) rc ra rj p4 = m_X3_monthsToMeet_75 (m_X3_monthsToMeet_L3_2 n2) (st (AB ad Fl2) 28 (rl (nI q52)) ((nI 1) <<< (((AB ad Fl2) rj 0) &&& 31))) (nI q52) rc ra rj p4 from by unfold m_X3_monthsToMeet_L3_2_b; rw [if_neg (nle_cg rfl rfl c4), if_pos (eq_cg rfl m42 c43)]).trans (congr (congr (congr (congr (congr (congrArg (m_X3_monthsToMeet_75 (m_X3_monthsToMeet_L3_2 n2)) ((st_cg rfl (congrArg rl rfl) m72).trans (AB_ast hF73 eF74).symm)) (Eq.refl ((nI q52) : Int32))) (Eq.refl rc)) (Eq.refl ra)) (Eq.refl rj)) (Eq.refl (p4 : Int32))))
      refine lv_aload_n S.1 S.2.1 dX3_monthsToMeet_35 rfl (lv_at hl2 1 rfl) ?_
      have hF77 := (show F74 26 = Fl2 26 by rw [eF74]; exact va_up_ne _ _ (by decide)).trans hF40
      refine r_get S hK hP74 26 (by decide) hF77 (C := RX3) (T := TX3) (N := 3) hiX3 rfl 2 (by decide) (am_at in_wsX3_monthsToMeet_0 3 rfl) (v := .ref (ad 29)) rfl dX3_monthsToMeet_36 ?_
      refine lv_iload S.1 S.2.1 dX3_monthsToMeet_39 (lv_at hl2 0 rfl) ?_
      refine lv_iload S.1 S.2.1 dX3_monthsToMeet_41 (lv_at hl2 0 rfl) ?_
      refine lv_if_ne (tgt := 53) S.1 S.2.1 dX3_monthsToMeet_43 (by decide) (fun c78 => ?_) (fun c78 => ?_)
      · skip
        have k79 := ci_ne (nI_toInt (n := q52) (by omega)) z_ti c78
        refine lv_iconst (v := (nI 0)) S.1 S.2.1 dX3_monthsToMeet_53 (by decide +kernel) ?_
        obtain ⟨g80, hF80, hg80⟩ := wt_I hW74 (show (29, 5) ∈ rLI by decide)
        refine r_iast S hI hK hP74 hS74 29 (by decide) hF80 (vp_in_nI (show q52 < 5 by omega) (by omega)) dX3_monthsToMeet_54 (fun F81 H81 locs81 eF81 hP81 hS81 => ?_)
        have hW81 := hW74.up eF81 (ok_I (show (29, 5) ∈ rLI by decide) (okI_up hg80 (pr_of (by decide))))
        have hFr81 := hFr74.up eF81 (by simp <;> first | omega | (simp only [isC, isJ] at *; omega))
        have hE83 : M = m_X3_monthsToMeet_82 (m_X3_monthsToMeet_L3_2 n2) (AB ad F81) (nI q52) rc ra rj p4 := hE76.trans ((show m_X3_monthsToMeet_75 (m_X3_monthsToMeet_L3_2 n2) (AB ad F74) (nI q52) rc ra rj p4 = m_X3_monthsToMeet_82 (m_X3_monthsToMeet_L3_2 n2) (st (AB ad F74) 29 (rl (nI q52)) (nI 0)) (nI q52) rc ra rj p4 from by unfold m_X3_monthsToMeet_75; rw [if_neg (neq_cg rfl rfl c78)]).trans (congr (congr (congr (congr (congr (congrArg (m_X3_monthsToMeet_82 (m_X3_monthsToMeet_L3_2 n2)) ((st_cg rfl (congrArg rl rfl) rfl).trans (AB_ast hF80 eF81).symm)) (Eq.refl ((nI q52) : Int32))) (Eq.refl rc)) (Eq.refl ra)) (Eq.refl rj)) (Eq.refl (p4 : Int32))))
        have m85 : ((nI q52) + Int32.ofInt (1)) = (nI (q52 + 1)) := (congrArg (fun q : Int32 => q + Int32.ofInt (1)) rfl).trans (nI_add _ 1)
        refine lv_iinc (v := (nI (q52 + 1))) (lv' := [(5, .int (nI (q52 + 1))), (0, .ref (ad 26)), (1, .ref (ad rc)), (2, .ref (ad ra)), (3, .ref (ad rj)), (4, .int p4)]) S.1 S.2.1 dX3_monthsToMeet_55 hl2 (k := 0) rfl (nI_add _ 1) (by decide) rfl (fun ls84 hl84 => ?_)
        refine lv_goto (tgt := 3) S.1 S.2.1 dX3_monthsToMeet_58 (by decide) ?_
        have hE86 : M = (m_X3_monthsToMeet_L3_2 n2) (AB ad F81) (nI (q52 + 1)) rc ra rj p4 := hE83.trans ((show m_X3_monthsToMeet_82 (m_X3_monthsToMeet_L3_2 n2) (AB ad F81) (nI q52) rc ra rj p4 = (m_X3_monthsToMeet_L3_2 n2) (AB ad F81) ((nI q52) + Int32.ofInt (1)) rc ra rj p4 from rfl).trans (congr (congr (congr (congr (congr (congrArg ((m_X3_monthsToMeet_L3_2 n2)) (rfl : AB ad F81 = AB ad F81)) m85) (Eq.refl rc)) (Eq.refl ra)) (Eq.refl rj)) (Eq.refl (p4 : Int32))))
        exact ih2 (q52 + 1) F81 H81 locs81 (by omega) (by omega) hW81 hFr81 hP81 hS81 hE86 ls84 (lv_sub hl84 [0, 1, 2, 3, 4, 5] rfl)
      have k87 := ci_eq (nI_toInt (n := q52) (by omega)) z_ti c78
      refine lv_iconst (v := (nI 1)) S.1 S.2.1 dX3_monthsToMeet_46 (by decide +kernel) ?_
      refine lv_iload S.1 S.2.1 dX3_monthsToMeet_47 (lv_at hl2 5 rfl) ?_
      refine lv_ishl S.1 S.2.1 dX3_monthsToMeet_49 ?_
      refine lv_topi (fun v88 e88 => ?_)
      have m89 : ((nI 1) <<< (p4 &&& 31)) = v88 := cg2 (fun (x : Int32) (y : Int32) => x <<< (y &&& 31)) (Eq.refl ((nI 1) : Int32)) (Eq.refl (p4 : Int32)) e88
      refine lv_goto (tgt := 54) S.1 S.2.1 dX3_monthsToMeet_50 (by decide) ?_
      obtain ⟨g90, hF90, hg90⟩ := wt_I hW74 (show (29, 5) ∈ rLI by decide)
      refine r_iast S hI hK hP74 hS74 29 (by decide) hF90 (vp_in_nI (show q52 < 5 by omega) (by omega)) dX3_monthsToMeet_54 (fun F91 H91 locs91 eF91 hP91 hS91 => ?_)
      have hW91 := hW74.up eF91 (ok_I (show (29, 5) ∈ rLI by decide) (okI_up hg90 (pr_of (by decide))))
      have hFr91 := hFr74.up eF91 (by simp <;> first | omega | (simp only [isC, isJ] at *; omega))
      have hE93 : M = m_X3_monthsToMeet_92 (m_X3_monthsToMeet_L3_2 n2) (AB ad F91) (nI q52) rc ra rj p4 := hE76.trans ((show m_X3_monthsToMeet_75 (m_X3_monthsToMeet_L3_2 n2) (AB ad F74) (nI q52) rc ra rj p4 = m_X3_monthsToMeet_92 (m_X3_monthsToMeet_L3_2 n2) (st (AB ad F74) 29 (rl (nI q52)) ((nI 1) <<< (p4 &&& 31))) (nI q52) rc ra rj p4 from by unfold m_X3_monthsToMeet_75; rw [if_pos (eq_cg rfl rfl c78)]).trans (congr (congr (congr (congr (congr (congrArg (m_X3_monthsToMeet_92 (m_X3_monthsToMeet_L3_2 n2)) ((st_cg rfl (congrArg rl rfl) m89).trans (AB_ast hF90 eF91).symm)) (Eq.refl ((nI q52) : Int32))) (Eq.refl rc)) (Eq.refl ra)) (Eq.refl rj)) (Eq.refl (p4 : Int32))))
      have m95 : ((nI q52) + Int32.ofInt (1)) = (nI (q52 + 1)) := (congrArg (fun q : Int32 => q + Int32.ofInt (1)) rfl).trans (nI_add _ 1)
      refine lv_iinc (v := (nI (q52 + 1))) (lv' := [(5, .int (nI (q52 + 1))), (0, .ref (ad 26)), (1, .ref (ad rc)), (2, .ref (ad ra)), (3, .ref (ad rj)), (4, .int p4)]) S.1 S.2.1 dX3_monthsToMeet_55 hl2 (k := 0) rfl (nI_add _ 1) (by decide) rfl (fun ls94 hl94 => ?_)
      refine lv_goto (tgt := 3) S.1 S.2.1 dX3_monthsToMeet_58 (by decide) ?_
      have hE96 : M = (m_X3_monthsToMeet_L3_2 n2) (AB ad F91) (nI (q52 + 1)) rc ra rj p4 := hE93.trans ((show m_X3_monthsToMeet_92 (m_X3_monthsToMeet_L3_2 n2) (AB ad F91) (nI q52) rc ra rj p4 = (m_X3_monthsToMeet_L3_2 n2) (AB ad F91) ((nI q52) + Int32.ofInt (1)) rc ra rj p4 from rfl).trans (congr (congr (congr (congr (congr (congrArg ((m_X3_monthsToMeet_L3_2 n2)) (rfl : AB ad F91 = AB ad F91)) m95) (Eq.refl rc)) (Eq.refl ra)) (Eq.refl rj)) (Eq.refl (p4 : Int32))))
      exact ih2 (q52 + 1) F91 H91 locs91 (by omega) (by omega) hW91 hFr91 hP91 hS91 hE96 ls94 (lv_sub hl94 [0, 1, 2, 3, 4, 5] rfl)
  have hE97 : M = m_X3_monthsToMeet_L3_2 2000 (AB ad F) (nI 0) rc ra rj p4 := hM.trans ((show m_X3_monthsToMeet (AB ad F) rc ra rj p4 = m_X3_monthsToMeet_L3_2 2000 (AB ad F) (nI 0) rc ra rj p4 from rfl).trans (congr (congr (congr (congr (congr (congrArg (m_X3_monthsToMeet_L3_2 2000) (rfl : AB ad F = AB ad F)) (Eq.refl ((nI 0) : Int32))) (Eq.refl rc)) (Eq.refl ra)) (Eq.refl rj)) (Eq.refl (p4 : Int32))))
  exact lp2 2000 (0) F s.heap [] (by omega) (by omega) hW hFr hP hS hE97 ls1 (lv_sub hl1 [0, 1, 2, 3, 4, 5] rfl)
