set_option maxHeartbeats 4000000 in
set_option maxRecDepth 100000 in
theorem c_X8_mostAt (l : Launch) (D : va_G) (cA ad : Nat → Nat) (t : Nat) (hI : rI ad) (F : Nat → va_E) (hW : WT cA ad F) (m1 : Nat) (hm1 : m1 ≤ 36) (p2 : Int32) (s3 : Nat) (hs3 : s3 ≤ 4) (ht1 : -1 ≤ p2.toInt ∧ p2.toInt ≤ 7) (hm1 : 1 ≤ m1 ∨ 0 ≤ p2.toInt) : MP l D cA ad t yX8_mostAt wsX8_mostAt { frames := 0, cells := 0, slots := 0, locals := 0 } [.ref (ad 58), .int (nI m1), .int p2, .int (nI s3)] F (fun r => True) := by
  refine en_P rfl (by decide +kernel) (Nat.le_of_ble_eq_true rfl) ?_
  intro p e s m args below meth c ls0 Q S hK hZ hP hS hl0 hret
  have hl0 : lv_has ls0 4 [(0, .ref (ad 58)), (1, .int (nI m1)), (2, .int p2), (3, .int (nI s3))] := hl0
  have hiX8 : ∀ w ∈ u_ws RX8 TX8 23, w ∈ wsX8_mostAt := in_wsX8_mostAt_1
  refine lv_aload_n S.1 S.2.1 dX8_mostAt_0 rfl (lv_at hl0 0 rfl) ?_
  obtain ⟨ty1, kn1, no1, en1, at1, sa1, sd1, wr1, pl1, va1, hF1, hb1_1, hb1_2, hb1_3, hb1_4, hb1_5, hb1_6⟩ := wt_m hW
  refine r_get S hK hP 58 (by decide) hF1 (C := RX8) (T := TX8) (N := 23) hiX8 rfl 19 (by decide) (am_at in_wsX8_mostAt_0 0 rfl) (v := .ref (ad 68)) rfl dX8_mostAt_1 ?_
  refine lv_bipush (v := (nI 40)) S.1 S.2.1 dX8_mostAt_4 (by decide +kernel) ?_
  refine lv_iload_n S.1 S.2.1 dX8_mostAt_6 rfl (lv_at hl0 1 rfl) ?_
  refine lv_imul S.1 S.2.1 dX8_mostAt_7 ?_
  refine lv_topi (fun v2 e2 => ?_)
  obtain rfl : v2 = nI (40 * m1) := e2.trans (pk_mul _ _)
  refine lv_iconst (v := (nI 5)) S.1 S.2.1 dX8_mostAt_8 (by decide +kernel) ?_
  refine lv_iload_n S.1 S.2.1 dX8_mostAt_9 rfl (lv_at hl0 2 rfl) ?_
  refine lv_imul S.1 S.2.1 dX8_mostAt_10 ?_
  refine lv_topi (fun v3 e3 => ?_)
  have kz4 := nI_toInt (n := 5) (by decide)
  have kt3 := ti_mul (k := 5) e3 (nI_toInt (n := 5) (by decide)) (by omega) (by omega)
  refine lv_iadd S.1 S.2.1 dX8_mostAt_11 ?_
  refine lv_topi (fun v5 e5 => ?_)
  have kz6 := nI_toInt (n := 40 * m1) (by omega)
  have kt5 := ti_add e5 (by omega) (by omega)
  refine lv_iload_n S.1 S.2.1 dX8_mostAt_12 rfl (lv_at hl0 3 rfl) ?_
  refine lv_iadd S.1 S.2.1 dX8_mostAt_13 ?_
  refine lv_topi (fun v7 e7 => ?_)
  have kz8 := nI_toInt (n := s3) (by omega)
  have kt7 := ti_add e7 (by omega) (by omega)
  obtain ⟨g9, hF9, hg9⟩ := wt_I hW (show (68, 1480) ∈ rLI by decide)
  refine r_iald S hK hP 68 (by decide) hF9 (in_of (n := 1480) (a := v7.toInt) rfl (by omega) (by omega)) dX8_mostAt_14 ?_
  refine lv_topi (fun v11 e11 => ?_)
  exact hret 15 _ _ dX8_mostAt_15 rfl (trivial)
set_option maxHeartbeats 4000000 in
set_option maxRecDepth 100000 in
theorem c_X8_learns (l : Launch) (D : va_G) (cA ad : Nat → Nat) (t : Nat) (hI : rI ad) (F : Nat → va_E) (hW : WT cA ad F) (p1 : Int32) (p2 : Int32) (ht1 : -1 ≤ p1.toInt ∧ p1.toInt ≤ 7) : MP l D cA ad t yX8_learns wsX8_learns { frames := 1, cells := 0, slots := 0, locals := 22 } [.ref (ad 58), .int p1, .int p2] F (fun r => True) := by
  refine en_P rfl (by decide +kernel) (Nat.le_of_ble_eq_true rfl) ?_
  intro p e s m args below meth c ls0 Q S hK hZ hP hS hl0 hret
  have hl0 : lv_has ls0 3 [(0, .ref (ad 58)), (1, .int p1), (2, .int p2)] := hl0
  have hiX8 : ∀ w ∈ u_ws RX8 TX8 23, w ∈ wsX8_learns := in_wsX8_learns_1
  refine lv_aload_n S.1 S.2.1 dX8_learns_0 rfl (lv_at hl0 0 rfl) ?_
  refine lv_iload_n S.1 S.2.1 dX8_learns_1 rfl (lv_at hl0 1 rfl) ?_
  refine lv_aload_n S.1 S.2.1 dX8_learns_2 rfl (lv_at hl0 0 rfl) ?_
  obtain ⟨ty1, kn1, no1, en1, at1, sa1, sd1, wr1, pl1, va1, hF1, hb1_1, hb1_2, hb1_3, hb1_4, hb1_5, hb1_6⟩ := wt_m hW
  refine r_get S hK hP 58 (by decide) hF1 (C := RX8) (T := TX8) (N := 23) hiX8 rfl 4 (by decide) (am_at in_wsX8_learns_0 0 rfl) (v := .ref (ad 62)) rfl dX8_learns_3 ?_
  refine lv_iconst (v := (nI 1)) S.1 S.2.1 dX8_learns_6 (by decide +kernel) ?_
  obtain ⟨g2, hF2, hg2⟩ := wt_I hW (show (62, 7) ∈ rLI by decide)
  refine r_iald S hK hP 62 (by decide) hF2 (vp_in_nI (show 1 < 7 by omega) (by omega)) dX8_learns_7 ?_
  refine lv_topi (fun v4 e4 => ?_)
  refine lv_iload_n S.1 S.2.1 dX8_learns_8 rfl (lv_at hl0 2 rfl) ?_
  refine lv_iadd S.1 S.2.1 dX8_learns_9 ?_
  refine lv_topi (fun v5 e5 => ?_)
  have ta7 : (p1 : Int32).toInt = p1.toInt := rfl
  refine r_cVp (As := [.int p1, .int v5]) (rest := []) S hK hZ hP hS hl0.1 58 (by decide) hF1 (C := RX8) rfl (c_X8_hasWork l D cA ad t hI F hW p1 v5 (by omega)) (cwV 2 S.2.2.2.2 gX8_learns_X8_hasWork rfl rfl rfl (by decide +kernel) ⟨Nat.le_of_ble_eq_true rfl, Nat.le_of_ble_eq_true rfl⟩) rfl rfl (Nat.le_of_ble_eq_true rfl) ⟨Nat.zero_le _, Nat.zero_le _⟩ dX8_learns_10 (fun r6 hr6 => ?_)
  obtain ⟨hr6, hm6⟩ := hr6
  obtain ⟨b8, hb8, rfl⟩ := hr6
  refine lv_if_eq (tgt := 28) S.1 S.2.1 dX8_learns_13 (by decide) (fun c9 => ?_) (fun c9 => ?_)
  · skip
    have k10 := ci_eq (nI_toInt (n := b8) (Nat.lt_of_le_of_lt hb8 (by decide))) z_ti c9
    refine lv_iconst (v := (nI 0)) S.1 S.2.1 dX8_learns_28 (by decide +kernel) ?_
    exact hret 29 _ _ dX8_learns_29 rfl (trivial)
  have k11 := ci_ne (nI_toInt (n := b8) (Nat.lt_of_le_of_lt hb8 (by decide))) z_ti c9
  refine lv_aload_n S.1 S.2.1 dX8_learns_16 rfl (lv_at hl0 0 rfl) ?_
  refine r_get S hK hP 58 (by decide) hF1 (C := RX8) (T := TX8) (N := 23) hiX8 rfl 2 (by decide) (am_at in_wsX8_learns_0 1 rfl) (v := .ref (ad 60)) rfl dX8_learns_17 ?_
  refine lv_bipush (v := (nI 20)) S.1 S.2.1 dX8_learns_20 (by decide +kernel) ?_
  refine lv_iload_n S.1 S.2.1 dX8_learns_22 rfl (lv_at hl0 1 rfl) ?_
  refine lv_iadd S.1 S.2.1 dX8_learns_23 ?_
  refine lv_topi (fun v12 e12 => ?_)
  have kz13 := nI_toInt (n := 20) (by decide)
  have kt12 := ti_add e12 (by omega) (by omega)
  obtain ⟨g14, hF14, hg14⟩ := wt_I hW (show (60, 52) ∈ rLI by decide)
  refine r_iald S hK hP 60 (by decide) hF14 (in_of (n := 52) (a := v12.toInt) rfl (by omega) (by omega)) dX8_learns_24 ?_
  refine lv_topi (fun v16 e16 => ?_)
  refine lv_goto (tgt := 29) S.1 S.2.1 dX8_learns_25 (by decide) ?_
  exact hret 29 _ _ dX8_learns_29 rfl (trivial)
set_option maxHeartbeats 4000000 in
set_option maxRecDepth 100000 in
theorem c_X8_learnsMost (l : Launch) (D : va_G) (cA ad : Nat → Nat) (t : Nat) (hI : rI ad) (F : Nat → va_E) (hW : WT cA ad F) (n1 : Nat) (hn1 : n1 ≤ 36) : MV l D cA ad t yX8_learnsMost wsX8_learnsMost { frames := 2, cells := 0, slots := 0, locals := 48 } [.ref (ad 58), .int (nI n1)] F (fun F' => WT cA ad F' ∧ rFr [68] F F' ∧ (True)) := by
  refine en_V rfl (by decide +kernel) (Nat.le_of_ble_eq_true rfl) ?_
  intro p e s m args below meth c ls0 Q S hK hZ hP hS hl0 hret
  have hl0 : lv_has ls0 9 [(0, .ref (ad 58)), (1, .int (nI n1))] := hl0
  have hFr : rFr [68] F F := rFr.rf
  have hiX8 : ∀ w ∈ u_ws RX8 TX8 23, w ∈ wsX8_learnsMost := in_wsX8_learnsMost_2
  refine lv_iload_n S.1 S.2.1 dX8_learnsMost_0 rfl (lv_at hl0 1 rfl) ?_
  refine lv_istore_n (lv' := [(2, .int (nI n1)), (0, .ref (ad 58)), (1, .int (nI n1))]) S.1 S.2.1 dX8_learnsMost_1 rfl hl0 (by decide) rfl (fun ls1 hl1 => ?_)
  have lp2 : ∀ (n2 : Nat) (x2_2 : Int32), ∀ (Fl2 : Nat → va_E) (Hl2 : Heap) (lol2 : List Loc), -1 ≤ x2_2.toInt → x2_2.toInt ≤ 36 → (x2_2.toInt + 1).toNat < n2 → WT cA ad Fl2 → rFr [68] F Fl2 → va_P D vwCl (rW ad Fl2) Hl2 → va_S (rA ad) s.heap Hl2 lol2 → ∀ (ls : Array Slot), lv_has ls 9 [(2, .int x2_2), (0, .ref (ad 58)), (1, .int (nI n1))] → W p l e { frames := 2, cells := 0, slots := 0, locals := 48 } s m args below meth c Hl2 lol2 0 0 Q (F0 m 2 ls []) := by
    intro n2
    induction n2 with
    | zero =>
      intro x2_2 Fl2 Hl2 lol2 iv2_0 iv2_1 hm2 hWl2 hFl2 hPl2 hSl2 ls2 hl2
      exact absurd hm2 (Nat.not_lt_zero _)
    | succ n2 ih2 =>
      intro x2_2 Fl2 Hl2 lol2 iv2_0 iv2_1 hm2 hWl2 hFl2 hPl2 hSl2 ls2 hl2
      refine lv_iload_n S.1 S.2.1 dX8_learnsMost_2 rfl (lv_at hl2 0 rfl) ?_
      refine lv_if_lt (tgt := 213) S.1 S.2.1 dX8_learnsMost_3 (by decide) (fun c3 => ?_) (fun c3 => ?_)
      · skip
        have k4 := ci_lt rfl z_ti c3
        exact hret 213 _ _ _ _ dX8_learnsMost_213 hPl2 hSl2 ⟨hWl2, hFl2, trivial⟩
      have k5 := ci_nlt rfl z_ti c3
      obtain ⟨j6, hj6, rfl⟩ := nI_of_le (x := x2_2) (B := 36) (by omega) (by omega)
      have kj6 := nI_toInt (n := j6) (Nat.lt_of_le_of_lt hj6 (by decide))
      refine lv_iconst (v := (nI 0)) S.1 S.2.1 dX8_learnsMost_6 (by decide +kernel) ?_
      refine lv_istore_n (lv' := [(3, .int (nI 0)), (2, .int (nI j6)), (0, .ref (ad 58)), (1, .int (nI n1))]) S.1 S.2.1 dX8_learnsMost_7 rfl hl2 (by decide) rfl (fun ls7 hl7 => ?_)
      have lp8 : ∀ (n8 : Nat) (q38 : Nat), ∀ (Fl8 : Nat → va_E) (Hl8 : Heap) (lol8 : List Loc), q38 ≤ 8 → 8 - q38 < n8 → WT cA ad Fl8 → rFr [68] F Fl8 → va_P D vwCl (rW ad Fl8) Hl8 → va_S (rA ad) s.heap Hl8 lol8 → ∀ (ls : Array Slot), lv_has ls 9 [(3, .int (nI q38)), (2, .int (nI j6)), (0, .ref (ad 58)), (1, .int (nI n1))] → W p l e { frames := 2, cells := 0, slots := 0, locals := 48 } s m args below meth c Hl8 lol8 0 0 Q (F0 m 8 ls []) := by
        intro n8
        induction n8 with
        | zero =>
          intro q38 Fl8 Hl8 lol8 iv8_0 hm8 hWl8 hFl8 hPl8 hSl8 ls8 hl8
          exact absurd hm8 (Nat.not_lt_zero _)
        | succ n8 ih8 =>
          intro q38 Fl8 Hl8 lol8 iv8_0 hm8 hWl8 hFl8 hPl8 hSl8 ls8 hl8
          refine lv_iload_n S.1 S.2.1 dX8_learnsMost_8 rfl (lv_at hl8 0 rfl) ?_
          refine lv_aload_n S.1 S.2.1 dX8_learnsMost_9 rfl (lv_at hl8 2 rfl) ?_
          obtain ⟨ty9, kn9, no9, en9, at9, sa9, sd9, wr9, pl9, va9, hF9, hb9_1, hb9_2, hb9_3, hb9_4, hb9_5, hb9_6⟩ := wt_m hWl8
          refine r_get S hK hPl8 58 (by decide) hF9 (C := RX8) (T := TX8) (N := 23) hiX8 rfl 2 (by decide) (am_at in_wsX8_learnsMost_0 0 rfl) (v := .ref (ad 60)) rfl dX8_learnsMost_10 ?_
          refine lv_iconst (v := (nI 2)) S.1 S.2.1 dX8_learnsMost_13 (by decide +kernel) ?_
          obtain ⟨g10, hF10, hg10⟩ := wt_I hWl8 (show (60, 52) ∈ rLI by decide)
          refine r_iald S hK hPl8 60 (by decide) hF10 (vp_in_nI (show 2 < 52 by omega) (by omega)) dX8_learnsMost_14 ?_
          refine lv_topi (fun v12 e12 => ?_)
          obtain ⟨b13, hb13, he13⟩ := (pr_T (by decide) (hg10 2 (by decide))).2.1 rfl
          obtain rfl : v12 = nI b13 := e12.trans he13
          refine lv_icmp_ge (tgt := 207) S.1 S.2.1 dX8_learnsMost_15 (by decide) (fun c14 => ?_) (fun c14 => ?_)
          · skip
            have k15 := ci_le (nI_toInt (n := b13) (Nat.lt_of_le_of_lt hb13 (by decide))) (nI_toInt (n := q38) (by omega)) c14
            obtain ⟨v16, e16⟩ : ∃ y : Int32, y = (nI j6) + Int32.ofInt (-1) := ⟨_, rfl⟩
            have kd16 : v16.toInt = ((j6 : Nat) : Int) - 1 := by rw [e16]; exact nI_dec (by omega)
            refine lv_iinc (v := v16) (lv' := [(2, .int v16), (3, .int (nI q38)), (0, .ref (ad 58)), (1, .int (nI n1))]) S.1 S.2.1 dX8_learnsMost_207 hl8 (k := 1) rfl e16.symm (by decide) rfl (fun ls16 hl16 => ?_)
            refine lv_goto (tgt := 2) S.1 S.2.1 dX8_learnsMost_210 (by decide) ?_
            exact ih2 (v16) Fl8 Hl8 lol8 (by omega) (by omega) (by omega) hWl8 hFl8 hPl8 hSl8 ls16 (lv_sub hl16 [0, 2, 3] rfl)
          have k17 := ci_nle (nI_toInt (n := b13) (Nat.lt_of_le_of_lt hb13 (by decide))) (nI_toInt (n := q38) (by omega)) c14
          refine lv_aload_n S.1 S.2.1 dX8_learnsMost_18 rfl (lv_at hl8 2 rfl) ?_
          refine lv_iload_n S.1 S.2.1 dX8_learnsMost_19 rfl (lv_at hl8 0 rfl) ?_
          refine lv_aload_n S.1 S.2.1 dX8_learnsMost_20 rfl (lv_at hl8 2 rfl) ?_
          refine r_get S hK hPl8 58 (by decide) hF9 (C := RX8) (T := TX8) (N := 23) hiX8 rfl 4 (by decide) (am_at in_wsX8_learnsMost_0 1 rfl) (v := .ref (ad 62)) rfl dX8_learnsMost_21 ?_
          refine lv_iconst (v := (nI 5)) S.1 S.2.1 dX8_learnsMost_24 (by decide +kernel) ?_
          obtain ⟨g18, hF18, hg18⟩ := wt_I hWl8 (show (62, 7) ∈ rLI by decide)
          refine r_iald S hK hPl8 62 (by decide) hF18 (vp_in_nI (show 5 < 7 by omega) (by omega)) dX8_learnsMost_25 ?_
          refine lv_topi (fun v20 e20 => ?_)
          refine r_cVp (As := [.int (nI q38), .int v20]) (rest := []) S hK hZ hPl8 hSl8 hl8.1 58 (by decide) hF9 (C := RX8) rfl (c_X8_walks l D cA ad t hI Fl8 hWl8 (nI q38) v20) (cwV 2 S.2.2.2.2 gX8_learnsMost_X8_walks rfl rfl rfl (by decide +kernel) ⟨Nat.le_of_ble_eq_true rfl, Nat.le_of_ble_eq_true rfl⟩) rfl rfl (Nat.le_of_ble_eq_true rfl) ⟨Nat.zero_le _, Nat.zero_le _⟩ dX8_learnsMost_26 (fun r21 hr21 => ?_)
          obtain ⟨hr21, hm21⟩ := hr21
          refine lv_istore (lv' := [(4, .int r21), (3, .int (nI q38)), (2, .int (nI j6)), (0, .ref (ad 58)), (1, .int (nI n1))]) S.1 S.2.1 dX8_learnsMost_29 hl8 (by decide) rfl (fun ls22 hl22 => ?_)
          refine lv_iconst (v := (nI 0)) S.1 S.2.1 dX8_learnsMost_31 (by decide +kernel) ?_
          refine lv_istore (lv' := [(5, .int (nI 0)), (4, .int r21), (3, .int (nI q38)), (2, .int (nI j6)), (0, .ref (ad 58)), (1, .int (nI n1))]) S.1 S.2.1 dX8_learnsMost_32 hl22 (by decide) rfl (fun ls23 hl23 => ?_)
          have lp24 : ∀ (n24 : Nat) (q524 : Nat), ∀ (Fl24 : Nat → va_E) (Hl24 : Heap) (lol24 : List Loc), q524 ≤ 5 → 5 - q524 < n24 → WT cA ad Fl24 → rFr [68] F Fl24 → va_P D vwCl (rW ad Fl24) Hl24 → va_S (rA ad) s.heap Hl24 lol24 → ∀ (ls : Array Slot), lv_has ls 9 [(5, .int (nI q524)), (4, .int r21), (3, .int (nI q38)), (2, .int (nI j6)), (0, .ref (ad 58)), (1, .int (nI n1))] → W p l e { frames := 2, cells := 0, slots := 0, locals := 48 } s m args below meth c Hl24 lol24 0 0 Q (F0 m 34 ls []) := by
            intro n24
            induction n24 with
            | zero =>
              intro q524 Fl24 Hl24 lol24 iv24_0 hm24 hWl24 hFl24 hPl24 hSl24 ls24 hl24
              exact absurd hm24 (Nat.not_lt_zero _)
            | succ n24 ih24 =>
              intro q524 Fl24 Hl24 lol24 iv24_0 hm24 hWl24 hFl24 hPl24 hSl24 ls24 hl24
              refine lv_iload S.1 S.2.1 dX8_learnsMost_34 (lv_at hl24 0 rfl) ?_
              refine lv_aload_n S.1 S.2.1 dX8_learnsMost_36 rfl (lv_at hl24 4 rfl) ?_
              obtain ⟨ty25, kn25, no25, en25, at25, sa25, sd25, wr25, pl25, va25, hF25, hb25_1, hb25_2, hb25_3, hb25_4, hb25_5, hb25_6⟩ := wt_m hWl24
              refine r_get S hK hPl24 58 (by decide) hF25 (C := RX8) (T := TX8) (N := 23) hiX8 rfl 2 (by decide) (am_at in_wsX8_learnsMost_0 0 rfl) (v := .ref (ad 60)) rfl dX8_learnsMost_37 ?_
              refine lv_iconst (v := (nI 0)) S.1 S.2.1 dX8_learnsMost_40 (by decide +kernel) ?_
              obtain ⟨g26, hF26, hg26⟩ := wt_I hWl24 (show (60, 52) ∈ rLI by decide)
              refine r_iald S hK hPl24 60 (by decide) hF26 (vp_in_nI (show 0 < 52 by omega) (by omega)) dX8_learnsMost_41 ?_
              refine lv_topi (fun v28 e28 => ?_)
              obtain ⟨b29, hb29, he29⟩ := (pr_T (by decide) (hg26 0 (by decide))).1 rfl
              obtain rfl : v28 = nI b29 := e28.trans he29
              refine lv_icmp_gt (tgt := 201) S.1 S.2.1 dX8_learnsMost_42 (by decide) (fun c30 => ?_) (fun c30 => ?_)
              · skip
                have k31 := ci_lt (nI_toInt (n := b29) (Nat.lt_of_le_of_lt hb29 (by decide))) (nI_toInt (n := q524) (by omega)) c30
                refine lv_iinc (v := (nI (q38 + 1))) (lv' := [(3, .int (nI (q38 + 1))), (5, .int (nI q524)), (4, .int r21), (2, .int (nI j6)), (0, .ref (ad 58)), (1, .int (nI n1))]) S.1 S.2.1 dX8_learnsMost_201 hl24 (k := 2) rfl (nI_add _ 1) (by decide) rfl (fun ls32 hl32 => ?_)
                refine lv_goto (tgt := 8) S.1 S.2.1 dX8_learnsMost_204 (by decide) ?_
                exact ih8 (q38 + 1) Fl24 Hl24 lol24 (by omega) (by omega) hWl24 hFl24 hPl24 hSl24 ls32 (lv_sub hl32 [0, 3, 4, 5] rfl)
              have k33 := ci_nlt (nI_toInt (n := b29) (Nat.lt_of_le_of_lt hb29 (by decide))) (nI_toInt (n := q524) (by omega)) c30
              refine lv_iload_n S.1 S.2.1 dX8_learnsMost_45 rfl (lv_at hl24 3 rfl) ?_
              refine lv_iload_n S.1 S.2.1 dX8_learnsMost_46 rfl (lv_at hl24 5 rfl) ?_
              refine lv_icmp_ne (tgt := 54) S.1 S.2.1 dX8_learnsMost_47 (by decide) (fun c34 => ?_) (fun c34 => ?_)
              · skip
                have k35 := ci_ne (nI_toInt (n := j6) (Nat.lt_of_le_of_lt hj6 (by decide))) (nI_toInt (n := n1) (by omega)) c34
                refine lv_iconst (v := (-1)) S.1 S.2.1 dX8_learnsMost_54 (by decide +kernel) ?_
                refine lv_istore (lv' := [(6, .int (-1)), (5, .int (nI q524)), (4, .int r21), (3, .int (nI q38)), (2, .int (nI j6)), (0, .ref (ad 58)), (1, .int (nI n1))]) S.1 S.2.1 dX8_learnsMost_55 hl24 (by decide) rfl (fun ls36 hl36 => ?_)
                refine lv_iload_n S.1 S.2.1 dX8_learnsMost_57 rfl (lv_at hl36 4 rfl) ?_
                refine lv_iload_n S.1 S.2.1 dX8_learnsMost_58 rfl (lv_at hl36 6 rfl) ?_
                refine lv_icmp_ge (tgt := 109) S.1 S.2.1 dX8_learnsMost_59 (by decide) (fun c37 => ?_) (fun c37 => ?_)
                · skip
                  have k38 := ci_le (nI_toInt (n := n1) (by omega)) (nI_toInt (n := j6) (Nat.lt_of_le_of_lt hj6 (by decide))) c37
                  refine lv_iconst (v := (nI 0)) S.1 S.2.1 dX8_learnsMost_109 (by decide +kernel) ?_
                  refine lv_istore (lv' := [(7, .int (nI 0)), (6, .int (-1)), (5, .int (nI q524)), (4, .int r21), (3, .int (nI q38)), (2, .int (nI j6)), (0, .ref (ad 58)), (1, .int (nI n1))]) S.1 S.2.1 dX8_learnsMost_110 hl36 (by decide) rfl (fun ls39 hl39 => ?_)
                  have lp40 : ∀ (n40 : Nat) (q740 : Nat) (x40_6 : Int32), q740 ≤ 8 → 8 - q740 < n40 → ∀ (ls : Array Slot), lv_has ls 9 [(7, .int (nI q740)), (6, .int x40_6), (5, .int (nI q524)), (4, .int r21), (3, .int (nI q38)), (2, .int (nI j6)), (0, .ref (ad 58)), (1, .int (nI n1))] → W p l e { frames := 2, cells := 0, slots := 0, locals := 48 } s m args below meth c Hl24 lol24 0 0 Q (F0 m 112 ls []) := by
                    intro n40
                    induction n40 with
                    | zero =>
                      intro q740 x40_6 iv40_0 hm40 ls40 hl40
                      exact absurd hm40 (Nat.not_lt_zero _)
                    | succ n40 ih40 =>
                      intro q740 x40_6 iv40_0 hm40 ls40 hl40
                      refine lv_iload S.1 S.2.1 dX8_learnsMost_112 (lv_at hl40 0 rfl) ?_
                      refine lv_aload_n S.1 S.2.1 dX8_learnsMost_114 rfl (lv_at hl40 6 rfl) ?_
                      refine r_get S hK hPl24 58 (by decide) hF25 (C := RX8) (T := TX8) (N := 23) hiX8 rfl 2 (by decide) (am_at in_wsX8_learnsMost_0 0 rfl) (v := .ref (ad 60)) rfl dX8_learnsMost_115 ?_
                      refine lv_iconst (v := (nI 2)) S.1 S.2.1 dX8_learnsMost_118 (by decide +kernel) ?_
                      refine r_iald S hK hPl24 60 (by decide) hF26 (vp_in_nI (show 2 < 52 by omega) (by omega)) dX8_learnsMost_119 ?_
                      refine lv_topi (fun v42 e42 => ?_)
                      obtain ⟨b43, hb43, he43⟩ := (pr_T (by decide) (hg26 2 (by decide))).2.1 rfl
                      obtain rfl : v42 = nI b43 := e42.trans he43
                      refine lv_icmp_ge (tgt := 177) S.1 S.2.1 dX8_learnsMost_120 (by decide) (fun c44 => ?_) (fun c44 => ?_)
                      · skip
                        have k45 := ci_le (nI_toInt (n := b43) (Nat.lt_of_le_of_lt hb43 (by decide))) (nI_toInt (n := q740) (by omega)) c44
                        refine lv_aload_n S.1 S.2.1 dX8_learnsMost_177 rfl (lv_at hl40 6 rfl) ?_
                        refine r_get S hK hPl24 58 (by decide) hF25 (C := RX8) (T := TX8) (N := 23) hiX8 rfl 19 (by decide) (am_at in_wsX8_learnsMost_0 2 rfl) (v := .ref (ad 68)) rfl dX8_learnsMost_178 ?_
                        refine lv_bipush (v := (nI 40)) S.1 S.2.1 dX8_learnsMost_181 (by decide +kernel) ?_
                        refine lv_iload_n S.1 S.2.1 dX8_learnsMost_183 rfl (lv_at hl40 5 rfl) ?_
                        refine lv_imul S.1 S.2.1 dX8_learnsMost_184 ?_
                        refine lv_topi (fun v46 e46 => ?_)
                        obtain rfl : v46 = nI (40 * j6) := e46.trans (pk_mul _ _)
                        refine lv_iconst (v := (nI 5)) S.1 S.2.1 dX8_learnsMost_185 (by decide +kernel) ?_
                        refine lv_iload_n S.1 S.2.1 dX8_learnsMost_186 rfl (lv_at hl40 4 rfl) ?_
                        refine lv_imul S.1 S.2.1 dX8_learnsMost_187 ?_
                        refine lv_topi (fun v47 e47 => ?_)
                        obtain rfl : v47 = nI (5 * q38) := e47.trans (pk_mul _ _)
                        refine lv_iadd S.1 S.2.1 dX8_learnsMost_188 ?_
                        refine lv_topi (fun v48 e48 => ?_)
                        obtain rfl : v48 = nI ((40 * j6) + (5 * q38)) := e48.trans (nI_add _ _)
                        refine lv_iload S.1 S.2.1 dX8_learnsMost_189 (lv_at hl40 2 rfl) ?_
                        refine lv_iadd S.1 S.2.1 dX8_learnsMost_191 ?_
                        refine lv_topi (fun v49 e49 => ?_)
                        obtain rfl : v49 = nI (((40 * j6) + (5 * q38)) + q524) := e49.trans (nI_add _ _)
                        refine lv_iload S.1 S.2.1 dX8_learnsMost_192 (lv_at hl40 1 rfl) ?_
                        obtain ⟨g50, hF50, hg50⟩ := wt_I hWl24 (show (68, 1480) ∈ rLI by decide)
                        refine r_iast S hI hK hPl24 hSl24 68 (by decide) hF50 (vp_in_nI (show ((40 * j6) + (5 * q38)) + q524 < 1480 by omega) (by omega)) dX8_learnsMost_194 (fun F51 H51 locs51 eF51 hP51 hS51 => ?_)
                        have hW51 := hWl24.up eF51 (ok_I (show (68, 1480) ∈ rLI by decide) (okI_up hg50 (pr_of (by decide))))
                        have hFr51 := hFl24.up eF51 (by simp <;> first | omega | (simp only [isC, isJ] at *; omega))
                        refine lv_iinc (v := (nI (q524 + 1))) (lv' := [(5, .int (nI (q524 + 1))), (7, .int (nI q740)), (6, .int x40_6), (4, .int r21), (3, .int (nI q38)), (2, .int (nI j6)), (0, .ref (ad 58)), (1, .int (nI n1))]) S.1 S.2.1 dX8_learnsMost_195 hl40 (k := 2) rfl (nI_add _ 1) (by decide) rfl (fun ls52 hl52 => ?_)
                        refine lv_goto (tgt := 34) S.1 S.2.1 dX8_learnsMost_198 (by decide) ?_
                        exact ih24 (q524 + 1) F51 H51 locs51 (by omega) (by omega) hW51 hFr51 hP51 hS51 ls52 (lv_sub hl52 [0, 3, 4, 5, 6, 7] rfl)
                      have k53 := ci_nle (nI_toInt (n := b43) (Nat.lt_of_le_of_lt hb43 (by decide))) (nI_toInt (n := q740) (by omega)) c44
                      refine lv_iload_n S.1 S.2.1 dX8_learnsMost_123 rfl (lv_at hl40 5 rfl) ?_
                      refine lv_iload_n S.1 S.2.1 dX8_learnsMost_124 rfl (lv_at hl40 7 rfl) ?_
                      refine lv_icmp_ge (tgt := 177) S.1 S.2.1 dX8_learnsMost_125 (by decide) (fun c54 => ?_) (fun c54 => ?_)
                      · skip
                        have k55 := ci_le (nI_toInt (n := n1) (by omega)) (nI_toInt (n := j6) (Nat.lt_of_le_of_lt hj6 (by decide))) c54
                        refine lv_aload_n S.1 S.2.1 dX8_learnsMost_177 rfl (lv_at hl40 6 rfl) ?_
                        refine r_get S hK hPl24 58 (by decide) hF25 (C := RX8) (T := TX8) (N := 23) hiX8 rfl 19 (by decide) (am_at in_wsX8_learnsMost_0 2 rfl) (v := .ref (ad 68)) rfl dX8_learnsMost_178 ?_
                        refine lv_bipush (v := (nI 40)) S.1 S.2.1 dX8_learnsMost_181 (by decide +kernel) ?_
                        refine lv_iload_n S.1 S.2.1 dX8_learnsMost_183 rfl (lv_at hl40 5 rfl) ?_
                        refine lv_imul S.1 S.2.1 dX8_learnsMost_184 ?_
                        refine lv_topi (fun v56 e56 => ?_)
                        obtain rfl : v56 = nI (40 * j6) := e56.trans (pk_mul _ _)
                        refine lv_iconst (v := (nI 5)) S.1 S.2.1 dX8_learnsMost_185 (by decide +kernel) ?_
                        refine lv_iload_n S.1 S.2.1 dX8_learnsMost_186 rfl (lv_at hl40 4 rfl) ?_
                        refine lv_imul S.1 S.2.1 dX8_learnsMost_187 ?_
                        refine lv_topi (fun v57 e57 => ?_)
                        obtain rfl : v57 = nI (5 * q38) := e57.trans (pk_mul _ _)
                        refine lv_iadd S.1 S.2.1 dX8_learnsMost_188 ?_
                        refine lv_topi (fun v58 e58 => ?_)
                        obtain rfl : v58 = nI ((40 * j6) + (5 * q38)) := e58.trans (nI_add _ _)
                        refine lv_iload S.1 S.2.1 dX8_learnsMost_189 (lv_at hl40 2 rfl) ?_
                        refine lv_iadd S.1 S.2.1 dX8_learnsMost_191 ?_
                        refine lv_topi (fun v59 e59 => ?_)
                        obtain rfl : v59 = nI (((40 * j6) + (5 * q38)) + q524) := e59.trans (nI_add _ _)
                        refine lv_iload S.1 S.2.1 dX8_learnsMost_192 (lv_at hl40 1 rfl) ?_
                        obtain ⟨g60, hF60, hg60⟩ := wt_I hWl24 (show (68, 1480) ∈ rLI by decide)
                        refine r_iast S hI hK hPl24 hSl24 68 (by decide) hF60 (vp_in_nI (show ((40 * j6) + (5 * q38)) + q524 < 1480 by omega) (by omega)) dX8_learnsMost_194 (fun F61 H61 locs61 eF61 hP61 hS61 => ?_)
                        have hW61 := hWl24.up eF61 (ok_I (show (68, 1480) ∈ rLI by decide) (okI_up hg60 (pr_of (by decide))))
                        have hFr61 := hFl24.up eF61 (by simp <;> first | omega | (simp only [isC, isJ] at *; omega))
                        refine lv_iinc (v := (nI (q524 + 1))) (lv' := [(5, .int (nI (q524 + 1))), (7, .int (nI q740)), (6, .int x40_6), (4, .int r21), (3, .int (nI q38)), (2, .int (nI j6)), (0, .ref (ad 58)), (1, .int (nI n1))]) S.1 S.2.1 dX8_learnsMost_195 hl40 (k := 2) rfl (nI_add _ 1) (by decide) rfl (fun ls62 hl62 => ?_)
                        refine lv_goto (tgt := 34) S.1 S.2.1 dX8_learnsMost_198 (by decide) ?_
                        exact ih24 (q524 + 1) F61 H61 locs61 (by omega) (by omega) hW61 hFr61 hP61 hS61 ls62 (lv_sub hl62 [0, 3, 4, 5, 6, 7] rfl)
                      have k63 := ci_nle (nI_toInt (n := n1) (by omega)) (nI_toInt (n := j6) (Nat.lt_of_le_of_lt hj6 (by decide))) c54
                      refine lv_iload S.1 S.2.1 dX8_learnsMost_128 (lv_at hl40 3 rfl) ?_
                      refine lv_iload S.1 S.2.1 dX8_learnsMost_130 (lv_at hl40 0 rfl) ?_
                      refine lv_ishr S.1 S.2.1 dX8_learnsMost_132 ?_
                      refine lv_topi (fun v64 e64 => ?_)
                      refine lv_iconst (v := (nI 1)) S.1 S.2.1 dX8_learnsMost_133 (by decide +kernel) ?_
                      refine lv_iand S.1 S.2.1 dX8_learnsMost_134 ?_
                      refine lv_topi (fun v65 e65 => ?_)
                      refine lv_iconst (v := (nI 1)) S.1 S.2.1 dX8_learnsMost_135 (by decide +kernel) ?_
                      refine lv_icmp_ne (tgt := 152) S.1 S.2.1 dX8_learnsMost_136 (by decide) (fun c66 => ?_) (fun c66 => ?_)
                      · skip
                        have k67 := ci_ne rfl (nI_toInt (n := 1) (by decide)) c66
                        refine lv_iconst (v := (-1)) S.1 S.2.1 dX8_learnsMost_152 (by decide +kernel) ?_
                        refine lv_istore (lv' := [(8, .int (-1)), (7, .int (nI q740)), (6, .int x40_6), (5, .int (nI q524)), (4, .int r21), (3, .int (nI q38)), (2, .int (nI j6)), (0, .ref (ad 58)), (1, .int (nI n1))]) S.1 S.2.1 dX8_learnsMost_153 hl40 (by decide) rfl (fun ls68 hl68 => ?_)
                        refine lv_iload S.1 S.2.1 dX8_learnsMost_155 (lv_at hl68 0 rfl) ?_
                        refine lv_iload S.1 S.2.1 dX8_learnsMost_157 (lv_at hl68 2 rfl) ?_
                        refine lv_icmp_le (tgt := 167) S.1 S.2.1 dX8_learnsMost_159 (by decide) (fun c69 => ?_) (fun c69 => ?_)
                        · skip
                          have k70 := ci_le (show ((-1) : Int32).toInt = -1 by decide +kernel) rfl c69
                          refine lv_iload S.1 S.2.1 dX8_learnsMost_167 (lv_at hl68 2 rfl) ?_
                          refine lv_istore (lv' := [(6, .int x40_6), (8, .int (-1)), (7, .int (nI q740)), (5, .int (nI q524)), (4, .int r21), (3, .int (nI q38)), (2, .int (nI j6)), (0, .ref (ad 58)), (1, .int (nI n1))]) S.1 S.2.1 dX8_learnsMost_169 hl68 (by decide) rfl (fun ls71 hl71 => ?_)
                          refine lv_iinc (v := (nI (q740 + 1))) (lv' := [(7, .int (nI (q740 + 1))), (6, .int x40_6), (8, .int (-1)), (5, .int (nI q524)), (4, .int r21), (3, .int (nI q38)), (2, .int (nI j6)), (0, .ref (ad 58)), (1, .int (nI n1))]) S.1 S.2.1 dX8_learnsMost_171 hl71 (k := 2) rfl (nI_add _ 1) (by decide) rfl (fun ls72 hl72 => ?_)
                          refine lv_goto (tgt := 112) S.1 S.2.1 dX8_learnsMost_174 (by decide) ?_
                          exact ih40 (q740 + 1) (x40_6) (by omega) (by omega) ls72 (lv_sub hl72 [0, 1, 3, 4, 5, 6, 7, 8] rfl)
                        have k73 := ci_nle (show ((-1) : Int32).toInt = -1 by decide +kernel) rfl c69
                        refine lv_iload S.1 S.2.1 dX8_learnsMost_162 (lv_at hl68 0 rfl) ?_
                        refine lv_goto (tgt := 169) S.1 S.2.1 dX8_learnsMost_164 (by decide) ?_
                        refine lv_istore (lv' := [(6, .int (-1)), (8, .int (-1)), (7, .int (nI q740)), (5, .int (nI q524)), (4, .int r21), (3, .int (nI q38)), (2, .int (nI j6)), (0, .ref (ad 58)), (1, .int (nI n1))]) S.1 S.2.1 dX8_learnsMost_169 hl68 (by decide) rfl (fun ls74 hl74 => ?_)
                        refine lv_iinc (v := (nI (q740 + 1))) (lv' := [(7, .int (nI (q740 + 1))), (6, .int (-1)), (8, .int (-1)), (5, .int (nI q524)), (4, .int r21), (3, .int (nI q38)), (2, .int (nI j6)), (0, .ref (ad 58)), (1, .int (nI n1))]) S.1 S.2.1 dX8_learnsMost_171 hl74 (k := 2) rfl (nI_add _ 1) (by decide) rfl (fun ls75 hl75 => ?_)
                        refine lv_goto (tgt := 112) S.1 S.2.1 dX8_learnsMost_174 (by decide) ?_
                        exact ih40 (q740 + 1) ((-1)) (by omega) (by omega) ls75 (lv_sub hl75 [0, 1, 3, 4, 5, 6, 7, 8] rfl)
                      have k76 := ci_eq rfl (nI_toInt (n := 1) (by decide)) c66
                      refine lv_aload_n S.1 S.2.1 dX8_learnsMost_139 rfl (lv_at hl40 6 rfl) ?_
                      refine lv_iload_n S.1 S.2.1 dX8_learnsMost_140 rfl (lv_at hl40 5 rfl) ?_
                      refine lv_iconst (v := (nI 1)) S.1 S.2.1 dX8_learnsMost_141 (by decide +kernel) ?_
                      refine lv_iadd S.1 S.2.1 dX8_learnsMost_142 ?_
                      refine lv_topi (fun v77 e77 => ?_)
                      obtain rfl : v77 = nI (j6 + 1) := e77.trans (nI_add _ _)
                      refine lv_iload S.1 S.2.1 dX8_learnsMost_143 (lv_at hl40 0 rfl) ?_
                      refine lv_iconst (v := (nI 0)) S.1 S.2.1 dX8_learnsMost_145 (by decide +kernel) ?_
                      have ta79 : ((nI q740) : Int32).toInt = ((q740 : Nat) : Int) := (nI_toInt (n := q740) (by omega))
                      refine r_cVp (As := [.int (nI (j6 + 1)), .int (nI q740), .int (nI 0)]) (rest := []) S hK hZ hPl24 hSl24 hl40.1 58 (by decide) hF25 (C := RX8) rfl (c_X8_mostAt l D cA ad t hI Fl24 hWl24 (j6 + 1) (by omega) (nI q740) (0) (by omega) (by omega) (by omega)) (cwV 3 S.2.2.2.2 gX8_learnsMost_X8_mostAt rfl rfl rfl (by decide +kernel) ⟨Nat.le_of_ble_eq_true rfl, Nat.le_of_ble_eq_true rfl⟩) rfl rfl (Nat.le_of_ble_eq_true rfl) ⟨Nat.zero_le _, Nat.zero_le _⟩ dX8_learnsMost_146 (fun r78 hr78 => ?_)
                      refine lv_goto (tgt := 153) S.1 S.2.1 dX8_learnsMost_149 (by decide) ?_
                      refine lv_istore (lv' := [(8, .int r78), (7, .int (nI q740)), (6, .int x40_6), (5, .int (nI q524)), (4, .int r21), (3, .int (nI q38)), (2, .int (nI j6)), (0, .ref (ad 58)), (1, .int (nI n1))]) S.1 S.2.1 dX8_learnsMost_153 hl40 (by decide) rfl (fun ls80 hl80 => ?_)
                      refine lv_iload S.1 S.2.1 dX8_learnsMost_155 (lv_at hl80 0 rfl) ?_
                      refine lv_iload S.1 S.2.1 dX8_learnsMost_157 (lv_at hl80 2 rfl) ?_
                      refine lv_icmp_le (tgt := 167) S.1 S.2.1 dX8_learnsMost_159 (by decide) (fun c81 => ?_) (fun c81 => ?_)
                      · skip
                        have k82 := ci_le rfl rfl c81
                        refine lv_iload S.1 S.2.1 dX8_learnsMost_167 (lv_at hl80 2 rfl) ?_
                        refine lv_istore (lv' := [(6, .int x40_6), (8, .int r78), (7, .int (nI q740)), (5, .int (nI q524)), (4, .int r21), (3, .int (nI q38)), (2, .int (nI j6)), (0, .ref (ad 58)), (1, .int (nI n1))]) S.1 S.2.1 dX8_learnsMost_169 hl80 (by decide) rfl (fun ls83 hl83 => ?_)
                        refine lv_iinc (v := (nI (q740 + 1))) (lv' := [(7, .int (nI (q740 + 1))), (6, .int x40_6), (8, .int r78), (5, .int (nI q524)), (4, .int r21), (3, .int (nI q38)), (2, .int (nI j6)), (0, .ref (ad 58)), (1, .int (nI n1))]) S.1 S.2.1 dX8_learnsMost_171 hl83 (k := 2) rfl (nI_add _ 1) (by decide) rfl (fun ls84 hl84 => ?_)
                        refine lv_goto (tgt := 112) S.1 S.2.1 dX8_learnsMost_174 (by decide) ?_
                        exact ih40 (q740 + 1) (x40_6) (by omega) (by omega) ls84 (lv_sub hl84 [0, 1, 3, 4, 5, 6, 7, 8] rfl)
                      have k85 := ci_nle rfl rfl c81
                      refine lv_iload S.1 S.2.1 dX8_learnsMost_162 (lv_at hl80 0 rfl) ?_
                      refine lv_goto (tgt := 169) S.1 S.2.1 dX8_learnsMost_164 (by decide) ?_
                      refine lv_istore (lv' := [(6, .int r78), (8, .int r78), (7, .int (nI q740)), (5, .int (nI q524)), (4, .int r21), (3, .int (nI q38)), (2, .int (nI j6)), (0, .ref (ad 58)), (1, .int (nI n1))]) S.1 S.2.1 dX8_learnsMost_169 hl80 (by decide) rfl (fun ls86 hl86 => ?_)
                      refine lv_iinc (v := (nI (q740 + 1))) (lv' := [(7, .int (nI (q740 + 1))), (6, .int r78), (8, .int r78), (5, .int (nI q524)), (4, .int r21), (3, .int (nI q38)), (2, .int (nI j6)), (0, .ref (ad 58)), (1, .int (nI n1))]) S.1 S.2.1 dX8_learnsMost_171 hl86 (k := 2) rfl (nI_add _ 1) (by decide) rfl (fun ls87 hl87 => ?_)
                      refine lv_goto (tgt := 112) S.1 S.2.1 dX8_learnsMost_174 (by decide) ?_
                      exact ih40 (q740 + 1) (r78) (by omega) (by omega) ls87 (lv_sub hl87 [0, 1, 3, 4, 5, 6, 7, 8] rfl)
                  exact lp40 (8 - (0) + 1) (0) ((-1)) (by omega) (by omega) ls39 (lv_sub hl39 [0, 1, 2, 3, 4, 5, 6, 7] rfl)
                have k88 := ci_nle (nI_toInt (n := n1) (by omega)) (nI_toInt (n := j6) (Nat.lt_of_le_of_lt hj6 (by decide))) c37
                refine lv_iload S.1 S.2.1 dX8_learnsMost_62 (lv_at hl36 1 rfl) ?_
                refine lv_aload_n S.1 S.2.1 dX8_learnsMost_64 rfl (lv_at hl36 5 rfl) ?_
                refine r_get S hK hPl24 58 (by decide) hF25 (C := RX8) (T := TX8) (N := 23) hiX8 rfl 2 (by decide) (am_at in_wsX8_learnsMost_0 0 rfl) (v := .ref (ad 60)) rfl dX8_learnsMost_65 ?_
                refine lv_iconst (v := (nI 0)) S.1 S.2.1 dX8_learnsMost_68 (by decide +kernel) ?_
                refine r_iald S hK hPl24 60 (by decide) hF26 (vp_in_nI (show 0 < 52 by omega) (by omega)) dX8_learnsMost_69 ?_
                refine lv_topi (fun v90 e90 => ?_)
                obtain rfl : v90 = nI b29 := e90.trans he29
                refine lv_icmp_ge (tgt := 109) S.1 S.2.1 dX8_learnsMost_70 (by decide) (fun c91 => ?_) (fun c91 => ?_)
                · skip
                  have k92 := ci_le (nI_toInt (n := b29) (Nat.lt_of_le_of_lt hb29 (by decide))) (nI_toInt (n := q524) (by omega)) c91
                  refine lv_iconst (v := (nI 0)) S.1 S.2.1 dX8_learnsMost_109 (by decide +kernel) ?_
                  refine lv_istore (lv' := [(7, .int (nI 0)), (6, .int (-1)), (5, .int (nI q524)), (4, .int r21), (3, .int (nI q38)), (2, .int (nI j6)), (0, .ref (ad 58)), (1, .int (nI n1))]) S.1 S.2.1 dX8_learnsMost_110 hl36 (by decide) rfl (fun ls93 hl93 => ?_)
                  have lp94 : ∀ (n94 : Nat) (q794 : Nat) (x94_6 : Int32), q794 ≤ 8 → 8 - q794 < n94 → ∀ (ls : Array Slot), lv_has ls 9 [(7, .int (nI q794)), (6, .int x94_6), (5, .int (nI q524)), (4, .int r21), (3, .int (nI q38)), (2, .int (nI j6)), (0, .ref (ad 58)), (1, .int (nI n1))] → W p l e { frames := 2, cells := 0, slots := 0, locals := 48 } s m args below meth c Hl24 lol24 0 0 Q (F0 m 112 ls []) := by
                    intro n94
                    induction n94 with
                    | zero =>
                      intro q794 x94_6 iv94_0 hm94 ls94 hl94
                      exact absurd hm94 (Nat.not_lt_zero _)
                    | succ n94 ih94 =>
                      intro q794 x94_6 iv94_0 hm94 ls94 hl94
                      refine lv_iload S.1 S.2.1 dX8_learnsMost_112 (lv_at hl94 0 rfl) ?_
                      refine lv_aload_n S.1 S.2.1 dX8_learnsMost_114 rfl (lv_at hl94 6 rfl) ?_
                      refine r_get S hK hPl24 58 (by decide) hF25 (C := RX8) (T := TX8) (N := 23) hiX8 rfl 2 (by decide) (am_at in_wsX8_learnsMost_0 0 rfl) (v := .ref (ad 60)) rfl dX8_learnsMost_115 ?_
                      refine lv_iconst (v := (nI 2)) S.1 S.2.1 dX8_learnsMost_118 (by decide +kernel) ?_
                      refine r_iald S hK hPl24 60 (by decide) hF26 (vp_in_nI (show 2 < 52 by omega) (by omega)) dX8_learnsMost_119 ?_
                      refine lv_topi (fun v96 e96 => ?_)
                      obtain ⟨b97, hb97, he97⟩ := (pr_T (by decide) (hg26 2 (by decide))).2.1 rfl
                      obtain rfl : v96 = nI b97 := e96.trans he97
                      refine lv_icmp_ge (tgt := 177) S.1 S.2.1 dX8_learnsMost_120 (by decide) (fun c98 => ?_) (fun c98 => ?_)
                      · skip
                        have k99 := ci_le (nI_toInt (n := b97) (Nat.lt_of_le_of_lt hb97 (by decide))) (nI_toInt (n := q794) (by omega)) c98
                        refine lv_aload_n S.1 S.2.1 dX8_learnsMost_177 rfl (lv_at hl94 6 rfl) ?_
                        refine r_get S hK hPl24 58 (by decide) hF25 (C := RX8) (T := TX8) (N := 23) hiX8 rfl 19 (by decide) (am_at in_wsX8_learnsMost_0 2 rfl) (v := .ref (ad 68)) rfl dX8_learnsMost_178 ?_
                        refine lv_bipush (v := (nI 40)) S.1 S.2.1 dX8_learnsMost_181 (by decide +kernel) ?_
                        refine lv_iload_n S.1 S.2.1 dX8_learnsMost_183 rfl (lv_at hl94 5 rfl) ?_
                        refine lv_imul S.1 S.2.1 dX8_learnsMost_184 ?_
                        refine lv_topi (fun v100 e100 => ?_)
                        obtain rfl : v100 = nI (40 * j6) := e100.trans (pk_mul _ _)
                        refine lv_iconst (v := (nI 5)) S.1 S.2.1 dX8_learnsMost_185 (by decide +kernel) ?_
                        refine lv_iload_n S.1 S.2.1 dX8_learnsMost_186 rfl (lv_at hl94 4 rfl) ?_
                        refine lv_imul S.1 S.2.1 dX8_learnsMost_187 ?_
                        refine lv_topi (fun v101 e101 => ?_)
                        obtain rfl : v101 = nI (5 * q38) := e101.trans (pk_mul _ _)
                        refine lv_iadd S.1 S.2.1 dX8_learnsMost_188 ?_
                        refine lv_topi (fun v102 e102 => ?_)
                        obtain rfl : v102 = nI ((40 * j6) + (5 * q38)) := e102.trans (nI_add _ _)
                        refine lv_iload S.1 S.2.1 dX8_learnsMost_189 (lv_at hl94 2 rfl) ?_
                        refine lv_iadd S.1 S.2.1 dX8_learnsMost_191 ?_
                        refine lv_topi (fun v103 e103 => ?_)
                        obtain rfl : v103 = nI (((40 * j6) + (5 * q38)) + q524) := e103.trans (nI_add _ _)
                        refine lv_iload S.1 S.2.1 dX8_learnsMost_192 (lv_at hl94 1 rfl) ?_
                        obtain ⟨g104, hF104, hg104⟩ := wt_I hWl24 (show (68, 1480) ∈ rLI by decide)
                        refine r_iast S hI hK hPl24 hSl24 68 (by decide) hF104 (vp_in_nI (show ((40 * j6) + (5 * q38)) + q524 < 1480 by omega) (by omega)) dX8_learnsMost_194 (fun F105 H105 locs105 eF105 hP105 hS105 => ?_)
                        have hW105 := hWl24.up eF105 (ok_I (show (68, 1480) ∈ rLI by decide) (okI_up hg104 (pr_of (by decide))))
                        have hFr105 := hFl24.up eF105 (by simp <;> first | omega | (simp only [isC, isJ] at *; omega))
                        refine lv_iinc (v := (nI (q524 + 1))) (lv' := [(5, .int (nI (q524 + 1))), (7, .int (nI q794)), (6, .int x94_6), (4, .int r21), (3, .int (nI q38)), (2, .int (nI j6)), (0, .ref (ad 58)), (1, .int (nI n1))]) S.1 S.2.1 dX8_learnsMost_195 hl94 (k := 2) rfl (nI_add _ 1) (by decide) rfl (fun ls106 hl106 => ?_)
                        refine lv_goto (tgt := 34) S.1 S.2.1 dX8_learnsMost_198 (by decide) ?_
                        exact ih24 (q524 + 1) F105 H105 locs105 (by omega) (by omega) hW105 hFr105 hP105 hS105 ls106 (lv_sub hl106 [0, 3, 4, 5, 6, 7] rfl)
                      have k107 := ci_nle (nI_toInt (n := b97) (Nat.lt_of_le_of_lt hb97 (by decide))) (nI_toInt (n := q794) (by omega)) c98
                      refine lv_iload_n S.1 S.2.1 dX8_learnsMost_123 rfl (lv_at hl94 5 rfl) ?_
                      refine lv_iload_n S.1 S.2.1 dX8_learnsMost_124 rfl (lv_at hl94 7 rfl) ?_
                      refine lv_icmp_ge (tgt := 177) S.1 S.2.1 dX8_learnsMost_125 (by decide) (fun c108 => ?_) (fun c108 => ?_)
                      · skip
                        have k109 := ci_le (nI_toInt (n := n1) (by omega)) (nI_toInt (n := j6) (Nat.lt_of_le_of_lt hj6 (by decide))) c108
                        refine lv_aload_n S.1 S.2.1 dX8_learnsMost_177 rfl (lv_at hl94 6 rfl) ?_
                        refine r_get S hK hPl24 58 (by decide) hF25 (C := RX8) (T := TX8) (N := 23) hiX8 rfl 19 (by decide) (am_at in_wsX8_learnsMost_0 2 rfl) (v := .ref (ad 68)) rfl dX8_learnsMost_178 ?_
                        refine lv_bipush (v := (nI 40)) S.1 S.2.1 dX8_learnsMost_181 (by decide +kernel) ?_
                        refine lv_iload_n S.1 S.2.1 dX8_learnsMost_183 rfl (lv_at hl94 5 rfl) ?_
                        refine lv_imul S.1 S.2.1 dX8_learnsMost_184 ?_
                        refine lv_topi (fun v110 e110 => ?_)
                        obtain rfl : v110 = nI (40 * j6) := e110.trans (pk_mul _ _)
                        refine lv_iconst (v := (nI 5)) S.1 S.2.1 dX8_learnsMost_185 (by decide +kernel) ?_
                        refine lv_iload_n S.1 S.2.1 dX8_learnsMost_186 rfl (lv_at hl94 4 rfl) ?_
                        refine lv_imul S.1 S.2.1 dX8_learnsMost_187 ?_
                        refine lv_topi (fun v111 e111 => ?_)
                        obtain rfl : v111 = nI (5 * q38) := e111.trans (pk_mul _ _)
                        refine lv_iadd S.1 S.2.1 dX8_learnsMost_188 ?_
                        refine lv_topi (fun v112 e112 => ?_)
                        obtain rfl : v112 = nI ((40 * j6) + (5 * q38)) := e112.trans (nI_add _ _)
                        refine lv_iload S.1 S.2.1 dX8_learnsMost_189 (lv_at hl94 2 rfl) ?_
                        refine lv_iadd S.1 S.2.1 dX8_learnsMost_191 ?_
                        refine lv_topi (fun v113 e113 => ?_)
                        obtain rfl : v113 = nI (((40 * j6) + (5 * q38)) + q524) := e113.trans (nI_add _ _)
                        refine lv_iload S.1 S.2.1 dX8_learnsMost_192 (lv_at hl94 1 rfl) ?_
                        obtain ⟨g114, hF114, hg114⟩ := wt_I hWl24 (show (68, 1480) ∈ rLI by decide)
                        refine r_iast S hI hK hPl24 hSl24 68 (by decide) hF114 (vp_in_nI (show ((40 * j6) + (5 * q38)) + q524 < 1480 by omega) (by omega)) dX8_learnsMost_194 (fun F115 H115 locs115 eF115 hP115 hS115 => ?_)
                        have hW115 := hWl24.up eF115 (ok_I (show (68, 1480) ∈ rLI by decide) (okI_up hg114 (pr_of (by decide))))
                        have hFr115 := hFl24.up eF115 (by simp <;> first | omega | (simp only [isC, isJ] at *; omega))
                        refine lv_iinc (v := (nI (q524 + 1))) (lv' := [(5, .int (nI (q524 + 1))), (7, .int (nI q794)), (6, .int x94_6), (4, .int r21), (3, .int (nI q38)), (2, .int (nI j6)), (0, .ref (ad 58)), (1, .int (nI n1))]) S.1 S.2.1 dX8_learnsMost_195 hl94 (k := 2) rfl (nI_add _ 1) (by decide) rfl (fun ls116 hl116 => ?_)
                        refine lv_goto (tgt := 34) S.1 S.2.1 dX8_learnsMost_198 (by decide) ?_
                        exact ih24 (q524 + 1) F115 H115 locs115 (by omega) (by omega) hW115 hFr115 hP115 hS115 ls116 (lv_sub hl116 [0, 3, 4, 5, 6, 7] rfl)
                      have k117 := ci_nle (nI_toInt (n := n1) (by omega)) (nI_toInt (n := j6) (Nat.lt_of_le_of_lt hj6 (by decide))) c108
                      refine lv_iload S.1 S.2.1 dX8_learnsMost_128 (lv_at hl94 3 rfl) ?_
                      refine lv_iload S.1 S.2.1 dX8_learnsMost_130 (lv_at hl94 0 rfl) ?_
                      refine lv_ishr S.1 S.2.1 dX8_learnsMost_132 ?_
                      refine lv_topi (fun v118 e118 => ?_)
                      refine lv_iconst (v := (nI 1)) S.1 S.2.1 dX8_learnsMost_133 (by decide +kernel) ?_
                      refine lv_iand S.1 S.2.1 dX8_learnsMost_134 ?_
                      refine lv_topi (fun v119 e119 => ?_)
                      refine lv_iconst (v := (nI 1)) S.1 S.2.1 dX8_learnsMost_135 (by decide +kernel) ?_
                      refine lv_icmp_ne (tgt := 152) S.1 S.2.1 dX8_learnsMost_136 (by decide) (fun c120 => ?_) (fun c120 => ?_)
                      · skip
                        have k121 := ci_ne rfl (nI_toInt (n := 1) (by decide)) c120
                        refine lv_iconst (v := (-1)) S.1 S.2.1 dX8_learnsMost_152 (by decide +kernel) ?_
                        refine lv_istore (lv' := [(8, .int (-1)), (7, .int (nI q794)), (6, .int x94_6), (5, .int (nI q524)), (4, .int r21), (3, .int (nI q38)), (2, .int (nI j6)), (0, .ref (ad 58)), (1, .int (nI n1))]) S.1 S.2.1 dX8_learnsMost_153 hl94 (by decide) rfl (fun ls122 hl122 => ?_)
                        refine lv_iload S.1 S.2.1 dX8_learnsMost_155 (lv_at hl122 0 rfl) ?_
                        refine lv_iload S.1 S.2.1 dX8_learnsMost_157 (lv_at hl122 2 rfl) ?_
                        refine lv_icmp_le (tgt := 167) S.1 S.2.1 dX8_learnsMost_159 (by decide) (fun c123 => ?_) (fun c123 => ?_)
                        · skip
                          have k124 := ci_le (show ((-1) : Int32).toInt = -1 by decide +kernel) rfl c123
                          refine lv_iload S.1 S.2.1 dX8_learnsMost_167 (lv_at hl122 2 rfl) ?_
                          refine lv_istore (lv' := [(6, .int x94_6), (8, .int (-1)), (7, .int (nI q794)), (5, .int (nI q524)), (4, .int r21), (3, .int (nI q38)), (2, .int (nI j6)), (0, .ref (ad 58)), (1, .int (nI n1))]) S.1 S.2.1 dX8_learnsMost_169 hl122 (by decide) rfl (fun ls125 hl125 => ?_)
                          refine lv_iinc (v := (nI (q794 + 1))) (lv' := [(7, .int (nI (q794 + 1))), (6, .int x94_6), (8, .int (-1)), (5, .int (nI q524)), (4, .int r21), (3, .int (nI q38)), (2, .int (nI j6)), (0, .ref (ad 58)), (1, .int (nI n1))]) S.1 S.2.1 dX8_learnsMost_171 hl125 (k := 2) rfl (nI_add _ 1) (by decide) rfl (fun ls126 hl126 => ?_)
                          refine lv_goto (tgt := 112) S.1 S.2.1 dX8_learnsMost_174 (by decide) ?_
                          exact ih94 (q794 + 1) (x94_6) (by omega) (by omega) ls126 (lv_sub hl126 [0, 1, 3, 4, 5, 6, 7, 8] rfl)
                        have k127 := ci_nle (show ((-1) : Int32).toInt = -1 by decide +kernel) rfl c123
                        refine lv_iload S.1 S.2.1 dX8_learnsMost_162 (lv_at hl122 0 rfl) ?_
                        refine lv_goto (tgt := 169) S.1 S.2.1 dX8_learnsMost_164 (by decide) ?_
                        refine lv_istore (lv' := [(6, .int (-1)), (8, .int (-1)), (7, .int (nI q794)), (5, .int (nI q524)), (4, .int r21), (3, .int (nI q38)), (2, .int (nI j6)), (0, .ref (ad 58)), (1, .int (nI n1))]) S.1 S.2.1 dX8_learnsMost_169 hl122 (by decide) rfl (fun ls128 hl128 => ?_)
                        refine lv_iinc (v := (nI (q794 + 1))) (lv' := [(7, .int (nI (q794 + 1))), (6, .int (-1)), (8, .int (-1)), (5, .int (nI q524)), (4, .int r21), (3, .int (nI q38)), (2, .int (nI j6)), (0, .ref (ad 58)), (1, .int (nI n1))]) S.1 S.2.1 dX8_learnsMost_171 hl128 (k := 2) rfl (nI_add _ 1) (by decide) rfl (fun ls129 hl129 => ?_)
                        refine lv_goto (tgt := 112) S.1 S.2.1 dX8_learnsMost_174 (by decide) ?_
                        exact ih94 (q794 + 1) ((-1)) (by omega) (by omega) ls129 (lv_sub hl129 [0, 1, 3, 4, 5, 6, 7, 8] rfl)
                      have k130 := ci_eq rfl (nI_toInt (n := 1) (by decide)) c120
                      refine lv_aload_n S.1 S.2.1 dX8_learnsMost_139 rfl (lv_at hl94 6 rfl) ?_
                      refine lv_iload_n S.1 S.2.1 dX8_learnsMost_140 rfl (lv_at hl94 5 rfl) ?_
                      refine lv_iconst (v := (nI 1)) S.1 S.2.1 dX8_learnsMost_141 (by decide +kernel) ?_
                      refine lv_iadd S.1 S.2.1 dX8_learnsMost_142 ?_
                      refine lv_topi (fun v131 e131 => ?_)
                      obtain rfl : v131 = nI (j6 + 1) := e131.trans (nI_add _ _)
                      refine lv_iload S.1 S.2.1 dX8_learnsMost_143 (lv_at hl94 0 rfl) ?_
                      refine lv_iconst (v := (nI 0)) S.1 S.2.1 dX8_learnsMost_145 (by decide +kernel) ?_
                      have ta133 : ((nI q794) : Int32).toInt = ((q794 : Nat) : Int) := (nI_toInt (n := q794) (by omega))
                      refine r_cVp (As := [.int (nI (j6 + 1)), .int (nI q794), .int (nI 0)]) (rest := []) S hK hZ hPl24 hSl24 hl94.1 58 (by decide) hF25 (C := RX8) rfl (c_X8_mostAt l D cA ad t hI Fl24 hWl24 (j6 + 1) (by omega) (nI q794) (0) (by omega) (by omega) (by omega)) (cwV 3 S.2.2.2.2 gX8_learnsMost_X8_mostAt rfl rfl rfl (by decide +kernel) ⟨Nat.le_of_ble_eq_true rfl, Nat.le_of_ble_eq_true rfl⟩) rfl rfl (Nat.le_of_ble_eq_true rfl) ⟨Nat.zero_le _, Nat.zero_le _⟩ dX8_learnsMost_146 (fun r132 hr132 => ?_)
                      refine lv_goto (tgt := 153) S.1 S.2.1 dX8_learnsMost_149 (by decide) ?_
                      refine lv_istore (lv' := [(8, .int r132), (7, .int (nI q794)), (6, .int x94_6), (5, .int (nI q524)), (4, .int r21), (3, .int (nI q38)), (2, .int (nI j6)), (0, .ref (ad 58)), (1, .int (nI n1))]) S.1 S.2.1 dX8_learnsMost_153 hl94 (by decide) rfl (fun ls134 hl134 => ?_)
                      refine lv_iload S.1 S.2.1 dX8_learnsMost_155 (lv_at hl134 0 rfl) ?_
                      refine lv_iload S.1 S.2.1 dX8_learnsMost_157 (lv_at hl134 2 rfl) ?_
                      refine lv_icmp_le (tgt := 167) S.1 S.2.1 dX8_learnsMost_159 (by decide) (fun c135 => ?_) (fun c135 => ?_)
                      · skip
                        have k136 := ci_le rfl rfl c135
                        refine lv_iload S.1 S.2.1 dX8_learnsMost_167 (lv_at hl134 2 rfl) ?_
                        refine lv_istore (lv' := [(6, .int x94_6), (8, .int r132), (7, .int (nI q794)), (5, .int (nI q524)), (4, .int r21), (3, .int (nI q38)), (2, .int (nI j6)), (0, .ref (ad 58)), (1, .int (nI n1))]) S.1 S.2.1 dX8_learnsMost_169 hl134 (by decide) rfl (fun ls137 hl137 => ?_)
                        refine lv_iinc (v := (nI (q794 + 1))) (lv' := [(7, .int (nI (q794 + 1))), (6, .int x94_6), (8, .int r132), (5, .int (nI q524)), (4, .int r21), (3, .int (nI q38)), (2, .int (nI j6)), (0, .ref (ad 58)), (1, .int (nI n1))]) S.1 S.2.1 dX8_learnsMost_171 hl137 (k := 2) rfl (nI_add _ 1) (by decide) rfl (fun ls138 hl138 => ?_)
                        refine lv_goto (tgt := 112) S.1 S.2.1 dX8_learnsMost_174 (by decide) ?_
                        exact ih94 (q794 + 1) (x94_6) (by omega) (by omega) ls138 (lv_sub hl138 [0, 1, 3, 4, 5, 6, 7, 8] rfl)
                      have k139 := ci_nle rfl rfl c135
                      refine lv_iload S.1 S.2.1 dX8_learnsMost_162 (lv_at hl134 0 rfl) ?_
                      refine lv_goto (tgt := 169) S.1 S.2.1 dX8_learnsMost_164 (by decide) ?_
                      refine lv_istore (lv' := [(6, .int r132), (8, .int r132), (7, .int (nI q794)), (5, .int (nI q524)), (4, .int r21), (3, .int (nI q38)), (2, .int (nI j6)), (0, .ref (ad 58)), (1, .int (nI n1))]) S.1 S.2.1 dX8_learnsMost_169 hl134 (by decide) rfl (fun ls140 hl140 => ?_)
                      refine lv_iinc (v := (nI (q794 + 1))) (lv' := [(7, .int (nI (q794 + 1))), (6, .int r132), (8, .int r132), (5, .int (nI q524)), (4, .int r21), (3, .int (nI q38)), (2, .int (nI j6)), (0, .ref (ad 58)), (1, .int (nI n1))]) S.1 S.2.1 dX8_learnsMost_171 hl140 (k := 2) rfl (nI_add _ 1) (by decide) rfl (fun ls141 hl141 => ?_)
                      refine lv_goto (tgt := 112) S.1 S.2.1 dX8_learnsMost_174 (by decide) ?_
                      exact ih94 (q794 + 1) (r132) (by omega) (by omega) ls141 (lv_sub hl141 [0, 1, 3, 4, 5, 6, 7, 8] rfl)
                  exact lp94 (8 - (0) + 1) (0) ((-1)) (by omega) (by omega) ls93 (lv_sub hl93 [0, 1, 2, 3, 4, 5, 6, 7] rfl)
                have k142 := ci_nle (nI_toInt (n := b29) (Nat.lt_of_le_of_lt hb29 (by decide))) (nI_toInt (n := q524) (by omega)) c91
                refine lv_aload_n S.1 S.2.1 dX8_learnsMost_73 rfl (lv_at hl36 5 rfl) ?_
                refine lv_iload_n S.1 S.2.1 dX8_learnsMost_74 rfl (lv_at hl36 4 rfl) ?_
                refine lv_iconst (v := (nI 1)) S.1 S.2.1 dX8_learnsMost_75 (by decide +kernel) ?_
                refine lv_iadd S.1 S.2.1 dX8_learnsMost_76 ?_
                refine lv_topi (fun v143 e143 => ?_)
                obtain rfl : v143 = nI (j6 + 1) := e143.trans (nI_add _ _)
                refine lv_iload_n S.1 S.2.1 dX8_learnsMost_77 rfl (lv_at hl36 3 rfl) ?_
                refine lv_iload S.1 S.2.1 dX8_learnsMost_78 (lv_at hl36 1 rfl) ?_
                refine lv_iconst (v := (nI 1)) S.1 S.2.1 dX8_learnsMost_80 (by decide +kernel) ?_
                refine lv_iadd S.1 S.2.1 dX8_learnsMost_81 ?_
                refine lv_topi (fun v144 e144 => ?_)
                obtain rfl : v144 = nI (q524 + 1) := e144.trans (nI_add _ _)
                have ta146 : ((nI q38) : Int32).toInt = ((q38 : Nat) : Int) := (nI_toInt (n := q38) (by omega))
                refine r_cVp (As := [.int (nI (j6 + 1)), .int (nI q38), .int (nI (q524 + 1))]) (rest := []) S hK hZ hPl24 hSl24 hl36.1 58 (by decide) hF25 (C := RX8) rfl (c_X8_mostAt l D cA ad t hI Fl24 hWl24 (j6 + 1) (by omega) (nI q38) (q524 + 1) (by omega) (by omega) (by omega)) (cwV 3 S.2.2.2.2 gX8_learnsMost_X8_mostAt rfl rfl rfl (by decide +kernel) ⟨Nat.le_of_ble_eq_true rfl, Nat.le_of_ble_eq_true rfl⟩) rfl rfl (Nat.le_of_ble_eq_true rfl) ⟨Nat.zero_le _, Nat.zero_le _⟩ dX8_learnsMost_82 (fun r145 hr145 => ?_)
                refine lv_if_lt (tgt := 109) S.1 S.2.1 dX8_learnsMost_85 (by decide) (fun c147 => ?_) (fun c147 => ?_)
                · skip
                  have k148 := ci_lt rfl z_ti c147
                  refine lv_iconst (v := (nI 0)) S.1 S.2.1 dX8_learnsMost_109 (by decide +kernel) ?_
                  refine lv_istore (lv' := [(7, .int (nI 0)), (6, .int (-1)), (5, .int (nI q524)), (4, .int r21), (3, .int (nI q38)), (2, .int (nI j6)), (0, .ref (ad 58)), (1, .int (nI n1))]) S.1 S.2.1 dX8_learnsMost_110 hl36 (by decide) rfl (fun ls149 hl149 => ?_)
                  have lp150 : ∀ (n150 : Nat) (q7150 : Nat) (x150_6 : Int32), q7150 ≤ 8 → 8 - q7150 < n150 → ∀ (ls : Array Slot), lv_has ls 9 [(7, .int (nI q7150)), (6, .int x150_6), (5, .int (nI q524)), (4, .int r21), (3, .int (nI q38)), (2, .int (nI j6)), (0, .ref (ad 58)), (1, .int (nI n1))] → W p l e { frames := 2, cells := 0, slots := 0, locals := 48 } s m args below meth c Hl24 lol24 0 0 Q (F0 m 112 ls []) := by
                    intro n150
                    induction n150 with
                    | zero =>
                      intro q7150 x150_6 iv150_0 hm150 ls150 hl150
                      exact absurd hm150 (Nat.not_lt_zero _)
                    | succ n150 ih150 =>
                      intro q7150 x150_6 iv150_0 hm150 ls150 hl150
                      refine lv_iload S.1 S.2.1 dX8_learnsMost_112 (lv_at hl150 0 rfl) ?_
                      refine lv_aload_n S.1 S.2.1 dX8_learnsMost_114 rfl (lv_at hl150 6 rfl) ?_
                      refine r_get S hK hPl24 58 (by decide) hF25 (C := RX8) (T := TX8) (N := 23) hiX8 rfl 2 (by decide) (am_at in_wsX8_learnsMost_0 0 rfl) (v := .ref (ad 60)) rfl dX8_learnsMost_115 ?_
                      refine lv_iconst (v := (nI 2)) S.1 S.2.1 dX8_learnsMost_118 (by decide +kernel) ?_
                      refine r_iald S hK hPl24 60 (by decide) hF26 (vp_in_nI (show 2 < 52 by omega) (by omega)) dX8_learnsMost_119 ?_
                      refine lv_topi (fun v152 e152 => ?_)
                      obtain ⟨b153, hb153, he153⟩ := (pr_T (by decide) (hg26 2 (by decide))).2.1 rfl
                      obtain rfl : v152 = nI b153 := e152.trans he153
                      refine lv_icmp_ge (tgt := 177) S.1 S.2.1 dX8_learnsMost_120 (by decide) (fun c154 => ?_) (fun c154 => ?_)
                      · skip
                        have k155 := ci_le (nI_toInt (n := b153) (Nat.lt_of_le_of_lt hb153 (by decide))) (nI_toInt (n := q7150) (by omega)) c154
                        refine lv_aload_n S.1 S.2.1 dX8_learnsMost_177 rfl (lv_at hl150 6 rfl) ?_
                        refine r_get S hK hPl24 58 (by decide) hF25 (C := RX8) (T := TX8) (N := 23) hiX8 rfl 19 (by decide) (am_at in_wsX8_learnsMost_0 2 rfl) (v := .ref (ad 68)) rfl dX8_learnsMost_178 ?_
                        refine lv_bipush (v := (nI 40)) S.1 S.2.1 dX8_learnsMost_181 (by decide +kernel) ?_
                        refine lv_iload_n S.1 S.2.1 dX8_learnsMost_183 rfl (lv_at hl150 5 rfl) ?_
                        refine lv_imul S.1 S.2.1 dX8_learnsMost_184 ?_
                        refine lv_topi (fun v156 e156 => ?_)
                        obtain rfl : v156 = nI (40 * j6) := e156.trans (pk_mul _ _)
                        refine lv_iconst (v := (nI 5)) S.1 S.2.1 dX8_learnsMost_185 (by decide +kernel) ?_
                        refine lv_iload_n S.1 S.2.1 dX8_learnsMost_186 rfl (lv_at hl150 4 rfl) ?_
                        refine lv_imul S.1 S.2.1 dX8_learnsMost_187 ?_
                        refine lv_topi (fun v157 e157 => ?_)
                        obtain rfl : v157 = nI (5 * q38) := e157.trans (pk_mul _ _)
                        refine lv_iadd S.1 S.2.1 dX8_learnsMost_188 ?_
                        refine lv_topi (fun v158 e158 => ?_)
                        obtain rfl : v158 = nI ((40 * j6) + (5 * q38)) := e158.trans (nI_add _ _)
                        refine lv_iload S.1 S.2.1 dX8_learnsMost_189 (lv_at hl150 2 rfl) ?_
                        refine lv_iadd S.1 S.2.1 dX8_learnsMost_191 ?_
                        refine lv_topi (fun v159 e159 => ?_)
                        obtain rfl : v159 = nI (((40 * j6) + (5 * q38)) + q524) := e159.trans (nI_add _ _)
                        refine lv_iload S.1 S.2.1 dX8_learnsMost_192 (lv_at hl150 1 rfl) ?_
                        obtain ⟨g160, hF160, hg160⟩ := wt_I hWl24 (show (68, 1480) ∈ rLI by decide)
                        refine r_iast S hI hK hPl24 hSl24 68 (by decide) hF160 (vp_in_nI (show ((40 * j6) + (5 * q38)) + q524 < 1480 by omega) (by omega)) dX8_learnsMost_194 (fun F161 H161 locs161 eF161 hP161 hS161 => ?_)
                        have hW161 := hWl24.up eF161 (ok_I (show (68, 1480) ∈ rLI by decide) (okI_up hg160 (pr_of (by decide))))
                        have hFr161 := hFl24.up eF161 (by simp <;> first | omega | (simp only [isC, isJ] at *; omega))
                        refine lv_iinc (v := (nI (q524 + 1))) (lv' := [(5, .int (nI (q524 + 1))), (7, .int (nI q7150)), (6, .int x150_6), (4, .int r21), (3, .int (nI q38)), (2, .int (nI j6)), (0, .ref (ad 58)), (1, .int (nI n1))]) S.1 S.2.1 dX8_learnsMost_195 hl150 (k := 2) rfl (nI_add _ 1) (by decide) rfl (fun ls162 hl162 => ?_)
                        refine lv_goto (tgt := 34) S.1 S.2.1 dX8_learnsMost_198 (by decide) ?_
                        exact ih24 (q524 + 1) F161 H161 locs161 (by omega) (by omega) hW161 hFr161 hP161 hS161 ls162 (lv_sub hl162 [0, 3, 4, 5, 6, 7] rfl)
                      have k163 := ci_nle (nI_toInt (n := b153) (Nat.lt_of_le_of_lt hb153 (by decide))) (nI_toInt (n := q7150) (by omega)) c154
                      refine lv_iload_n S.1 S.2.1 dX8_learnsMost_123 rfl (lv_at hl150 5 rfl) ?_
                      refine lv_iload_n S.1 S.2.1 dX8_learnsMost_124 rfl (lv_at hl150 7 rfl) ?_
                      refine lv_icmp_ge (tgt := 177) S.1 S.2.1 dX8_learnsMost_125 (by decide) (fun c164 => ?_) (fun c164 => ?_)
                      · skip
                        have k165 := ci_le (nI_toInt (n := n1) (by omega)) (nI_toInt (n := j6) (Nat.lt_of_le_of_lt hj6 (by decide))) c164
                        refine lv_aload_n S.1 S.2.1 dX8_learnsMost_177 rfl (lv_at hl150 6 rfl) ?_
                        refine r_get S hK hPl24 58 (by decide) hF25 (C := RX8) (T := TX8) (N := 23) hiX8 rfl 19 (by decide) (am_at in_wsX8_learnsMost_0 2 rfl) (v := .ref (ad 68)) rfl dX8_learnsMost_178 ?_
                        refine lv_bipush (v := (nI 40)) S.1 S.2.1 dX8_learnsMost_181 (by decide +kernel) ?_
                        refine lv_iload_n S.1 S.2.1 dX8_learnsMost_183 rfl (lv_at hl150 5 rfl) ?_
                        refine lv_imul S.1 S.2.1 dX8_learnsMost_184 ?_
                        refine lv_topi (fun v166 e166 => ?_)
                        obtain rfl : v166 = nI (40 * j6) := e166.trans (pk_mul _ _)
                        refine lv_iconst (v := (nI 5)) S.1 S.2.1 dX8_learnsMost_185 (by decide +kernel) ?_
                        refine lv_iload_n S.1 S.2.1 dX8_learnsMost_186 rfl (lv_at hl150 4 rfl) ?_
                        refine lv_imul S.1 S.2.1 dX8_learnsMost_187 ?_
                        refine lv_topi (fun v167 e167 => ?_)
                        obtain rfl : v167 = nI (5 * q38) := e167.trans (pk_mul _ _)
                        refine lv_iadd S.1 S.2.1 dX8_learnsMost_188 ?_
                        refine lv_topi (fun v168 e168 => ?_)
                        obtain rfl : v168 = nI ((40 * j6) + (5 * q38)) := e168.trans (nI_add _ _)
                        refine lv_iload S.1 S.2.1 dX8_learnsMost_189 (lv_at hl150 2 rfl) ?_
                        refine lv_iadd S.1 S.2.1 dX8_learnsMost_191 ?_
                        refine lv_topi (fun v169 e169 => ?_)
                        obtain rfl : v169 = nI (((40 * j6) + (5 * q38)) + q524) := e169.trans (nI_add _ _)
                        refine lv_iload S.1 S.2.1 dX8_learnsMost_192 (lv_at hl150 1 rfl) ?_
                        obtain ⟨g170, hF170, hg170⟩ := wt_I hWl24 (show (68, 1480) ∈ rLI by decide)
                        refine r_iast S hI hK hPl24 hSl24 68 (by decide) hF170 (vp_in_nI (show ((40 * j6) + (5 * q38)) + q524 < 1480 by omega) (by omega)) dX8_learnsMost_194 (fun F171 H171 locs171 eF171 hP171 hS171 => ?_)
                        have hW171 := hWl24.up eF171 (ok_I (show (68, 1480) ∈ rLI by decide) (okI_up hg170 (pr_of (by decide))))
                        have hFr171 := hFl24.up eF171 (by simp <;> first | omega | (simp only [isC, isJ] at *; omega))
                        refine lv_iinc (v := (nI (q524 + 1))) (lv' := [(5, .int (nI (q524 + 1))), (7, .int (nI q7150)), (6, .int x150_6), (4, .int r21), (3, .int (nI q38)), (2, .int (nI j6)), (0, .ref (ad 58)), (1, .int (nI n1))]) S.1 S.2.1 dX8_learnsMost_195 hl150 (k := 2) rfl (nI_add _ 1) (by decide) rfl (fun ls172 hl172 => ?_)
                        refine lv_goto (tgt := 34) S.1 S.2.1 dX8_learnsMost_198 (by decide) ?_
                        exact ih24 (q524 + 1) F171 H171 locs171 (by omega) (by omega) hW171 hFr171 hP171 hS171 ls172 (lv_sub hl172 [0, 3, 4, 5, 6, 7] rfl)
                      have k173 := ci_nle (nI_toInt (n := n1) (by omega)) (nI_toInt (n := j6) (Nat.lt_of_le_of_lt hj6 (by decide))) c164
                      refine lv_iload S.1 S.2.1 dX8_learnsMost_128 (lv_at hl150 3 rfl) ?_
                      refine lv_iload S.1 S.2.1 dX8_learnsMost_130 (lv_at hl150 0 rfl) ?_
                      refine lv_ishr S.1 S.2.1 dX8_learnsMost_132 ?_
                      refine lv_topi (fun v174 e174 => ?_)
                      refine lv_iconst (v := (nI 1)) S.1 S.2.1 dX8_learnsMost_133 (by decide +kernel) ?_
                      refine lv_iand S.1 S.2.1 dX8_learnsMost_134 ?_
                      refine lv_topi (fun v175 e175 => ?_)
                      refine lv_iconst (v := (nI 1)) S.1 S.2.1 dX8_learnsMost_135 (by decide +kernel) ?_
                      refine lv_icmp_ne (tgt := 152) S.1 S.2.1 dX8_learnsMost_136 (by decide) (fun c176 => ?_) (fun c176 => ?_)
                      · skip
                        have k177 := ci_ne rfl (nI_toInt (n := 1) (by decide)) c176
                        refine lv_iconst (v := (-1)) S.1 S.2.1 dX8_learnsMost_152 (by decide +kernel) ?_
                        refine lv_istore (lv' := [(8, .int (-1)), (7, .int (nI q7150)), (6, .int x150_6), (5, .int (nI q524)), (4, .int r21), (3, .int (nI q38)), (2, .int (nI j6)), (0, .ref (ad 58)), (1, .int (nI n1))]) S.1 S.2.1 dX8_learnsMost_153 hl150 (by decide) rfl (fun ls178 hl178 => ?_)
                        refine lv_iload S.1 S.2.1 dX8_learnsMost_155 (lv_at hl178 0 rfl) ?_
                        refine lv_iload S.1 S.2.1 dX8_learnsMost_157 (lv_at hl178 2 rfl) ?_
                        refine lv_icmp_le (tgt := 167) S.1 S.2.1 dX8_learnsMost_159 (by decide) (fun c179 => ?_) (fun c179 => ?_)
                        · skip
                          have k180 := ci_le (show ((-1) : Int32).toInt = -1 by decide +kernel) rfl c179
                          refine lv_iload S.1 S.2.1 dX8_learnsMost_167 (lv_at hl178 2 rfl) ?_
                          refine lv_istore (lv' := [(6, .int x150_6), (8, .int (-1)), (7, .int (nI q7150)), (5, .int (nI q524)), (4, .int r21), (3, .int (nI q38)), (2, .int (nI j6)), (0, .ref (ad 58)), (1, .int (nI n1))]) S.1 S.2.1 dX8_learnsMost_169 hl178 (by decide) rfl (fun ls181 hl181 => ?_)
                          refine lv_iinc (v := (nI (q7150 + 1))) (lv' := [(7, .int (nI (q7150 + 1))), (6, .int x150_6), (8, .int (-1)), (5, .int (nI q524)), (4, .int r21), (3, .int (nI q38)), (2, .int (nI j6)), (0, .ref (ad 58)), (1, .int (nI n1))]) S.1 S.2.1 dX8_learnsMost_171 hl181 (k := 2) rfl (nI_add _ 1) (by decide) rfl (fun ls182 hl182 => ?_)
                          refine lv_goto (tgt := 112) S.1 S.2.1 dX8_learnsMost_174 (by decide) ?_
                          exact ih150 (q7150 + 1) (x150_6) (by omega) (by omega) ls182 (lv_sub hl182 [0, 1, 3, 4, 5, 6, 7, 8] rfl)
                        have k183 := ci_nle (show ((-1) : Int32).toInt = -1 by decide +kernel) rfl c179
                        refine lv_iload S.1 S.2.1 dX8_learnsMost_162 (lv_at hl178 0 rfl) ?_
                        refine lv_goto (tgt := 169) S.1 S.2.1 dX8_learnsMost_164 (by decide) ?_
                        refine lv_istore (lv' := [(6, .int (-1)), (8, .int (-1)), (7, .int (nI q7150)), (5, .int (nI q524)), (4, .int r21), (3, .int (nI q38)), (2, .int (nI j6)), (0, .ref (ad 58)), (1, .int (nI n1))]) S.1 S.2.1 dX8_learnsMost_169 hl178 (by decide) rfl (fun ls184 hl184 => ?_)
                        refine lv_iinc (v := (nI (q7150 + 1))) (lv' := [(7, .int (nI (q7150 + 1))), (6, .int (-1)), (8, .int (-1)), (5, .int (nI q524)), (4, .int r21), (3, .int (nI q38)), (2, .int (nI j6)), (0, .ref (ad 58)), (1, .int (nI n1))]) S.1 S.2.1 dX8_learnsMost_171 hl184 (k := 2) rfl (nI_add _ 1) (by decide) rfl (fun ls185 hl185 => ?_)
                        refine lv_goto (tgt := 112) S.1 S.2.1 dX8_learnsMost_174 (by decide) ?_
                        exact ih150 (q7150 + 1) ((-1)) (by omega) (by omega) ls185 (lv_sub hl185 [0, 1, 3, 4, 5, 6, 7, 8] rfl)
                      have k186 := ci_eq rfl (nI_toInt (n := 1) (by decide)) c176
                      refine lv_aload_n S.1 S.2.1 dX8_learnsMost_139 rfl (lv_at hl150 6 rfl) ?_
                      refine lv_iload_n S.1 S.2.1 dX8_learnsMost_140 rfl (lv_at hl150 5 rfl) ?_
                      refine lv_iconst (v := (nI 1)) S.1 S.2.1 dX8_learnsMost_141 (by decide +kernel) ?_
                      refine lv_iadd S.1 S.2.1 dX8_learnsMost_142 ?_
                      refine lv_topi (fun v187 e187 => ?_)
                      obtain rfl : v187 = nI (j6 + 1) := e187.trans (nI_add _ _)
                      refine lv_iload S.1 S.2.1 dX8_learnsMost_143 (lv_at hl150 0 rfl) ?_
                      refine lv_iconst (v := (nI 0)) S.1 S.2.1 dX8_learnsMost_145 (by decide +kernel) ?_
                      have ta189 : ((nI q7150) : Int32).toInt = ((q7150 : Nat) : Int) := (nI_toInt (n := q7150) (by omega))
                      refine r_cVp (As := [.int (nI (j6 + 1)), .int (nI q7150), .int (nI 0)]) (rest := []) S hK hZ hPl24 hSl24 hl150.1 58 (by decide) hF25 (C := RX8) rfl (c_X8_mostAt l D cA ad t hI Fl24 hWl24 (j6 + 1) (by omega) (nI q7150) (0) (by omega) (by omega) (by omega)) (cwV 3 S.2.2.2.2 gX8_learnsMost_X8_mostAt rfl rfl rfl (by decide +kernel) ⟨Nat.le_of_ble_eq_true rfl, Nat.le_of_ble_eq_true rfl⟩) rfl rfl (Nat.le_of_ble_eq_true rfl) ⟨Nat.zero_le _, Nat.zero_le _⟩ dX8_learnsMost_146 (fun r188 hr188 => ?_)
                      refine lv_goto (tgt := 153) S.1 S.2.1 dX8_learnsMost_149 (by decide) ?_
                      refine lv_istore (lv' := [(8, .int r188), (7, .int (nI q7150)), (6, .int x150_6), (5, .int (nI q524)), (4, .int r21), (3, .int (nI q38)), (2, .int (nI j6)), (0, .ref (ad 58)), (1, .int (nI n1))]) S.1 S.2.1 dX8_learnsMost_153 hl150 (by decide) rfl (fun ls190 hl190 => ?_)
                      refine lv_iload S.1 S.2.1 dX8_learnsMost_155 (lv_at hl190 0 rfl) ?_
                      refine lv_iload S.1 S.2.1 dX8_learnsMost_157 (lv_at hl190 2 rfl) ?_
                      refine lv_icmp_le (tgt := 167) S.1 S.2.1 dX8_learnsMost_159 (by decide) (fun c191 => ?_) (fun c191 => ?_)
                      · skip
                        have k192 := ci_le rfl rfl c191
                        refine lv_iload S.1 S.2.1 dX8_learnsMost_167 (lv_at hl190 2 rfl) ?_
                        refine lv_istore (lv' := [(6, .int x150_6), (8, .int r188), (7, .int (nI q7150)), (5, .int (nI q524)), (4, .int r21), (3, .int (nI q38)), (2, .int (nI j6)), (0, .ref (ad 58)), (1, .int (nI n1))]) S.1 S.2.1 dX8_learnsMost_169 hl190 (by decide) rfl (fun ls193 hl193 => ?_)
                        refine lv_iinc (v := (nI (q7150 + 1))) (lv' := [(7, .int (nI (q7150 + 1))), (6, .int x150_6), (8, .int r188), (5, .int (nI q524)), (4, .int r21), (3, .int (nI q38)), (2, .int (nI j6)), (0, .ref (ad 58)), (1, .int (nI n1))]) S.1 S.2.1 dX8_learnsMost_171 hl193 (k := 2) rfl (nI_add _ 1) (by decide) rfl (fun ls194 hl194 => ?_)
                        refine lv_goto (tgt := 112) S.1 S.2.1 dX8_learnsMost_174 (by decide) ?_
                        exact ih150 (q7150 + 1) (x150_6) (by omega) (by omega) ls194 (lv_sub hl194 [0, 1, 3, 4, 5, 6, 7, 8] rfl)
                      have k195 := ci_nle rfl rfl c191
                      refine lv_iload S.1 S.2.1 dX8_learnsMost_162 (lv_at hl190 0 rfl) ?_
                      refine lv_goto (tgt := 169) S.1 S.2.1 dX8_learnsMost_164 (by decide) ?_
                      refine lv_istore (lv' := [(6, .int r188), (8, .int r188), (7, .int (nI q7150)), (5, .int (nI q524)), (4, .int r21), (3, .int (nI q38)), (2, .int (nI j6)), (0, .ref (ad 58)), (1, .int (nI n1))]) S.1 S.2.1 dX8_learnsMost_169 hl190 (by decide) rfl (fun ls196 hl196 => ?_)
                      refine lv_iinc (v := (nI (q7150 + 1))) (lv' := [(7, .int (nI (q7150 + 1))), (6, .int r188), (8, .int r188), (5, .int (nI q524)), (4, .int r21), (3, .int (nI q38)), (2, .int (nI j6)), (0, .ref (ad 58)), (1, .int (nI n1))]) S.1 S.2.1 dX8_learnsMost_171 hl196 (k := 2) rfl (nI_add _ 1) (by decide) rfl (fun ls197 hl197 => ?_)
                      refine lv_goto (tgt := 112) S.1 S.2.1 dX8_learnsMost_174 (by decide) ?_
                      exact ih150 (q7150 + 1) (r188) (by omega) (by omega) ls197 (lv_sub hl197 [0, 1, 3, 4, 5, 6, 7, 8] rfl)
                  exact lp150 (8 - (0) + 1) (0) ((-1)) (by omega) (by omega) ls149 (lv_sub hl149 [0, 1, 2, 3, 4, 5, 6, 7] rfl)
                have k198 := ci_nlt rfl z_ti c147
                refine lv_aload_n S.1 S.2.1 dX8_learnsMost_88 rfl (lv_at hl36 5 rfl) ?_
                refine lv_iload_n S.1 S.2.1 dX8_learnsMost_89 rfl (lv_at hl36 3 rfl) ?_
                refine lv_iload_n S.1 S.2.1 dX8_learnsMost_90 rfl (lv_at hl36 4 rfl) ?_
                have ta200 : ((nI q38) : Int32).toInt = ((q38 : Nat) : Int) := (nI_toInt (n := q38) (by omega))
                refine r_cVp (As := [.int (nI q38), .int (nI j6)]) (rest := []) S hK hZ hPl24 hSl24 hl36.1 58 (by decide) hF25 (C := RX8) rfl (c_X8_learns l D cA ad t hI Fl24 hWl24 (nI q38) (nI j6) (by omega)) (cwV 2 S.2.2.2.2 gX8_learnsMost_X8_learns rfl rfl rfl (by decide +kernel) ⟨Nat.le_of_ble_eq_true rfl, Nat.le_of_ble_eq_true rfl⟩) rfl rfl (Nat.le_of_ble_eq_true rfl) ⟨Nat.zero_le _, Nat.zero_le _⟩ dX8_learnsMost_91 (fun r199 hr199 => ?_)
                refine lv_aload_n S.1 S.2.1 dX8_learnsMost_94 rfl (lv_at hl36 5 rfl) ?_
                refine lv_iload_n S.1 S.2.1 dX8_learnsMost_95 rfl (lv_at hl36 4 rfl) ?_
                refine lv_iconst (v := (nI 1)) S.1 S.2.1 dX8_learnsMost_96 (by decide +kernel) ?_
                refine lv_iadd S.1 S.2.1 dX8_learnsMost_97 ?_
                refine lv_topi (fun v201 e201 => ?_)
                obtain rfl : v201 = nI (j6 + 1) := e201.trans (nI_add _ _)
                refine lv_iload_n S.1 S.2.1 dX8_learnsMost_98 rfl (lv_at hl36 3 rfl) ?_
                refine lv_iload S.1 S.2.1 dX8_learnsMost_99 (lv_at hl36 1 rfl) ?_
                refine lv_iconst (v := (nI 1)) S.1 S.2.1 dX8_learnsMost_101 (by decide +kernel) ?_
                refine lv_iadd S.1 S.2.1 dX8_learnsMost_102 ?_
                refine lv_topi (fun v202 e202 => ?_)
                obtain rfl : v202 = nI (q524 + 1) := e202.trans (nI_add _ _)
                have ta204 : ((nI q38) : Int32).toInt = ((q38 : Nat) : Int) := (nI_toInt (n := q38) (by omega))
                refine r_cVp (As := [.int (nI (j6 + 1)), .int (nI q38), .int (nI (q524 + 1))]) (rest := [.int r199]) S hK hZ hPl24 hSl24 hl36.1 58 (by decide) hF25 (C := RX8) rfl (c_X8_mostAt l D cA ad t hI Fl24 hWl24 (j6 + 1) (by omega) (nI q38) (q524 + 1) (by omega) (by omega) (by omega)) (cwV 3 S.2.2.2.2 gX8_learnsMost_X8_mostAt rfl rfl rfl (by decide +kernel) ⟨Nat.le_of_ble_eq_true rfl, Nat.le_of_ble_eq_true rfl⟩) rfl rfl (Nat.le_of_ble_eq_true rfl) ⟨Nat.zero_le _, Nat.zero_le _⟩ dX8_learnsMost_103 (fun r203 hr203 => ?_)
                refine lv_iadd S.1 S.2.1 dX8_learnsMost_106 ?_
                refine lv_topi (fun v205 e205 => ?_)
                refine lv_istore (lv' := [(6, .int v205), (5, .int (nI q524)), (4, .int r21), (3, .int (nI q38)), (2, .int (nI j6)), (0, .ref (ad 58)), (1, .int (nI n1))]) S.1 S.2.1 dX8_learnsMost_107 hl36 (by decide) rfl (fun ls206 hl206 => ?_)
                refine lv_iconst (v := (nI 0)) S.1 S.2.1 dX8_learnsMost_109 (by decide +kernel) ?_
                refine lv_istore (lv' := [(7, .int (nI 0)), (6, .int v205), (5, .int (nI q524)), (4, .int r21), (3, .int (nI q38)), (2, .int (nI j6)), (0, .ref (ad 58)), (1, .int (nI n1))]) S.1 S.2.1 dX8_learnsMost_110 hl206 (by decide) rfl (fun ls207 hl207 => ?_)
                have lp208 : ∀ (n208 : Nat) (q7208 : Nat) (x208_6 : Int32), q7208 ≤ 8 → 8 - q7208 < n208 → ∀ (ls : Array Slot), lv_has ls 9 [(7, .int (nI q7208)), (6, .int x208_6), (5, .int (nI q524)), (4, .int r21), (3, .int (nI q38)), (2, .int (nI j6)), (0, .ref (ad 58)), (1, .int (nI n1))] → W p l e { frames := 2, cells := 0, slots := 0, locals := 48 } s m args below meth c Hl24 lol24 0 0 Q (F0 m 112 ls []) := by
                  intro n208
                  induction n208 with
                  | zero =>
                    intro q7208 x208_6 iv208_0 hm208 ls208 hl208
                    exact absurd hm208 (Nat.not_lt_zero _)
                  | succ n208 ih208 =>
                    intro q7208 x208_6 iv208_0 hm208 ls208 hl208
                    refine lv_iload S.1 S.2.1 dX8_learnsMost_112 (lv_at hl208 0 rfl) ?_
                    refine lv_aload_n S.1 S.2.1 dX8_learnsMost_114 rfl (lv_at hl208 6 rfl) ?_
                    refine r_get S hK hPl24 58 (by decide) hF25 (C := RX8) (T := TX8) (N := 23) hiX8 rfl 2 (by decide) (am_at in_wsX8_learnsMost_0 0 rfl) (v := .ref (ad 60)) rfl dX8_learnsMost_115 ?_
                    refine lv_iconst (v := (nI 2)) S.1 S.2.1 dX8_learnsMost_118 (by decide +kernel) ?_
                    refine r_iald S hK hPl24 60 (by decide) hF26 (vp_in_nI (show 2 < 52 by omega) (by omega)) dX8_learnsMost_119 ?_
                    refine lv_topi (fun v210 e210 => ?_)
                    obtain ⟨b211, hb211, he211⟩ := (pr_T (by decide) (hg26 2 (by decide))).2.1 rfl
                    obtain rfl : v210 = nI b211 := e210.trans he211
                    refine lv_icmp_ge (tgt := 177) S.1 S.2.1 dX8_learnsMost_120 (by decide) (fun c212 => ?_) (fun c212 => ?_)
                    · skip
                      have k213 := ci_le (nI_toInt (n := b211) (Nat.lt_of_le_of_lt hb211 (by decide))) (nI_toInt (n := q7208) (by omega)) c212
                      refine lv_aload_n S.1 S.2.1 dX8_learnsMost_177 rfl (lv_at hl208 6 rfl) ?_
                      refine r_get S hK hPl24 58 (by decide) hF25 (C := RX8) (T := TX8) (N := 23) hiX8 rfl 19 (by decide) (am_at in_wsX8_learnsMost_0 2 rfl) (v := .ref (ad 68)) rfl dX8_learnsMost_178 ?_
                      refine lv_bipush (v := (nI 40)) S.1 S.2.1 dX8_learnsMost_181 (by decide +kernel) ?_
                      refine lv_iload_n S.1 S.2.1 dX8_learnsMost_183 rfl (lv_at hl208 5 rfl) ?_
                      refine lv_imul S.1 S.2.1 dX8_learnsMost_184 ?_
                      refine lv_topi (fun v214 e214 => ?_)
                      obtain rfl : v214 = nI (40 * j6) := e214.trans (pk_mul _ _)
                      refine lv_iconst (v := (nI 5)) S.1 S.2.1 dX8_learnsMost_185 (by decide +kernel) ?_
                      refine lv_iload_n S.1 S.2.1 dX8_learnsMost_186 rfl (lv_at hl208 4 rfl) ?_
                      refine lv_imul S.1 S.2.1 dX8_learnsMost_187 ?_
                      refine lv_topi (fun v215 e215 => ?_)
                      obtain rfl : v215 = nI (5 * q38) := e215.trans (pk_mul _ _)
                      refine lv_iadd S.1 S.2.1 dX8_learnsMost_188 ?_
                      refine lv_topi (fun v216 e216 => ?_)
                      obtain rfl : v216 = nI ((40 * j6) + (5 * q38)) := e216.trans (nI_add _ _)
                      refine lv_iload S.1 S.2.1 dX8_learnsMost_189 (lv_at hl208 2 rfl) ?_
                      refine lv_iadd S.1 S.2.1 dX8_learnsMost_191 ?_
                      refine lv_topi (fun v217 e217 => ?_)
                      obtain rfl : v217 = nI (((40 * j6) + (5 * q38)) + q524) := e217.trans (nI_add _ _)
                      refine lv_iload S.1 S.2.1 dX8_learnsMost_192 (lv_at hl208 1 rfl) ?_
                      obtain ⟨g218, hF218, hg218⟩ := wt_I hWl24 (show (68, 1480) ∈ rLI by decide)
                      refine r_iast S hI hK hPl24 hSl24 68 (by decide) hF218 (vp_in_nI (show ((40 * j6) + (5 * q38)) + q524 < 1480 by omega) (by omega)) dX8_learnsMost_194 (fun F219 H219 locs219 eF219 hP219 hS219 => ?_)
                      have hW219 := hWl24.up eF219 (ok_I (show (68, 1480) ∈ rLI by decide) (okI_up hg218 (pr_of (by decide))))
                      have hFr219 := hFl24.up eF219 (by simp <;> first | omega | (simp only [isC, isJ] at *; omega))
                      refine lv_iinc (v := (nI (q524 + 1))) (lv' := [(5, .int (nI (q524 + 1))), (7, .int (nI q7208)), (6, .int x208_6), (4, .int r21), (3, .int (nI q38)), (2, .int (nI j6)), (0, .ref (ad 58)), (1, .int (nI n1))]) S.1 S.2.1 dX8_learnsMost_195 hl208 (k := 2) rfl (nI_add _ 1) (by decide) rfl (fun ls220 hl220 => ?_)
                      refine lv_goto (tgt := 34) S.1 S.2.1 dX8_learnsMost_198 (by decide) ?_
                      exact ih24 (q524 + 1) F219 H219 locs219 (by omega) (by omega) hW219 hFr219 hP219 hS219 ls220 (lv_sub hl220 [0, 3, 4, 5, 6, 7] rfl)
                    have k221 := ci_nle (nI_toInt (n := b211) (Nat.lt_of_le_of_lt hb211 (by decide))) (nI_toInt (n := q7208) (by omega)) c212
                    refine lv_iload_n S.1 S.2.1 dX8_learnsMost_123 rfl (lv_at hl208 5 rfl) ?_
                    refine lv_iload_n S.1 S.2.1 dX8_learnsMost_124 rfl (lv_at hl208 7 rfl) ?_
                    refine lv_icmp_ge (tgt := 177) S.1 S.2.1 dX8_learnsMost_125 (by decide) (fun c222 => ?_) (fun c222 => ?_)
                    · skip
                      have k223 := ci_le (nI_toInt (n := n1) (by omega)) (nI_toInt (n := j6) (Nat.lt_of_le_of_lt hj6 (by decide))) c222
                      refine lv_aload_n S.1 S.2.1 dX8_learnsMost_177 rfl (lv_at hl208 6 rfl) ?_
                      refine r_get S hK hPl24 58 (by decide) hF25 (C := RX8) (T := TX8) (N := 23) hiX8 rfl 19 (by decide) (am_at in_wsX8_learnsMost_0 2 rfl) (v := .ref (ad 68)) rfl dX8_learnsMost_178 ?_
                      refine lv_bipush (v := (nI 40)) S.1 S.2.1 dX8_learnsMost_181 (by decide +kernel) ?_
                      refine lv_iload_n S.1 S.2.1 dX8_learnsMost_183 rfl (lv_at hl208 5 rfl) ?_
                      refine lv_imul S.1 S.2.1 dX8_learnsMost_184 ?_
                      refine lv_topi (fun v224 e224 => ?_)
                      obtain rfl : v224 = nI (40 * j6) := e224.trans (pk_mul _ _)
                      refine lv_iconst (v := (nI 5)) S.1 S.2.1 dX8_learnsMost_185 (by decide +kernel) ?_
                      refine lv_iload_n S.1 S.2.1 dX8_learnsMost_186 rfl (lv_at hl208 4 rfl) ?_
                      refine lv_imul S.1 S.2.1 dX8_learnsMost_187 ?_
                      refine lv_topi (fun v225 e225 => ?_)
                      obtain rfl : v225 = nI (5 * q38) := e225.trans (pk_mul _ _)
                      refine lv_iadd S.1 S.2.1 dX8_learnsMost_188 ?_
                      refine lv_topi (fun v226 e226 => ?_)
                      obtain rfl : v226 = nI ((40 * j6) + (5 * q38)) := e226.trans (nI_add _ _)
                      refine lv_iload S.1 S.2.1 dX8_learnsMost_189 (lv_at hl208 2 rfl) ?_
                      refine lv_iadd S.1 S.2.1 dX8_learnsMost_191 ?_
                      refine lv_topi (fun v227 e227 => ?_)
                      obtain rfl : v227 = nI (((40 * j6) + (5 * q38)) + q524) := e227.trans (nI_add _ _)
                      refine lv_iload S.1 S.2.1 dX8_learnsMost_192 (lv_at hl208 1 rfl) ?_
                      obtain ⟨g228, hF228, hg228⟩ := wt_I hWl24 (show (68, 1480) ∈ rLI by decide)
                      refine r_iast S hI hK hPl24 hSl24 68 (by decide) hF228 (vp_in_nI (show ((40 * j6) + (5 * q38)) + q524 < 1480 by omega) (by omega)) dX8_learnsMost_194 (fun F229 H229 locs229 eF229 hP229 hS229 => ?_)
                      have hW229 := hWl24.up eF229 (ok_I (show (68, 1480) ∈ rLI by decide) (okI_up hg228 (pr_of (by decide))))
                      have hFr229 := hFl24.up eF229 (by simp <;> first | omega | (simp only [isC, isJ] at *; omega))
                      refine lv_iinc (v := (nI (q524 + 1))) (lv' := [(5, .int (nI (q524 + 1))), (7, .int (nI q7208)), (6, .int x208_6), (4, .int r21), (3, .int (nI q38)), (2, .int (nI j6)), (0, .ref (ad 58)), (1, .int (nI n1))]) S.1 S.2.1 dX8_learnsMost_195 hl208 (k := 2) rfl (nI_add _ 1) (by decide) rfl (fun ls230 hl230 => ?_)
                      refine lv_goto (tgt := 34) S.1 S.2.1 dX8_learnsMost_198 (by decide) ?_
                      exact ih24 (q524 + 1) F229 H229 locs229 (by omega) (by omega) hW229 hFr229 hP229 hS229 ls230 (lv_sub hl230 [0, 3, 4, 5, 6, 7] rfl)
                    have k231 := ci_nle (nI_toInt (n := n1) (by omega)) (nI_toInt (n := j6) (Nat.lt_of_le_of_lt hj6 (by decide))) c222
                    refine lv_iload S.1 S.2.1 dX8_learnsMost_128 (lv_at hl208 3 rfl) ?_
                    refine lv_iload S.1 S.2.1 dX8_learnsMost_130 (lv_at hl208 0 rfl) ?_
                    refine lv_ishr S.1 S.2.1 dX8_learnsMost_132 ?_
                    refine lv_topi (fun v232 e232 => ?_)
                    refine lv_iconst (v := (nI 1)) S.1 S.2.1 dX8_learnsMost_133 (by decide +kernel) ?_
                    refine lv_iand S.1 S.2.1 dX8_learnsMost_134 ?_
                    refine lv_topi (fun v233 e233 => ?_)
                    refine lv_iconst (v := (nI 1)) S.1 S.2.1 dX8_learnsMost_135 (by decide +kernel) ?_
                    refine lv_icmp_ne (tgt := 152) S.1 S.2.1 dX8_learnsMost_136 (by decide) (fun c234 => ?_) (fun c234 => ?_)
                    · skip
                      have k235 := ci_ne rfl (nI_toInt (n := 1) (by decide)) c234
                      refine lv_iconst (v := (-1)) S.1 S.2.1 dX8_learnsMost_152 (by decide +kernel) ?_
                      refine lv_istore (lv' := [(8, .int (-1)), (7, .int (nI q7208)), (6, .int x208_6), (5, .int (nI q524)), (4, .int r21), (3, .int (nI q38)), (2, .int (nI j6)), (0, .ref (ad 58)), (1, .int (nI n1))]) S.1 S.2.1 dX8_learnsMost_153 hl208 (by decide) rfl (fun ls236 hl236 => ?_)
                      refine lv_iload S.1 S.2.1 dX8_learnsMost_155 (lv_at hl236 0 rfl) ?_
                      refine lv_iload S.1 S.2.1 dX8_learnsMost_157 (lv_at hl236 2 rfl) ?_
                      refine lv_icmp_le (tgt := 167) S.1 S.2.1 dX8_learnsMost_159 (by decide) (fun c237 => ?_) (fun c237 => ?_)
                      · skip
                        have k238 := ci_le (show ((-1) : Int32).toInt = -1 by decide +kernel) rfl c237
                        refine lv_iload S.1 S.2.1 dX8_learnsMost_167 (lv_at hl236 2 rfl) ?_
                        refine lv_istore (lv' := [(6, .int x208_6), (8, .int (-1)), (7, .int (nI q7208)), (5, .int (nI q524)), (4, .int r21), (3, .int (nI q38)), (2, .int (nI j6)), (0, .ref (ad 58)), (1, .int (nI n1))]) S.1 S.2.1 dX8_learnsMost_169 hl236 (by decide) rfl (fun ls239 hl239 => ?_)
                        refine lv_iinc (v := (nI (q7208 + 1))) (lv' := [(7, .int (nI (q7208 + 1))), (6, .int x208_6), (8, .int (-1)), (5, .int (nI q524)), (4, .int r21), (3, .int (nI q38)), (2, .int (nI j6)), (0, .ref (ad 58)), (1, .int (nI n1))]) S.1 S.2.1 dX8_learnsMost_171 hl239 (k := 2) rfl (nI_add _ 1) (by decide) rfl (fun ls240 hl240 => ?_)
                        refine lv_goto (tgt := 112) S.1 S.2.1 dX8_learnsMost_174 (by decide) ?_
                        exact ih208 (q7208 + 1) (x208_6) (by omega) (by omega) ls240 (lv_sub hl240 [0, 1, 3, 4, 5, 6, 7, 8] rfl)
                      have k241 := ci_nle (show ((-1) : Int32).toInt = -1 by decide +kernel) rfl c237
                      refine lv_iload S.1 S.2.1 dX8_learnsMost_162 (lv_at hl236 0 rfl) ?_
                      refine lv_goto (tgt := 169) S.1 S.2.1 dX8_learnsMost_164 (by decide) ?_
                      refine lv_istore (lv' := [(6, .int (-1)), (8, .int (-1)), (7, .int (nI q7208)), (5, .int (nI q524)), (4, .int r21), (3, .int (nI q38)), (2, .int (nI j6)), (0, .ref (ad 58)), (1, .int (nI n1))]) S.1 S.2.1 dX8_learnsMost_169 hl236 (by decide) rfl (fun ls242 hl242 => ?_)
                      refine lv_iinc (v := (nI (q7208 + 1))) (lv' := [(7, .int (nI (q7208 + 1))), (6, .int (-1)), (8, .int (-1)), (5, .int (nI q524)), (4, .int r21), (3, .int (nI q38)), (2, .int (nI j6)), (0, .ref (ad 58)), (1, .int (nI n1))]) S.1 S.2.1 dX8_learnsMost_171 hl242 (k := 2) rfl (nI_add _ 1) (by decide) rfl (fun ls243 hl243 => ?_)
                      refine lv_goto (tgt := 112) S.1 S.2.1 dX8_learnsMost_174 (by decide) ?_
                      exact ih208 (q7208 + 1) ((-1)) (by omega) (by omega) ls243 (lv_sub hl243 [0, 1, 3, 4, 5, 6, 7, 8] rfl)
                    have k244 := ci_eq rfl (nI_toInt (n := 1) (by decide)) c234
                    refine lv_aload_n S.1 S.2.1 dX8_learnsMost_139 rfl (lv_at hl208 6 rfl) ?_
                    refine lv_iload_n S.1 S.2.1 dX8_learnsMost_140 rfl (lv_at hl208 5 rfl) ?_
                    refine lv_iconst (v := (nI 1)) S.1 S.2.1 dX8_learnsMost_141 (by decide +kernel) ?_
                    refine lv_iadd S.1 S.2.1 dX8_learnsMost_142 ?_
                    refine lv_topi (fun v245 e245 => ?_)
                    obtain rfl : v245 = nI (j6 + 1) := e245.trans (nI_add _ _)
                    refine lv_iload S.1 S.2.1 dX8_learnsMost_143 (lv_at hl208 0 rfl) ?_
                    refine lv_iconst (v := (nI 0)) S.1 S.2.1 dX8_learnsMost_145 (by decide +kernel) ?_
                    have ta247 : ((nI q7208) : Int32).toInt = ((q7208 : Nat) : Int) := (nI_toInt (n := q7208) (by omega))
                    refine r_cVp (As := [.int (nI (j6 + 1)), .int (nI q7208), .int (nI 0)]) (rest := []) S hK hZ hPl24 hSl24 hl208.1 58 (by decide) hF25 (C := RX8) rfl (c_X8_mostAt l D cA ad t hI Fl24 hWl24 (j6 + 1) (by omega) (nI q7208) (0) (by omega) (by omega) (by omega)) (cwV 3 S.2.2.2.2 gX8_learnsMost_X8_mostAt rfl rfl rfl (by decide +kernel) ⟨Nat.le_of_ble_eq_true rfl, Nat.le_of_ble_eq_true rfl⟩) rfl rfl (Nat.le_of_ble_eq_true rfl) ⟨Nat.zero_le _, Nat.zero_le _⟩ dX8_learnsMost_146 (fun r246 hr246 => ?_)
                    refine lv_goto (tgt := 153) S.1 S.2.1 dX8_learnsMost_149 (by decide) ?_
                    refine lv_istore (lv' := [(8, .int r246), (7, .int (nI q7208)), (6, .int x208_6), (5, .int (nI q524)), (4, .int r21), (3, .int (nI q38)), (2, .int (nI j6)), (0, .ref (ad 58)), (1, .int (nI n1))]) S.1 S.2.1 dX8_learnsMost_153 hl208 (by decide) rfl (fun ls248 hl248 => ?_)
                    refine lv_iload S.1 S.2.1 dX8_learnsMost_155 (lv_at hl248 0 rfl) ?_
                    refine lv_iload S.1 S.2.1 dX8_learnsMost_157 (lv_at hl248 2 rfl) ?_
                    refine lv_icmp_le (tgt := 167) S.1 S.2.1 dX8_learnsMost_159 (by decide) (fun c249 => ?_) (fun c249 => ?_)
                    · skip
                      have k250 := ci_le rfl rfl c249
                      refine lv_iload S.1 S.2.1 dX8_learnsMost_167 (lv_at hl248 2 rfl) ?_
                      refine lv_istore (lv' := [(6, .int x208_6), (8, .int r246), (7, .int (nI q7208)), (5, .int (nI q524)), (4, .int r21), (3, .int (nI q38)), (2, .int (nI j6)), (0, .ref (ad 58)), (1, .int (nI n1))]) S.1 S.2.1 dX8_learnsMost_169 hl248 (by decide) rfl (fun ls251 hl251 => ?_)
                      refine lv_iinc (v := (nI (q7208 + 1))) (lv' := [(7, .int (nI (q7208 + 1))), (6, .int x208_6), (8, .int r246), (5, .int (nI q524)), (4, .int r21), (3, .int (nI q38)), (2, .int (nI j6)), (0, .ref (ad 58)), (1, .int (nI n1))]) S.1 S.2.1 dX8_learnsMost_171 hl251 (k := 2) rfl (nI_add _ 1) (by decide) rfl (fun ls252 hl252 => ?_)
                      refine lv_goto (tgt := 112) S.1 S.2.1 dX8_learnsMost_174 (by decide) ?_
                      exact ih208 (q7208 + 1) (x208_6) (by omega) (by omega) ls252 (lv_sub hl252 [0, 1, 3, 4, 5, 6, 7, 8] rfl)
                    have k253 := ci_nle rfl rfl c249
                    refine lv_iload S.1 S.2.1 dX8_learnsMost_162 (lv_at hl248 0 rfl) ?_
                    refine lv_goto (tgt := 169) S.1 S.2.1 dX8_learnsMost_164 (by decide) ?_
                    refine lv_istore (lv' := [(6, .int r246), (8, .int r246), (7, .int (nI q7208)), (5, .int (nI q524)), (4, .int r21), (3, .int (nI q38)), (2, .int (nI j6)), (0, .ref (ad 58)), (1, .int (nI n1))]) S.1 S.2.1 dX8_learnsMost_169 hl248 (by decide) rfl (fun ls254 hl254 => ?_)
                    refine lv_iinc (v := (nI (q7208 + 1))) (lv' := [(7, .int (nI (q7208 + 1))), (6, .int r246), (8, .int r246), (5, .int (nI q524)), (4, .int r21), (3, .int (nI q38)), (2, .int (nI j6)), (0, .ref (ad 58)), (1, .int (nI n1))]) S.1 S.2.1 dX8_learnsMost_171 hl254 (k := 2) rfl (nI_add _ 1) (by decide) rfl (fun ls255 hl255 => ?_)
                    refine lv_goto (tgt := 112) S.1 S.2.1 dX8_learnsMost_174 (by decide) ?_
                    exact ih208 (q7208 + 1) (r246) (by omega) (by omega) ls255 (lv_sub hl255 [0, 1, 3, 4, 5, 6, 7, 8] rfl)
                exact lp208 (8 - (0) + 1) (0) (v205) (by omega) (by omega) ls207 (lv_sub hl207 [0, 1, 2, 3, 4, 5, 6, 7] rfl)
              have k256 := ci_eq (nI_toInt (n := j6) (Nat.lt_of_le_of_lt hj6 (by decide))) (nI_toInt (n := n1) (by omega)) c34
              refine lv_iconst (v := (nI 0)) S.1 S.2.1 dX8_learnsMost_50 (by decide +kernel) ?_
              refine lv_goto (tgt := 55) S.1 S.2.1 dX8_learnsMost_51 (by decide) ?_
              refine lv_istore (lv' := [(6, .int (nI 0)), (5, .int (nI q524)), (4, .int r21), (3, .int (nI q38)), (2, .int (nI j6)), (0, .ref (ad 58)), (1, .int (nI n1))]) S.1 S.2.1 dX8_learnsMost_55 hl24 (by decide) rfl (fun ls257 hl257 => ?_)
              refine lv_iload_n S.1 S.2.1 dX8_learnsMost_57 rfl (lv_at hl257 4 rfl) ?_
              refine lv_iload_n S.1 S.2.1 dX8_learnsMost_58 rfl (lv_at hl257 6 rfl) ?_
              refine lv_icmp_ge (tgt := 109) S.1 S.2.1 dX8_learnsMost_59 (by decide) (fun c258 => ?_) (fun c258 => ?_)
              · skip
                have k259 := ci_le (nI_toInt (n := n1) (by omega)) (nI_toInt (n := j6) (Nat.lt_of_le_of_lt hj6 (by decide))) c258
                refine lv_iconst (v := (nI 0)) S.1 S.2.1 dX8_learnsMost_109 (by decide +kernel) ?_
                refine lv_istore (lv' := [(7, .int (nI 0)), (6, .int (nI 0)), (5, .int (nI q524)), (4, .int r21), (3, .int (nI q38)), (2, .int (nI j6)), (0, .ref (ad 58)), (1, .int (nI n1))]) S.1 S.2.1 dX8_learnsMost_110 hl257 (by decide) rfl (fun ls260 hl260 => ?_)
                have lp261 : ∀ (n261 : Nat) (q7261 : Nat) (x261_6 : Int32), q7261 ≤ 8 → 8 - q7261 < n261 → ∀ (ls : Array Slot), lv_has ls 9 [(7, .int (nI q7261)), (6, .int x261_6), (5, .int (nI q524)), (4, .int r21), (3, .int (nI q38)), (2, .int (nI j6)), (0, .ref (ad 58)), (1, .int (nI n1))] → W p l e { frames := 2, cells := 0, slots := 0, locals := 48 } s m args below meth c Hl24 lol24 0 0 Q (F0 m 112 ls []) := by
                  intro n261
                  induction n261 with
                  | zero =>
                    intro q7261 x261_6 iv261_0 hm261 ls261 hl261
                    exact absurd hm261 (Nat.not_lt_zero _)
                  | succ n261 ih261 =>
                    intro q7261 x261_6 iv261_0 hm261 ls261 hl261
                    refine lv_iload S.1 S.2.1 dX8_learnsMost_112 (lv_at hl261 0 rfl) ?_
                    refine lv_aload_n S.1 S.2.1 dX8_learnsMost_114 rfl (lv_at hl261 6 rfl) ?_
                    refine r_get S hK hPl24 58 (by decide) hF25 (C := RX8) (T := TX8) (N := 23) hiX8 rfl 2 (by decide) (am_at in_wsX8_learnsMost_0 0 rfl) (v := .ref (ad 60)) rfl dX8_learnsMost_115 ?_
                    refine lv_iconst (v := (nI 2)) S.1 S.2.1 dX8_learnsMost_118 (by decide +kernel) ?_
                    refine r_iald S hK hPl24 60 (by decide) hF26 (vp_in_nI (show 2 < 52 by omega) (by omega)) dX8_learnsMost_119 ?_
                    refine lv_topi (fun v263 e263 => ?_)
                    obtain ⟨b264, hb264, he264⟩ := (pr_T (by decide) (hg26 2 (by decide))).2.1 rfl
                    obtain rfl : v263 = nI b264 := e263.trans he264
                    refine lv_icmp_ge (tgt := 177) S.1 S.2.1 dX8_learnsMost_120 (by decide) (fun c265 => ?_) (fun c265 => ?_)
                    · skip
                      have k266 := ci_le (nI_toInt (n := b264) (Nat.lt_of_le_of_lt hb264 (by decide))) (nI_toInt (n := q7261) (by omega)) c265
                      refine lv_aload_n S.1 S.2.1 dX8_learnsMost_177 rfl (lv_at hl261 6 rfl) ?_
                      refine r_get S hK hPl24 58 (by decide) hF25 (C := RX8) (T := TX8) (N := 23) hiX8 rfl 19 (by decide) (am_at in_wsX8_learnsMost_0 2 rfl) (v := .ref (ad 68)) rfl dX8_learnsMost_178 ?_
                      refine lv_bipush (v := (nI 40)) S.1 S.2.1 dX8_learnsMost_181 (by decide +kernel) ?_
                      refine lv_iload_n S.1 S.2.1 dX8_learnsMost_183 rfl (lv_at hl261 5 rfl) ?_
                      refine lv_imul S.1 S.2.1 dX8_learnsMost_184 ?_
                      refine lv_topi (fun v267 e267 => ?_)
                      obtain rfl : v267 = nI (40 * j6) := e267.trans (pk_mul _ _)
                      refine lv_iconst (v := (nI 5)) S.1 S.2.1 dX8_learnsMost_185 (by decide +kernel) ?_
                      refine lv_iload_n S.1 S.2.1 dX8_learnsMost_186 rfl (lv_at hl261 4 rfl) ?_
                      refine lv_imul S.1 S.2.1 dX8_learnsMost_187 ?_
                      refine lv_topi (fun v268 e268 => ?_)
                      obtain rfl : v268 = nI (5 * q38) := e268.trans (pk_mul _ _)
                      refine lv_iadd S.1 S.2.1 dX8_learnsMost_188 ?_
                      refine lv_topi (fun v269 e269 => ?_)
                      obtain rfl : v269 = nI ((40 * j6) + (5 * q38)) := e269.trans (nI_add _ _)
                      refine lv_iload S.1 S.2.1 dX8_learnsMost_189 (lv_at hl261 2 rfl) ?_
                      refine lv_iadd S.1 S.2.1 dX8_learnsMost_191 ?_
                      refine lv_topi (fun v270 e270 => ?_)
                      obtain rfl : v270 = nI (((40 * j6) + (5 * q38)) + q524) := e270.trans (nI_add _ _)
                      refine lv_iload S.1 S.2.1 dX8_learnsMost_192 (lv_at hl261 1 rfl) ?_
                      obtain ⟨g271, hF271, hg271⟩ := wt_I hWl24 (show (68, 1480) ∈ rLI by decide)
                      refine r_iast S hI hK hPl24 hSl24 68 (by decide) hF271 (vp_in_nI (show ((40 * j6) + (5 * q38)) + q524 < 1480 by omega) (by omega)) dX8_learnsMost_194 (fun F272 H272 locs272 eF272 hP272 hS272 => ?_)
                      have hW272 := hWl24.up eF272 (ok_I (show (68, 1480) ∈ rLI by decide) (okI_up hg271 (pr_of (by decide))))
                      have hFr272 := hFl24.up eF272 (by simp <;> first | omega | (simp only [isC, isJ] at *; omega))
                      refine lv_iinc (v := (nI (q524 + 1))) (lv' := [(5, .int (nI (q524 + 1))), (7, .int (nI q7261)), (6, .int x261_6), (4, .int r21), (3, .int (nI q38)), (2, .int (nI j6)), (0, .ref (ad 58)), (1, .int (nI n1))]) S.1 S.2.1 dX8_learnsMost_195 hl261 (k := 2) rfl (nI_add _ 1) (by decide) rfl (fun ls273 hl273 => ?_)
                      refine lv_goto (tgt := 34) S.1 S.2.1 dX8_learnsMost_198 (by decide) ?_
                      exact ih24 (q524 + 1) F272 H272 locs272 (by omega) (by omega) hW272 hFr272 hP272 hS272 ls273 (lv_sub hl273 [0, 3, 4, 5, 6, 7] rfl)
                    have k274 := ci_nle (nI_toInt (n := b264) (Nat.lt_of_le_of_lt hb264 (by decide))) (nI_toInt (n := q7261) (by omega)) c265
                    refine lv_iload_n S.1 S.2.1 dX8_learnsMost_123 rfl (lv_at hl261 5 rfl) ?_
                    refine lv_iload_n S.1 S.2.1 dX8_learnsMost_124 rfl (lv_at hl261 7 rfl) ?_
                    refine lv_icmp_ge (tgt := 177) S.1 S.2.1 dX8_learnsMost_125 (by decide) (fun c275 => ?_) (fun c275 => ?_)
                    · skip
                      have k276 := ci_le (nI_toInt (n := n1) (by omega)) (nI_toInt (n := j6) (Nat.lt_of_le_of_lt hj6 (by decide))) c275
                      refine lv_aload_n S.1 S.2.1 dX8_learnsMost_177 rfl (lv_at hl261 6 rfl) ?_
                      refine r_get S hK hPl24 58 (by decide) hF25 (C := RX8) (T := TX8) (N := 23) hiX8 rfl 19 (by decide) (am_at in_wsX8_learnsMost_0 2 rfl) (v := .ref (ad 68)) rfl dX8_learnsMost_178 ?_
                      refine lv_bipush (v := (nI 40)) S.1 S.2.1 dX8_learnsMost_181 (by decide +kernel) ?_
                      refine lv_iload_n S.1 S.2.1 dX8_learnsMost_183 rfl (lv_at hl261 5 rfl) ?_
                      refine lv_imul S.1 S.2.1 dX8_learnsMost_184 ?_
                      refine lv_topi (fun v277 e277 => ?_)
                      obtain rfl : v277 = nI (40 * j6) := e277.trans (pk_mul _ _)
                      refine lv_iconst (v := (nI 5)) S.1 S.2.1 dX8_learnsMost_185 (by decide +kernel) ?_
                      refine lv_iload_n S.1 S.2.1 dX8_learnsMost_186 rfl (lv_at hl261 4 rfl) ?_
                      refine lv_imul S.1 S.2.1 dX8_learnsMost_187 ?_
                      refine lv_topi (fun v278 e278 => ?_)
                      obtain rfl : v278 = nI (5 * q38) := e278.trans (pk_mul _ _)
                      refine lv_iadd S.1 S.2.1 dX8_learnsMost_188 ?_
                      refine lv_topi (fun v279 e279 => ?_)
                      obtain rfl : v279 = nI ((40 * j6) + (5 * q38)) := e279.trans (nI_add _ _)
                      refine lv_iload S.1 S.2.1 dX8_learnsMost_189 (lv_at hl261 2 rfl) ?_
                      refine lv_iadd S.1 S.2.1 dX8_learnsMost_191 ?_
                      refine lv_topi (fun v280 e280 => ?_)
                      obtain rfl : v280 = nI (((40 * j6) + (5 * q38)) + q524) := e280.trans (nI_add _ _)
                      refine lv_iload S.1 S.2.1 dX8_learnsMost_192 (lv_at hl261 1 rfl) ?_
                      obtain ⟨g281, hF281, hg281⟩ := wt_I hWl24 (show (68, 1480) ∈ rLI by decide)
                      refine r_iast S hI hK hPl24 hSl24 68 (by decide) hF281 (vp_in_nI (show ((40 * j6) + (5 * q38)) + q524 < 1480 by omega) (by omega)) dX8_learnsMost_194 (fun F282 H282 locs282 eF282 hP282 hS282 => ?_)
                      have hW282 := hWl24.up eF282 (ok_I (show (68, 1480) ∈ rLI by decide) (okI_up hg281 (pr_of (by decide))))
                      have hFr282 := hFl24.up eF282 (by simp <;> first | omega | (simp only [isC, isJ] at *; omega))
                      refine lv_iinc (v := (nI (q524 + 1))) (lv' := [(5, .int (nI (q524 + 1))), (7, .int (nI q7261)), (6, .int x261_6), (4, .int r21), (3, .int (nI q38)), (2, .int (nI j6)), (0, .ref (ad 58)), (1, .int (nI n1))]) S.1 S.2.1 dX8_learnsMost_195 hl261 (k := 2) rfl (nI_add _ 1) (by decide) rfl (fun ls283 hl283 => ?_)
                      refine lv_goto (tgt := 34) S.1 S.2.1 dX8_learnsMost_198 (by decide) ?_
                      exact ih24 (q524 + 1) F282 H282 locs282 (by omega) (by omega) hW282 hFr282 hP282 hS282 ls283 (lv_sub hl283 [0, 3, 4, 5, 6, 7] rfl)
                    have k284 := ci_nle (nI_toInt (n := n1) (by omega)) (nI_toInt (n := j6) (Nat.lt_of_le_of_lt hj6 (by decide))) c275
                    refine lv_iload S.1 S.2.1 dX8_learnsMost_128 (lv_at hl261 3 rfl) ?_
                    refine lv_iload S.1 S.2.1 dX8_learnsMost_130 (lv_at hl261 0 rfl) ?_
                    refine lv_ishr S.1 S.2.1 dX8_learnsMost_132 ?_
                    refine lv_topi (fun v285 e285 => ?_)
                    refine lv_iconst (v := (nI 1)) S.1 S.2.1 dX8_learnsMost_133 (by decide +kernel) ?_
                    refine lv_iand S.1 S.2.1 dX8_learnsMost_134 ?_
                    refine lv_topi (fun v286 e286 => ?_)
                    refine lv_iconst (v := (nI 1)) S.1 S.2.1 dX8_learnsMost_135 (by decide +kernel) ?_
                    refine lv_icmp_ne (tgt := 152) S.1 S.2.1 dX8_learnsMost_136 (by decide) (fun c287 => ?_) (fun c287 => ?_)
                    · skip
                      have k288 := ci_ne rfl (nI_toInt (n := 1) (by decide)) c287
                      refine lv_iconst (v := (-1)) S.1 S.2.1 dX8_learnsMost_152 (by decide +kernel) ?_
                      refine lv_istore (lv' := [(8, .int (-1)), (7, .int (nI q7261)), (6, .int x261_6), (5, .int (nI q524)), (4, .int r21), (3, .int (nI q38)), (2, .int (nI j6)), (0, .ref (ad 58)), (1, .int (nI n1))]) S.1 S.2.1 dX8_learnsMost_153 hl261 (by decide) rfl (fun ls289 hl289 => ?_)
                      refine lv_iload S.1 S.2.1 dX8_learnsMost_155 (lv_at hl289 0 rfl) ?_
                      refine lv_iload S.1 S.2.1 dX8_learnsMost_157 (lv_at hl289 2 rfl) ?_
                      refine lv_icmp_le (tgt := 167) S.1 S.2.1 dX8_learnsMost_159 (by decide) (fun c290 => ?_) (fun c290 => ?_)
                      · skip
                        have k291 := ci_le (show ((-1) : Int32).toInt = -1 by decide +kernel) rfl c290
                        refine lv_iload S.1 S.2.1 dX8_learnsMost_167 (lv_at hl289 2 rfl) ?_
                        refine lv_istore (lv' := [(6, .int x261_6), (8, .int (-1)), (7, .int (nI q7261)), (5, .int (nI q524)), (4, .int r21), (3, .int (nI q38)), (2, .int (nI j6)), (0, .ref (ad 58)), (1, .int (nI n1))]) S.1 S.2.1 dX8_learnsMost_169 hl289 (by decide) rfl (fun ls292 hl292 => ?_)
                        refine lv_iinc (v := (nI (q7261 + 1))) (lv' := [(7, .int (nI (q7261 + 1))), (6, .int x261_6), (8, .int (-1)), (5, .int (nI q524)), (4, .int r21), (3, .int (nI q38)), (2, .int (nI j6)), (0, .ref (ad 58)), (1, .int (nI n1))]) S.1 S.2.1 dX8_learnsMost_171 hl292 (k := 2) rfl (nI_add _ 1) (by decide) rfl (fun ls293 hl293 => ?_)
                        refine lv_goto (tgt := 112) S.1 S.2.1 dX8_learnsMost_174 (by decide) ?_
                        exact ih261 (q7261 + 1) (x261_6) (by omega) (by omega) ls293 (lv_sub hl293 [0, 1, 3, 4, 5, 6, 7, 8] rfl)
                      have k294 := ci_nle (show ((-1) : Int32).toInt = -1 by decide +kernel) rfl c290
                      refine lv_iload S.1 S.2.1 dX8_learnsMost_162 (lv_at hl289 0 rfl) ?_
                      refine lv_goto (tgt := 169) S.1 S.2.1 dX8_learnsMost_164 (by decide) ?_
                      refine lv_istore (lv' := [(6, .int (-1)), (8, .int (-1)), (7, .int (nI q7261)), (5, .int (nI q524)), (4, .int r21), (3, .int (nI q38)), (2, .int (nI j6)), (0, .ref (ad 58)), (1, .int (nI n1))]) S.1 S.2.1 dX8_learnsMost_169 hl289 (by decide) rfl (fun ls295 hl295 => ?_)
                      refine lv_iinc (v := (nI (q7261 + 1))) (lv' := [(7, .int (nI (q7261 + 1))), (6, .int (-1)), (8, .int (-1)), (5, .int (nI q524)), (4, .int r21), (3, .int (nI q38)), (2, .int (nI j6)), (0, .ref (ad 58)), (1, .int (nI n1))]) S.1 S.2.1 dX8_learnsMost_171 hl295 (k := 2) rfl (nI_add _ 1) (by decide) rfl (fun ls296 hl296 => ?_)
                      refine lv_goto (tgt := 112) S.1 S.2.1 dX8_learnsMost_174 (by decide) ?_
                      exact ih261 (q7261 + 1) ((-1)) (by omega) (by omega) ls296 (lv_sub hl296 [0, 1, 3, 4, 5, 6, 7, 8] rfl)
                    have k297 := ci_eq rfl (nI_toInt (n := 1) (by decide)) c287
                    refine lv_aload_n S.1 S.2.1 dX8_learnsMost_139 rfl (lv_at hl261 6 rfl) ?_
                    refine lv_iload_n S.1 S.2.1 dX8_learnsMost_140 rfl (lv_at hl261 5 rfl) ?_
                    refine lv_iconst (v := (nI 1)) S.1 S.2.1 dX8_learnsMost_141 (by decide +kernel) ?_
                    refine lv_iadd S.1 S.2.1 dX8_learnsMost_142 ?_
                    refine lv_topi (fun v298 e298 => ?_)
                    obtain rfl : v298 = nI (j6 + 1) := e298.trans (nI_add _ _)
                    refine lv_iload S.1 S.2.1 dX8_learnsMost_143 (lv_at hl261 0 rfl) ?_
                    refine lv_iconst (v := (nI 0)) S.1 S.2.1 dX8_learnsMost_145 (by decide +kernel) ?_
                    have ta300 : ((nI q7261) : Int32).toInt = ((q7261 : Nat) : Int) := (nI_toInt (n := q7261) (by omega))
                    refine r_cVp (As := [.int (nI (j6 + 1)), .int (nI q7261), .int (nI 0)]) (rest := []) S hK hZ hPl24 hSl24 hl261.1 58 (by decide) hF25 (C := RX8) rfl (c_X8_mostAt l D cA ad t hI Fl24 hWl24 (j6 + 1) (by omega) (nI q7261) (0) (by omega) (by omega) (by omega)) (cwV 3 S.2.2.2.2 gX8_learnsMost_X8_mostAt rfl rfl rfl (by decide +kernel) ⟨Nat.le_of_ble_eq_true rfl, Nat.le_of_ble_eq_true rfl⟩) rfl rfl (Nat.le_of_ble_eq_true rfl) ⟨Nat.zero_le _, Nat.zero_le _⟩ dX8_learnsMost_146 (fun r299 hr299 => ?_)
                    refine lv_goto (tgt := 153) S.1 S.2.1 dX8_learnsMost_149 (by decide) ?_
                    refine lv_istore (lv' := [(8, .int r299), (7, .int (nI q7261)), (6, .int x261_6), (5, .int (nI q524)), (4, .int r21), (3, .int (nI q38)), (2, .int (nI j6)), (0, .ref (ad 58)), (1, .int (nI n1))]) S.1 S.2.1 dX8_learnsMost_153 hl261 (by decide) rfl (fun ls301 hl301 => ?_)
                    refine lv_iload S.1 S.2.1 dX8_learnsMost_155 (lv_at hl301 0 rfl) ?_
                    refine lv_iload S.1 S.2.1 dX8_learnsMost_157 (lv_at hl301 2 rfl) ?_
                    refine lv_icmp_le (tgt := 167) S.1 S.2.1 dX8_learnsMost_159 (by decide) (fun c302 => ?_) (fun c302 => ?_)
                    · skip
                      have k303 := ci_le rfl rfl c302
                      refine lv_iload S.1 S.2.1 dX8_learnsMost_167 (lv_at hl301 2 rfl) ?_
                      refine lv_istore (lv' := [(6, .int x261_6), (8, .int r299), (7, .int (nI q7261)), (5, .int (nI q524)), (4, .int r21), (3, .int (nI q38)), (2, .int (nI j6)), (0, .ref (ad 58)), (1, .int (nI n1))]) S.1 S.2.1 dX8_learnsMost_169 hl301 (by decide) rfl (fun ls304 hl304 => ?_)
                      refine lv_iinc (v := (nI (q7261 + 1))) (lv' := [(7, .int (nI (q7261 + 1))), (6, .int x261_6), (8, .int r299), (5, .int (nI q524)), (4, .int r21), (3, .int (nI q38)), (2, .int (nI j6)), (0, .ref (ad 58)), (1, .int (nI n1))]) S.1 S.2.1 dX8_learnsMost_171 hl304 (k := 2) rfl (nI_add _ 1) (by decide) rfl (fun ls305 hl305 => ?_)
                      refine lv_goto (tgt := 112) S.1 S.2.1 dX8_learnsMost_174 (by decide) ?_
                      exact ih261 (q7261 + 1) (x261_6) (by omega) (by omega) ls305 (lv_sub hl305 [0, 1, 3, 4, 5, 6, 7, 8] rfl)
                    have k306 := ci_nle rfl rfl c302
                    refine lv_iload S.1 S.2.1 dX8_learnsMost_162 (lv_at hl301 0 rfl) ?_
                    refine lv_goto (tgt := 169) S.1 S.2.1 dX8_learnsMost_164 (by decide) ?_
                    refine lv_istore (lv' := [(6, .int r299), (8, .int r299), (7, .int (nI q7261)), (5, .int (nI q524)), (4, .int r21), (3, .int (nI q38)), (2, .int (nI j6)), (0, .ref (ad 58)), (1, .int (nI n1))]) S.1 S.2.1 dX8_learnsMost_169 hl301 (by decide) rfl (fun ls307 hl307 => ?_)
                    refine lv_iinc (v := (nI (q7261 + 1))) (lv' := [(7, .int (nI (q7261 + 1))), (6, .int r299), (8, .int r299), (5, .int (nI q524)), (4, .int r21), (3, .int (nI q38)), (2, .int (nI j6)), (0, .ref (ad 58)), (1, .int (nI n1))]) S.1 S.2.1 dX8_learnsMost_171 hl307 (k := 2) rfl (nI_add _ 1) (by decide) rfl (fun ls308 hl308 => ?_)
                    refine lv_goto (tgt := 112) S.1 S.2.1 dX8_learnsMost_174 (by decide) ?_
                    exact ih261 (q7261 + 1) (r299) (by omega) (by omega) ls308 (lv_sub hl308 [0, 1, 3, 4, 5, 6, 7, 8] rfl)
                exact lp261 (8 - (0) + 1) (0) ((nI 0)) (by omega) (by omega) ls260 (lv_sub hl260 [0, 1, 2, 3, 4, 5, 6, 7] rfl)
              have k309 := ci_nle (nI_toInt (n := n1) (by omega)) (nI_toInt (n := j6) (Nat.lt_of_le_of_lt hj6 (by decide))) c258
              refine lv_iload S.1 S.2.1 dX8_learnsMost_62 (lv_at hl257 1 rfl) ?_
              refine lv_aload_n S.1 S.2.1 dX8_learnsMost_64 rfl (lv_at hl257 5 rfl) ?_
              refine r_get S hK hPl24 58 (by decide) hF25 (C := RX8) (T := TX8) (N := 23) hiX8 rfl 2 (by decide) (am_at in_wsX8_learnsMost_0 0 rfl) (v := .ref (ad 60)) rfl dX8_learnsMost_65 ?_
              refine lv_iconst (v := (nI 0)) S.1 S.2.1 dX8_learnsMost_68 (by decide +kernel) ?_
              refine r_iald S hK hPl24 60 (by decide) hF26 (vp_in_nI (show 0 < 52 by omega) (by omega)) dX8_learnsMost_69 ?_
              refine lv_topi (fun v311 e311 => ?_)
              obtain rfl : v311 = nI b29 := e311.trans he29
              refine lv_icmp_ge (tgt := 109) S.1 S.2.1 dX8_learnsMost_70 (by decide) (fun c312 => ?_) (fun c312 => ?_)
              · skip
                have k313 := ci_le (nI_toInt (n := b29) (Nat.lt_of_le_of_lt hb29 (by decide))) (nI_toInt (n := q524) (by omega)) c312
                refine lv_iconst (v := (nI 0)) S.1 S.2.1 dX8_learnsMost_109 (by decide +kernel) ?_
                refine lv_istore (lv' := [(7, .int (nI 0)), (6, .int (nI 0)), (5, .int (nI q524)), (4, .int r21), (3, .int (nI q38)), (2, .int (nI j6)), (0, .ref (ad 58)), (1, .int (nI n1))]) S.1 S.2.1 dX8_learnsMost_110 hl257 (by decide) rfl (fun ls314 hl314 => ?_)
                have lp315 : ∀ (n315 : Nat) (q7315 : Nat) (x315_6 : Int32), q7315 ≤ 8 → 8 - q7315 < n315 → ∀ (ls : Array Slot), lv_has ls 9 [(7, .int (nI q7315)), (6, .int x315_6), (5, .int (nI q524)), (4, .int r21), (3, .int (nI q38)), (2, .int (nI j6)), (0, .ref (ad 58)), (1, .int (nI n1))] → W p l e { frames := 2, cells := 0, slots := 0, locals := 48 } s m args below meth c Hl24 lol24 0 0 Q (F0 m 112 ls []) := by
                  intro n315
                  induction n315 with
                  | zero =>
                    intro q7315 x315_6 iv315_0 hm315 ls315 hl315
                    exact absurd hm315 (Nat.not_lt_zero _)
                  | succ n315 ih315 =>
                    intro q7315 x315_6 iv315_0 hm315 ls315 hl315
                    refine lv_iload S.1 S.2.1 dX8_learnsMost_112 (lv_at hl315 0 rfl) ?_
                    refine lv_aload_n S.1 S.2.1 dX8_learnsMost_114 rfl (lv_at hl315 6 rfl) ?_
                    refine r_get S hK hPl24 58 (by decide) hF25 (C := RX8) (T := TX8) (N := 23) hiX8 rfl 2 (by decide) (am_at in_wsX8_learnsMost_0 0 rfl) (v := .ref (ad 60)) rfl dX8_learnsMost_115 ?_
                    refine lv_iconst (v := (nI 2)) S.1 S.2.1 dX8_learnsMost_118 (by decide +kernel) ?_
                    refine r_iald S hK hPl24 60 (by decide) hF26 (vp_in_nI (show 2 < 52 by omega) (by omega)) dX8_learnsMost_119 ?_
                    refine lv_topi (fun v317 e317 => ?_)
                    obtain ⟨b318, hb318, he318⟩ := (pr_T (by decide) (hg26 2 (by decide))).2.1 rfl
                    obtain rfl : v317 = nI b318 := e317.trans he318
                    refine lv_icmp_ge (tgt := 177) S.1 S.2.1 dX8_learnsMost_120 (by decide) (fun c319 => ?_) (fun c319 => ?_)
                    · skip
                      have k320 := ci_le (nI_toInt (n := b318) (Nat.lt_of_le_of_lt hb318 (by decide))) (nI_toInt (n := q7315) (by omega)) c319
                      refine lv_aload_n S.1 S.2.1 dX8_learnsMost_177 rfl (lv_at hl315 6 rfl) ?_
                      refine r_get S hK hPl24 58 (by decide) hF25 (C := RX8) (T := TX8) (N := 23) hiX8 rfl 19 (by decide) (am_at in_wsX8_learnsMost_0 2 rfl) (v := .ref (ad 68)) rfl dX8_learnsMost_178 ?_
                      refine lv_bipush (v := (nI 40)) S.1 S.2.1 dX8_learnsMost_181 (by decide +kernel) ?_
                      refine lv_iload_n S.1 S.2.1 dX8_learnsMost_183 rfl (lv_at hl315 5 rfl) ?_
                      refine lv_imul S.1 S.2.1 dX8_learnsMost_184 ?_
                      refine lv_topi (fun v321 e321 => ?_)
                      obtain rfl : v321 = nI (40 * j6) := e321.trans (pk_mul _ _)
                      refine lv_iconst (v := (nI 5)) S.1 S.2.1 dX8_learnsMost_185 (by decide +kernel) ?_
                      refine lv_iload_n S.1 S.2.1 dX8_learnsMost_186 rfl (lv_at hl315 4 rfl) ?_
                      refine lv_imul S.1 S.2.1 dX8_learnsMost_187 ?_
                      refine lv_topi (fun v322 e322 => ?_)
                      obtain rfl : v322 = nI (5 * q38) := e322.trans (pk_mul _ _)
                      refine lv_iadd S.1 S.2.1 dX8_learnsMost_188 ?_
                      refine lv_topi (fun v323 e323 => ?_)
                      obtain rfl : v323 = nI ((40 * j6) + (5 * q38)) := e323.trans (nI_add _ _)
                      refine lv_iload S.1 S.2.1 dX8_learnsMost_189 (lv_at hl315 2 rfl) ?_
                      refine lv_iadd S.1 S.2.1 dX8_learnsMost_191 ?_
                      refine lv_topi (fun v324 e324 => ?_)
                      obtain rfl : v324 = nI (((40 * j6) + (5 * q38)) + q524) := e324.trans (nI_add _ _)
                      refine lv_iload S.1 S.2.1 dX8_learnsMost_192 (lv_at hl315 1 rfl) ?_
                      obtain ⟨g325, hF325, hg325⟩ := wt_I hWl24 (show (68, 1480) ∈ rLI by decide)
                      refine r_iast S hI hK hPl24 hSl24 68 (by decide) hF325 (vp_in_nI (show ((40 * j6) + (5 * q38)) + q524 < 1480 by omega) (by omega)) dX8_learnsMost_194 (fun F326 H326 locs326 eF326 hP326 hS326 => ?_)
                      have hW326 := hWl24.up eF326 (ok_I (show (68, 1480) ∈ rLI by decide) (okI_up hg325 (pr_of (by decide))))
                      have hFr326 := hFl24.up eF326 (by simp <;> first | omega | (simp only [isC, isJ] at *; omega))
                      refine lv_iinc (v := (nI (q524 + 1))) (lv' := [(5, .int (nI (q524 + 1))), (7, .int (nI q7315)), (6, .int x315_6), (4, .int r21), (3, .int (nI q38)), (2, .int (nI j6)), (0, .ref (ad 58)), (1, .int (nI n1))]) S.1 S.2.1 dX8_learnsMost_195 hl315 (k := 2) rfl (nI_add _ 1) (by decide) rfl (fun ls327 hl327 => ?_)
                      refine lv_goto (tgt := 34) S.1 S.2.1 dX8_learnsMost_198 (by decide) ?_
                      exact ih24 (q524 + 1) F326 H326 locs326 (by omega) (by omega) hW326 hFr326 hP326 hS326 ls327 (lv_sub hl327 [0, 3, 4, 5, 6, 7] rfl)
                    have k328 := ci_nle (nI_toInt (n := b318) (Nat.lt_of_le_of_lt hb318 (by decide))) (nI_toInt (n := q7315) (by omega)) c319
                    refine lv_iload_n S.1 S.2.1 dX8_learnsMost_123 rfl (lv_at hl315 5 rfl) ?_
                    refine lv_iload_n S.1 S.2.1 dX8_learnsMost_124 rfl (lv_at hl315 7 rfl) ?_
                    refine lv_icmp_ge (tgt := 177) S.1 S.2.1 dX8_learnsMost_125 (by decide) (fun c329 => ?_) (fun c329 => ?_)
                    · skip
                      have k330 := ci_le (nI_toInt (n := n1) (by omega)) (nI_toInt (n := j6) (Nat.lt_of_le_of_lt hj6 (by decide))) c329
                      refine lv_aload_n S.1 S.2.1 dX8_learnsMost_177 rfl (lv_at hl315 6 rfl) ?_
                      refine r_get S hK hPl24 58 (by decide) hF25 (C := RX8) (T := TX8) (N := 23) hiX8 rfl 19 (by decide) (am_at in_wsX8_learnsMost_0 2 rfl) (v := .ref (ad 68)) rfl dX8_learnsMost_178 ?_
                      refine lv_bipush (v := (nI 40)) S.1 S.2.1 dX8_learnsMost_181 (by decide +kernel) ?_
                      refine lv_iload_n S.1 S.2.1 dX8_learnsMost_183 rfl (lv_at hl315 5 rfl) ?_
                      refine lv_imul S.1 S.2.1 dX8_learnsMost_184 ?_
                      refine lv_topi (fun v331 e331 => ?_)
                      obtain rfl : v331 = nI (40 * j6) := e331.trans (pk_mul _ _)
                      refine lv_iconst (v := (nI 5)) S.1 S.2.1 dX8_learnsMost_185 (by decide +kernel) ?_
                      refine lv_iload_n S.1 S.2.1 dX8_learnsMost_186 rfl (lv_at hl315 4 rfl) ?_
                      refine lv_imul S.1 S.2.1 dX8_learnsMost_187 ?_
                      refine lv_topi (fun v332 e332 => ?_)
                      obtain rfl : v332 = nI (5 * q38) := e332.trans (pk_mul _ _)
                      refine lv_iadd S.1 S.2.1 dX8_learnsMost_188 ?_
                      refine lv_topi (fun v333 e333 => ?_)
                      obtain rfl : v333 = nI ((40 * j6) + (5 * q38)) := e333.trans (nI_add _ _)
                      refine lv_iload S.1 S.2.1 dX8_learnsMost_189 (lv_at hl315 2 rfl) ?_
                      refine lv_iadd S.1 S.2.1 dX8_learnsMost_191 ?_
                      refine lv_topi (fun v334 e334 => ?_)
                      obtain rfl : v334 = nI (((40 * j6) + (5 * q38)) + q524) := e334.trans (nI_add _ _)
                      refine lv_iload S.1 S.2.1 dX8_learnsMost_192 (lv_at hl315 1 rfl) ?_
                      obtain ⟨g335, hF335, hg335⟩ := wt_I hWl24 (show (68, 1480) ∈ rLI by decide)
                      refine r_iast S hI hK hPl24 hSl24 68 (by decide) hF335 (vp_in_nI (show ((40 * j6) + (5 * q38)) + q524 < 1480 by omega) (by omega)) dX8_learnsMost_194 (fun F336 H336 locs336 eF336 hP336 hS336 => ?_)
                      have hW336 := hWl24.up eF336 (ok_I (show (68, 1480) ∈ rLI by decide) (okI_up hg335 (pr_of (by decide))))
                      have hFr336 := hFl24.up eF336 (by simp <;> first | omega | (simp only [isC, isJ] at *; omega))
                      refine lv_iinc (v := (nI (q524 + 1))) (lv' := [(5, .int (nI (q524 + 1))), (7, .int (nI q7315)), (6, .int x315_6), (4, .int r21), (3, .int (nI q38)), (2, .int (nI j6)), (0, .ref (ad 58)), (1, .int (nI n1))]) S.1 S.2.1 dX8_learnsMost_195 hl315 (k := 2) rfl (nI_add _ 1) (by decide) rfl (fun ls337 hl337 => ?_)
                      refine lv_goto (tgt := 34) S.1 S.2.1 dX8_learnsMost_198 (by decide) ?_
                      exact ih24 (q524 + 1) F336 H336 locs336 (by omega) (by omega) hW336 hFr336 hP336 hS336 ls337 (lv_sub hl337 [0, 3, 4, 5, 6, 7] rfl)
                    have k338 := ci_nle (nI_toInt (n := n1) (by omega)) (nI_toInt (n := j6) (Nat.lt_of_le_of_lt hj6 (by decide))) c329
                    refine lv_iload S.1 S.2.1 dX8_learnsMost_128 (lv_at hl315 3 rfl) ?_
                    refine lv_iload S.1 S.2.1 dX8_learnsMost_130 (lv_at hl315 0 rfl) ?_
                    refine lv_ishr S.1 S.2.1 dX8_learnsMost_132 ?_
                    refine lv_topi (fun v339 e339 => ?_)
                    refine lv_iconst (v := (nI 1)) S.1 S.2.1 dX8_learnsMost_133 (by decide +kernel) ?_
                    refine lv_iand S.1 S.2.1 dX8_learnsMost_134 ?_
                    refine lv_topi (fun v340 e340 => ?_)
                    refine lv_iconst (v := (nI 1)) S.1 S.2.1 dX8_learnsMost_135 (by decide +kernel) ?_
                    refine lv_icmp_ne (tgt := 152) S.1 S.2.1 dX8_learnsMost_136 (by decide) (fun c341 => ?_) (fun c341 => ?_)
                    · skip
                      have k342 := ci_ne rfl (nI_toInt (n := 1) (by decide)) c341
                      refine lv_iconst (v := (-1)) S.1 S.2.1 dX8_learnsMost_152 (by decide +kernel) ?_
                      refine lv_istore (lv' := [(8, .int (-1)), (7, .int (nI q7315)), (6, .int x315_6), (5, .int (nI q524)), (4, .int r21), (3, .int (nI q38)), (2, .int (nI j6)), (0, .ref (ad 58)), (1, .int (nI n1))]) S.1 S.2.1 dX8_learnsMost_153 hl315 (by decide) rfl (fun ls343 hl343 => ?_)
                      refine lv_iload S.1 S.2.1 dX8_learnsMost_155 (lv_at hl343 0 rfl) ?_
                      refine lv_iload S.1 S.2.1 dX8_learnsMost_157 (lv_at hl343 2 rfl) ?_
                      refine lv_icmp_le (tgt := 167) S.1 S.2.1 dX8_learnsMost_159 (by decide) (fun c344 => ?_) (fun c344 => ?_)
                      · skip
                        have k345 := ci_le (show ((-1) : Int32).toInt = -1 by decide +kernel) rfl c344
                        refine lv_iload S.1 S.2.1 dX8_learnsMost_167 (lv_at hl343 2 rfl) ?_
                        refine lv_istore (lv' := [(6, .int x315_6), (8, .int (-1)), (7, .int (nI q7315)), (5, .int (nI q524)), (4, .int r21), (3, .int (nI q38)), (2, .int (nI j6)), (0, .ref (ad 58)), (1, .int (nI n1))]) S.1 S.2.1 dX8_learnsMost_169 hl343 (by decide) rfl (fun ls346 hl346 => ?_)
                        refine lv_iinc (v := (nI (q7315 + 1))) (lv' := [(7, .int (nI (q7315 + 1))), (6, .int x315_6), (8, .int (-1)), (5, .int (nI q524)), (4, .int r21), (3, .int (nI q38)), (2, .int (nI j6)), (0, .ref (ad 58)), (1, .int (nI n1))]) S.1 S.2.1 dX8_learnsMost_171 hl346 (k := 2) rfl (nI_add _ 1) (by decide) rfl (fun ls347 hl347 => ?_)
                        refine lv_goto (tgt := 112) S.1 S.2.1 dX8_learnsMost_174 (by decide) ?_
                        exact ih315 (q7315 + 1) (x315_6) (by omega) (by omega) ls347 (lv_sub hl347 [0, 1, 3, 4, 5, 6, 7, 8] rfl)
                      have k348 := ci_nle (show ((-1) : Int32).toInt = -1 by decide +kernel) rfl c344
                      refine lv_iload S.1 S.2.1 dX8_learnsMost_162 (lv_at hl343 0 rfl) ?_
                      refine lv_goto (tgt := 169) S.1 S.2.1 dX8_learnsMost_164 (by decide) ?_
                      refine lv_istore (lv' := [(6, .int (-1)), (8, .int (-1)), (7, .int (nI q7315)), (5, .int (nI q524)), (4, .int r21), (3, .int (nI q38)), (2, .int (nI j6)), (0, .ref (ad 58)), (1, .int (nI n1))]) S.1 S.2.1 dX8_learnsMost_169 hl343 (by decide) rfl (fun ls349 hl349 => ?_)
                      refine lv_iinc (v := (nI (q7315 + 1))) (lv' := [(7, .int (nI (q7315 + 1))), (6, .int (-1)), (8, .int (-1)), (5, .int (nI q524)), (4, .int r21), (3, .int (nI q38)), (2, .int (nI j6)), (0, .ref (ad 58)), (1, .int (nI n1))]) S.1 S.2.1 dX8_learnsMost_171 hl349 (k := 2) rfl (nI_add _ 1) (by decide) rfl (fun ls350 hl350 => ?_)
                      refine lv_goto (tgt := 112) S.1 S.2.1 dX8_learnsMost_174 (by decide) ?_
                      exact ih315 (q7315 + 1) ((-1)) (by omega) (by omega) ls350 (lv_sub hl350 [0, 1, 3, 4, 5, 6, 7, 8] rfl)
                    have k351 := ci_eq rfl (nI_toInt (n := 1) (by decide)) c341
                    refine lv_aload_n S.1 S.2.1 dX8_learnsMost_139 rfl (lv_at hl315 6 rfl) ?_
                    refine lv_iload_n S.1 S.2.1 dX8_learnsMost_140 rfl (lv_at hl315 5 rfl) ?_
                    refine lv_iconst (v := (nI 1)) S.1 S.2.1 dX8_learnsMost_141 (by decide +kernel) ?_
                    refine lv_iadd S.1 S.2.1 dX8_learnsMost_142 ?_
                    refine lv_topi (fun v352 e352 => ?_)
                    obtain rfl : v352 = nI (j6 + 1) := e352.trans (nI_add _ _)
                    refine lv_iload S.1 S.2.1 dX8_learnsMost_143 (lv_at hl315 0 rfl) ?_
                    refine lv_iconst (v := (nI 0)) S.1 S.2.1 dX8_learnsMost_145 (by decide +kernel) ?_
                    have ta354 : ((nI q7315) : Int32).toInt = ((q7315 : Nat) : Int) := (nI_toInt (n := q7315) (by omega))
                    refine r_cVp (As := [.int (nI (j6 + 1)), .int (nI q7315), .int (nI 0)]) (rest := []) S hK hZ hPl24 hSl24 hl315.1 58 (by decide) hF25 (C := RX8) rfl (c_X8_mostAt l D cA ad t hI Fl24 hWl24 (j6 + 1) (by omega) (nI q7315) (0) (by omega) (by omega) (by omega)) (cwV 3 S.2.2.2.2 gX8_learnsMost_X8_mostAt rfl rfl rfl (by decide +kernel) ⟨Nat.le_of_ble_eq_true rfl, Nat.le_of_ble_eq_true rfl⟩) rfl rfl (Nat.le_of_ble_eq_true rfl) ⟨Nat.zero_le _, Nat.zero_le _⟩ dX8_learnsMost_146 (fun r353 hr353 => ?_)
                    refine lv_goto (tgt := 153) S.1 S.2.1 dX8_learnsMost_149 (by decide) ?_
                    refine lv_istore (lv' := [(8, .int r353), (7, .int (nI q7315)), (6, .int x315_6), (5, .int (nI q524)), (4, .int r21), (3, .int (nI q38)), (2, .int (nI j6)), (0, .ref (ad 58)), (1, .int (nI n1))]) S.1 S.2.1 dX8_learnsMost_153 hl315 (by decide) rfl (fun ls355 hl355 => ?_)
                    refine lv_iload S.1 S.2.1 dX8_learnsMost_155 (lv_at hl355 0 rfl) ?_
                    refine lv_iload S.1 S.2.1 dX8_learnsMost_157 (lv_at hl355 2 rfl) ?_
                    refine lv_icmp_le (tgt := 167) S.1 S.2.1 dX8_learnsMost_159 (by decide) (fun c356 => ?_) (fun c356 => ?_)
                    · skip
                      have k357 := ci_le rfl rfl c356
                      refine lv_iload S.1 S.2.1 dX8_learnsMost_167 (lv_at hl355 2 rfl) ?_
                      refine lv_istore (lv' := [(6, .int x315_6), (8, .int r353), (7, .int (nI q7315)), (5, .int (nI q524)), (4, .int r21), (3, .int (nI q38)), (2, .int (nI j6)), (0, .ref (ad 58)), (1, .int (nI n1))]) S.1 S.2.1 dX8_learnsMost_169 hl355 (by decide) rfl (fun ls358 hl358 => ?_)
                      refine lv_iinc (v := (nI (q7315 + 1))) (lv' := [(7, .int (nI (q7315 + 1))), (6, .int x315_6), (8, .int r353), (5, .int (nI q524)), (4, .int r21), (3, .int (nI q38)), (2, .int (nI j6)), (0, .ref (ad 58)), (1, .int (nI n1))]) S.1 S.2.1 dX8_learnsMost_171 hl358 (k := 2) rfl (nI_add _ 1) (by decide) rfl (fun ls359 hl359 => ?_)
                      refine lv_goto (tgt := 112) S.1 S.2.1 dX8_learnsMost_174 (by decide) ?_
                      exact ih315 (q7315 + 1) (x315_6) (by omega) (by omega) ls359 (lv_sub hl359 [0, 1, 3, 4, 5, 6, 7, 8] rfl)
                    have k360 := ci_nle rfl rfl c356
                    refine lv_iload S.1 S.2.1 dX8_learnsMost_162 (lv_at hl355 0 rfl) ?_
                    refine lv_goto (tgt := 169) S.1 S.2.1 dX8_learnsMost_164 (by decide) ?_
                    refine lv_istore (lv' := [(6, .int r353), (8, .int r353), (7, .int (nI q7315)), (5, .int (nI q524)), (4, .int r21), (3, .int (nI q38)), (2, .int (nI j6)), (0, .ref (ad 58)), (1, .int (nI n1))]) S.1 S.2.1 dX8_learnsMost_169 hl355 (by decide) rfl (fun ls361 hl361 => ?_)
                    refine lv_iinc (v := (nI (q7315 + 1))) (lv' := [(7, .int (nI (q7315 + 1))), (6, .int r353), (8, .int r353), (5, .int (nI q524)), (4, .int r21), (3, .int (nI q38)), (2, .int (nI j6)), (0, .ref (ad 58)), (1, .int (nI n1))]) S.1 S.2.1 dX8_learnsMost_171 hl361 (k := 2) rfl (nI_add _ 1) (by decide) rfl (fun ls362 hl362 => ?_)
                    refine lv_goto (tgt := 112) S.1 S.2.1 dX8_learnsMost_174 (by decide) ?_
                    exact ih315 (q7315 + 1) (r353) (by omega) (by omega) ls362 (lv_sub hl362 [0, 1, 3, 4, 5, 6, 7, 8] rfl)
                exact lp315 (8 - (0) + 1) (0) ((nI 0)) (by omega) (by omega) ls314 (lv_sub hl314 [0, 1, 2, 3, 4, 5, 6, 7] rfl)
              have k363 := ci_nle (nI_toInt (n := b29) (Nat.lt_of_le_of_lt hb29 (by decide))) (nI_toInt (n := q524) (by omega)) c312
              refine lv_aload_n S.1 S.2.1 dX8_learnsMost_73 rfl (lv_at hl257 5 rfl) ?_
              refine lv_iload_n S.1 S.2.1 dX8_learnsMost_74 rfl (lv_at hl257 4 rfl) ?_
              refine lv_iconst (v := (nI 1)) S.1 S.2.1 dX8_learnsMost_75 (by decide +kernel) ?_
              refine lv_iadd S.1 S.2.1 dX8_learnsMost_76 ?_
              refine lv_topi (fun v364 e364 => ?_)
              obtain rfl : v364 = nI (j6 + 1) := e364.trans (nI_add _ _)
              refine lv_iload_n S.1 S.2.1 dX8_learnsMost_77 rfl (lv_at hl257 3 rfl) ?_
              refine lv_iload S.1 S.2.1 dX8_learnsMost_78 (lv_at hl257 1 rfl) ?_
              refine lv_iconst (v := (nI 1)) S.1 S.2.1 dX8_learnsMost_80 (by decide +kernel) ?_
              refine lv_iadd S.1 S.2.1 dX8_learnsMost_81 ?_
              refine lv_topi (fun v365 e365 => ?_)
              obtain rfl : v365 = nI (q524 + 1) := e365.trans (nI_add _ _)
              have ta367 : ((nI q38) : Int32).toInt = ((q38 : Nat) : Int) := (nI_toInt (n := q38) (by omega))
              refine r_cVp (As := [.int (nI (j6 + 1)), .int (nI q38), .int (nI (q524 + 1))]) (rest := []) S hK hZ hPl24 hSl24 hl257.1 58 (by decide) hF25 (C := RX8) rfl (c_X8_mostAt l D cA ad t hI Fl24 hWl24 (j6 + 1) (by omega) (nI q38) (q524 + 1) (by omega) (by omega) (by omega)) (cwV 3 S.2.2.2.2 gX8_learnsMost_X8_mostAt rfl rfl rfl (by decide +kernel) ⟨Nat.le_of_ble_eq_true rfl, Nat.le_of_ble_eq_true rfl⟩) rfl rfl (Nat.le_of_ble_eq_true rfl) ⟨Nat.zero_le _, Nat.zero_le _⟩ dX8_learnsMost_82 (fun r366 hr366 => ?_)
              refine lv_if_lt (tgt := 109) S.1 S.2.1 dX8_learnsMost_85 (by decide) (fun c368 => ?_) (fun c368 => ?_)
              · skip
                have k369 := ci_lt rfl z_ti c368
                refine lv_iconst (v := (nI 0)) S.1 S.2.1 dX8_learnsMost_109 (by decide +kernel) ?_
                refine lv_istore (lv' := [(7, .int (nI 0)), (6, .int (nI 0)), (5, .int (nI q524)), (4, .int r21), (3, .int (nI q38)), (2, .int (nI j6)), (0, .ref (ad 58)), (1, .int (nI n1))]) S.1 S.2.1 dX8_learnsMost_110 hl257 (by decide) rfl (fun ls370 hl370 => ?_)
                have lp371 : ∀ (n371 : Nat) (q7371 : Nat) (x371_6 : Int32), q7371 ≤ 8 → 8 - q7371 < n371 → ∀ (ls : Array Slot), lv_has ls 9 [(7, .int (nI q7371)), (6, .int x371_6), (5, .int (nI q524)), (4, .int r21), (3, .int (nI q38)), (2, .int (nI j6)), (0, .ref (ad 58)), (1, .int (nI n1))] → W p l e { frames := 2, cells := 0, slots := 0, locals := 48 } s m args below meth c Hl24 lol24 0 0 Q (F0 m 112 ls []) := by
                  intro n371
                  induction n371 with
                  | zero =>
                    intro q7371 x371_6 iv371_0 hm371 ls371 hl371
                    exact absurd hm371 (Nat.not_lt_zero _)
                  | succ n371 ih371 =>
                    intro q7371 x371_6 iv371_0 hm371 ls371 hl371
                    refine lv_iload S.1 S.2.1 dX8_learnsMost_112 (lv_at hl371 0 rfl) ?_
                    refine lv_aload_n S.1 S.2.1 dX8_learnsMost_114 rfl (lv_at hl371 6 rfl) ?_
                    refine r_get S hK hPl24 58 (by decide) hF25 (C := RX8) (T := TX8) (N := 23) hiX8 rfl 2 (by decide) (am_at in_wsX8_learnsMost_0 0 rfl) (v := .ref (ad 60)) rfl dX8_learnsMost_115 ?_
                    refine lv_iconst (v := (nI 2)) S.1 S.2.1 dX8_learnsMost_118 (by decide +kernel) ?_
                    refine r_iald S hK hPl24 60 (by decide) hF26 (vp_in_nI (show 2 < 52 by omega) (by omega)) dX8_learnsMost_119 ?_
                    refine lv_topi (fun v373 e373 => ?_)
                    obtain ⟨b374, hb374, he374⟩ := (pr_T (by decide) (hg26 2 (by decide))).2.1 rfl
                    obtain rfl : v373 = nI b374 := e373.trans he374
                    refine lv_icmp_ge (tgt := 177) S.1 S.2.1 dX8_learnsMost_120 (by decide) (fun c375 => ?_) (fun c375 => ?_)
                    · skip
                      have k376 := ci_le (nI_toInt (n := b374) (Nat.lt_of_le_of_lt hb374 (by decide))) (nI_toInt (n := q7371) (by omega)) c375
                      refine lv_aload_n S.1 S.2.1 dX8_learnsMost_177 rfl (lv_at hl371 6 rfl) ?_
                      refine r_get S hK hPl24 58 (by decide) hF25 (C := RX8) (T := TX8) (N := 23) hiX8 rfl 19 (by decide) (am_at in_wsX8_learnsMost_0 2 rfl) (v := .ref (ad 68)) rfl dX8_learnsMost_178 ?_
                      refine lv_bipush (v := (nI 40)) S.1 S.2.1 dX8_learnsMost_181 (by decide +kernel) ?_
                      refine lv_iload_n S.1 S.2.1 dX8_learnsMost_183 rfl (lv_at hl371 5 rfl) ?_
                      refine lv_imul S.1 S.2.1 dX8_learnsMost_184 ?_
                      refine lv_topi (fun v377 e377 => ?_)
                      obtain rfl : v377 = nI (40 * j6) := e377.trans (pk_mul _ _)
                      refine lv_iconst (v := (nI 5)) S.1 S.2.1 dX8_learnsMost_185 (by decide +kernel) ?_
                      refine lv_iload_n S.1 S.2.1 dX8_learnsMost_186 rfl (lv_at hl371 4 rfl) ?_
                      refine lv_imul S.1 S.2.1 dX8_learnsMost_187 ?_
                      refine lv_topi (fun v378 e378 => ?_)
                      obtain rfl : v378 = nI (5 * q38) := e378.trans (pk_mul _ _)
                      refine lv_iadd S.1 S.2.1 dX8_learnsMost_188 ?_
                      refine lv_topi (fun v379 e379 => ?_)
                      obtain rfl : v379 = nI ((40 * j6) + (5 * q38)) := e379.trans (nI_add _ _)
                      refine lv_iload S.1 S.2.1 dX8_learnsMost_189 (lv_at hl371 2 rfl) ?_
                      refine lv_iadd S.1 S.2.1 dX8_learnsMost_191 ?_
                      refine lv_topi (fun v380 e380 => ?_)
                      obtain rfl : v380 = nI (((40 * j6) + (5 * q38)) + q524) := e380.trans (nI_add _ _)
                      refine lv_iload S.1 S.2.1 dX8_learnsMost_192 (lv_at hl371 1 rfl) ?_
                      obtain ⟨g381, hF381, hg381⟩ := wt_I hWl24 (show (68, 1480) ∈ rLI by decide)
                      refine r_iast S hI hK hPl24 hSl24 68 (by decide) hF381 (vp_in_nI (show ((40 * j6) + (5 * q38)) + q524 < 1480 by omega) (by omega)) dX8_learnsMost_194 (fun F382 H382 locs382 eF382 hP382 hS382 => ?_)
                      have hW382 := hWl24.up eF382 (ok_I (show (68, 1480) ∈ rLI by decide) (okI_up hg381 (pr_of (by decide))))
                      have hFr382 := hFl24.up eF382 (by simp <;> first | omega | (simp only [isC, isJ] at *; omega))
                      refine lv_iinc (v := (nI (q524 + 1))) (lv' := [(5, .int (nI (q524 + 1))), (7, .int (nI q7371)), (6, .int x371_6), (4, .int r21), (3, .int (nI q38)), (2, .int (nI j6)), (0, .ref (ad 58)), (1, .int (nI n1))]) S.1 S.2.1 dX8_learnsMost_195 hl371 (k := 2) rfl (nI_add _ 1) (by decide) rfl (fun ls383 hl383 => ?_)
                      refine lv_goto (tgt := 34) S.1 S.2.1 dX8_learnsMost_198 (by decide) ?_
                      exact ih24 (q524 + 1) F382 H382 locs382 (by omega) (by omega) hW382 hFr382 hP382 hS382 ls383 (lv_sub hl383 [0, 3, 4, 5, 6, 7] rfl)
                    have k384 := ci_nle (nI_toInt (n := b374) (Nat.lt_of_le_of_lt hb374 (by decide))) (nI_toInt (n := q7371) (by omega)) c375
                    refine lv_iload_n S.1 S.2.1 dX8_learnsMost_123 rfl (lv_at hl371 5 rfl) ?_
                    refine lv_iload_n S.1 S.2.1 dX8_learnsMost_124 rfl (lv_at hl371 7 rfl) ?_
                    refine lv_icmp_ge (tgt := 177) S.1 S.2.1 dX8_learnsMost_125 (by decide) (fun c385 => ?_) (fun c385 => ?_)
                    · skip
                      have k386 := ci_le (nI_toInt (n := n1) (by omega)) (nI_toInt (n := j6) (Nat.lt_of_le_of_lt hj6 (by decide))) c385
                      refine lv_aload_n S.1 S.2.1 dX8_learnsMost_177 rfl (lv_at hl371 6 rfl) ?_
                      refine r_get S hK hPl24 58 (by decide) hF25 (C := RX8) (T := TX8) (N := 23) hiX8 rfl 19 (by decide) (am_at in_wsX8_learnsMost_0 2 rfl) (v := .ref (ad 68)) rfl dX8_learnsMost_178 ?_
                      refine lv_bipush (v := (nI 40)) S.1 S.2.1 dX8_learnsMost_181 (by decide +kernel) ?_
                      refine lv_iload_n S.1 S.2.1 dX8_learnsMost_183 rfl (lv_at hl371 5 rfl) ?_
                      refine lv_imul S.1 S.2.1 dX8_learnsMost_184 ?_
                      refine lv_topi (fun v387 e387 => ?_)
                      obtain rfl : v387 = nI (40 * j6) := e387.trans (pk_mul _ _)
                      refine lv_iconst (v := (nI 5)) S.1 S.2.1 dX8_learnsMost_185 (by decide +kernel) ?_
                      refine lv_iload_n S.1 S.2.1 dX8_learnsMost_186 rfl (lv_at hl371 4 rfl) ?_
                      refine lv_imul S.1 S.2.1 dX8_learnsMost_187 ?_
                      refine lv_topi (fun v388 e388 => ?_)
                      obtain rfl : v388 = nI (5 * q38) := e388.trans (pk_mul _ _)
                      refine lv_iadd S.1 S.2.1 dX8_learnsMost_188 ?_
                      refine lv_topi (fun v389 e389 => ?_)
                      obtain rfl : v389 = nI ((40 * j6) + (5 * q38)) := e389.trans (nI_add _ _)
                      refine lv_iload S.1 S.2.1 dX8_learnsMost_189 (lv_at hl371 2 rfl) ?_
                      refine lv_iadd S.1 S.2.1 dX8_learnsMost_191 ?_
                      refine lv_topi (fun v390 e390 => ?_)
                      obtain rfl : v390 = nI (((40 * j6) + (5 * q38)) + q524) := e390.trans (nI_add _ _)
                      refine lv_iload S.1 S.2.1 dX8_learnsMost_192 (lv_at hl371 1 rfl) ?_
                      obtain ⟨g391, hF391, hg391⟩ := wt_I hWl24 (show (68, 1480) ∈ rLI by decide)
                      refine r_iast S hI hK hPl24 hSl24 68 (by decide) hF391 (vp_in_nI (show ((40 * j6) + (5 * q38)) + q524 < 1480 by omega) (by omega)) dX8_learnsMost_194 (fun F392 H392 locs392 eF392 hP392 hS392 => ?_)
                      have hW392 := hWl24.up eF392 (ok_I (show (68, 1480) ∈ rLI by decide) (okI_up hg391 (pr_of (by decide))))
                      have hFr392 := hFl24.up eF392 (by simp <;> first | omega | (simp only [isC, isJ] at *; omega))
                      refine lv_iinc (v := (nI (q524 + 1))) (lv' := [(5, .int (nI (q524 + 1))), (7, .int (nI q7371)), (6, .int x371_6), (4, .int r21), (3, .int (nI q38)), (2, .int (nI j6)), (0, .ref (ad 58)), (1, .int (nI n1))]) S.1 S.2.1 dX8_learnsMost_195 hl371 (k := 2) rfl (nI_add _ 1) (by decide) rfl (fun ls393 hl393 => ?_)
                      refine lv_goto (tgt := 34) S.1 S.2.1 dX8_learnsMost_198 (by decide) ?_
                      exact ih24 (q524 + 1) F392 H392 locs392 (by omega) (by omega) hW392 hFr392 hP392 hS392 ls393 (lv_sub hl393 [0, 3, 4, 5, 6, 7] rfl)
                    have k394 := ci_nle (nI_toInt (n := n1) (by omega)) (nI_toInt (n := j6) (Nat.lt_of_le_of_lt hj6 (by decide))) c385
                    refine lv_iload S.1 S.2.1 dX8_learnsMost_128 (lv_at hl371 3 rfl) ?_
                    refine lv_iload S.1 S.2.1 dX8_learnsMost_130 (lv_at hl371 0 rfl) ?_
                    refine lv_ishr S.1 S.2.1 dX8_learnsMost_132 ?_
                    refine lv_topi (fun v395 e395 => ?_)
                    refine lv_iconst (v := (nI 1)) S.1 S.2.1 dX8_learnsMost_133 (by decide +kernel) ?_
                    refine lv_iand S.1 S.2.1 dX8_learnsMost_134 ?_
                    refine lv_topi (fun v396 e396 => ?_)
                    refine lv_iconst (v := (nI 1)) S.1 S.2.1 dX8_learnsMost_135 (by decide +kernel) ?_
                    refine lv_icmp_ne (tgt := 152) S.1 S.2.1 dX8_learnsMost_136 (by decide) (fun c397 => ?_) (fun c397 => ?_)
                    · skip
                      have k398 := ci_ne rfl (nI_toInt (n := 1) (by decide)) c397
                      refine lv_iconst (v := (-1)) S.1 S.2.1 dX8_learnsMost_152 (by decide +kernel) ?_
                      refine lv_istore (lv' := [(8, .int (-1)), (7, .int (nI q7371)), (6, .int x371_6), (5, .int (nI q524)), (4, .int r21), (3, .int (nI q38)), (2, .int (nI j6)), (0, .ref (ad 58)), (1, .int (nI n1))]) S.1 S.2.1 dX8_learnsMost_153 hl371 (by decide) rfl (fun ls399 hl399 => ?_)
                      refine lv_iload S.1 S.2.1 dX8_learnsMost_155 (lv_at hl399 0 rfl) ?_
                      refine lv_iload S.1 S.2.1 dX8_learnsMost_157 (lv_at hl399 2 rfl) ?_
                      refine lv_icmp_le (tgt := 167) S.1 S.2.1 dX8_learnsMost_159 (by decide) (fun c400 => ?_) (fun c400 => ?_)
                      · skip
                        have k401 := ci_le (show ((-1) : Int32).toInt = -1 by decide +kernel) rfl c400
                        refine lv_iload S.1 S.2.1 dX8_learnsMost_167 (lv_at hl399 2 rfl) ?_
                        refine lv_istore (lv' := [(6, .int x371_6), (8, .int (-1)), (7, .int (nI q7371)), (5, .int (nI q524)), (4, .int r21), (3, .int (nI q38)), (2, .int (nI j6)), (0, .ref (ad 58)), (1, .int (nI n1))]) S.1 S.2.1 dX8_learnsMost_169 hl399 (by decide) rfl (fun ls402 hl402 => ?_)
                        refine lv_iinc (v := (nI (q7371 + 1))) (lv' := [(7, .int (nI (q7371 + 1))), (6, .int x371_6), (8, .int (-1)), (5, .int (nI q524)), (4, .int r21), (3, .int (nI q38)), (2, .int (nI j6)), (0, .ref (ad 58)), (1, .int (nI n1))]) S.1 S.2.1 dX8_learnsMost_171 hl402 (k := 2) rfl (nI_add _ 1) (by decide) rfl (fun ls403 hl403 => ?_)
                        refine lv_goto (tgt := 112) S.1 S.2.1 dX8_learnsMost_174 (by decide) ?_
                        exact ih371 (q7371 + 1) (x371_6) (by omega) (by omega) ls403 (lv_sub hl403 [0, 1, 3, 4, 5, 6, 7, 8] rfl)
                      have k404 := ci_nle (show ((-1) : Int32).toInt = -1 by decide +kernel) rfl c400
                      refine lv_iload S.1 S.2.1 dX8_learnsMost_162 (lv_at hl399 0 rfl) ?_
                      refine lv_goto (tgt := 169) S.1 S.2.1 dX8_learnsMost_164 (by decide) ?_
                      refine lv_istore (lv' := [(6, .int (-1)), (8, .int (-1)), (7, .int (nI q7371)), (5, .int (nI q524)), (4, .int r21), (3, .int (nI q38)), (2, .int (nI j6)), (0, .ref (ad 58)), (1, .int (nI n1))]) S.1 S.2.1 dX8_learnsMost_169 hl399 (by decide) rfl (fun ls405 hl405 => ?_)
                      refine lv_iinc (v := (nI (q7371 + 1))) (lv' := [(7, .int (nI (q7371 + 1))), (6, .int (-1)), (8, .int (-1)), (5, .int (nI q524)), (4, .int r21), (3, .int (nI q38)), (2, .int (nI j6)), (0, .ref (ad 58)), (1, .int (nI n1))]) S.1 S.2.1 dX8_learnsMost_171 hl405 (k := 2) rfl (nI_add _ 1) (by decide) rfl (fun ls406 hl406 => ?_)
                      refine lv_goto (tgt := 112) S.1 S.2.1 dX8_learnsMost_174 (by decide) ?_
                      exact ih371 (q7371 + 1) ((-1)) (by omega) (by omega) ls406 (lv_sub hl406 [0, 1, 3, 4, 5, 6, 7, 8] rfl)
                    have k407 := ci_eq rfl (nI_toInt (n := 1) (by decide)) c397
                    refine lv_aload_n S.1 S.2.1 dX8_learnsMost_139 rfl (lv_at hl371 6 rfl) ?_
                    refine lv_iload_n S.1 S.2.1 dX8_learnsMost_140 rfl (lv_at hl371 5 rfl) ?_
                    refine lv_iconst (v := (nI 1)) S.1 S.2.1 dX8_learnsMost_141 (by decide +kernel) ?_
                    refine lv_iadd S.1 S.2.1 dX8_learnsMost_142 ?_
                    refine lv_topi (fun v408 e408 => ?_)
                    obtain rfl : v408 = nI (j6 + 1) := e408.trans (nI_add _ _)
                    refine lv_iload S.1 S.2.1 dX8_learnsMost_143 (lv_at hl371 0 rfl) ?_
                    refine lv_iconst (v := (nI 0)) S.1 S.2.1 dX8_learnsMost_145 (by decide +kernel) ?_
                    have ta410 : ((nI q7371) : Int32).toInt = ((q7371 : Nat) : Int) := (nI_toInt (n := q7371) (by omega))
                    refine r_cVp (As := [.int (nI (j6 + 1)), .int (nI q7371), .int (nI 0)]) (rest := []) S hK hZ hPl24 hSl24 hl371.1 58 (by decide) hF25 (C := RX8) rfl (c_X8_mostAt l D cA ad t hI Fl24 hWl24 (j6 + 1) (by omega) (nI q7371) (0) (by omega) (by omega) (by omega)) (cwV 3 S.2.2.2.2 gX8_learnsMost_X8_mostAt rfl rfl rfl (by decide +kernel) ⟨Nat.le_of_ble_eq_true rfl, Nat.le_of_ble_eq_true rfl⟩) rfl rfl (Nat.le_of_ble_eq_true rfl) ⟨Nat.zero_le _, Nat.zero_le _⟩ dX8_learnsMost_146 (fun r409 hr409 => ?_)
                    refine lv_goto (tgt := 153) S.1 S.2.1 dX8_learnsMost_149 (by decide) ?_
                    refine lv_istore (lv' := [(8, .int r409), (7, .int (nI q7371)), (6, .int x371_6), (5, .int (nI q524)), (4, .int r21), (3, .int (nI q38)), (2, .int (nI j6)), (0, .ref (ad 58)), (1, .int (nI n1))]) S.1 S.2.1 dX8_learnsMost_153 hl371 (by decide) rfl (fun ls411 hl411 => ?_)
                    refine lv_iload S.1 S.2.1 dX8_learnsMost_155 (lv_at hl411 0 rfl) ?_
                    refine lv_iload S.1 S.2.1 dX8_learnsMost_157 (lv_at hl411 2 rfl) ?_
                    refine lv_icmp_le (tgt := 167) S.1 S.2.1 dX8_learnsMost_159 (by decide) (fun c412 => ?_) (fun c412 => ?_)
                    · skip
                      have k413 := ci_le rfl rfl c412
                      refine lv_iload S.1 S.2.1 dX8_learnsMost_167 (lv_at hl411 2 rfl) ?_
                      refine lv_istore (lv' := [(6, .int x371_6), (8, .int r409), (7, .int (nI q7371)), (5, .int (nI q524)), (4, .int r21), (3, .int (nI q38)), (2, .int (nI j6)), (0, .ref (ad 58)), (1, .int (nI n1))]) S.1 S.2.1 dX8_learnsMost_169 hl411 (by decide) rfl (fun ls414 hl414 => ?_)
                      refine lv_iinc (v := (nI (q7371 + 1))) (lv' := [(7, .int (nI (q7371 + 1))), (6, .int x371_6), (8, .int r409), (5, .int (nI q524)), (4, .int r21), (3, .int (nI q38)), (2, .int (nI j6)), (0, .ref (ad 58)), (1, .int (nI n1))]) S.1 S.2.1 dX8_learnsMost_171 hl414 (k := 2) rfl (nI_add _ 1) (by decide) rfl (fun ls415 hl415 => ?_)
                      refine lv_goto (tgt := 112) S.1 S.2.1 dX8_learnsMost_174 (by decide) ?_
                      exact ih371 (q7371 + 1) (x371_6) (by omega) (by omega) ls415 (lv_sub hl415 [0, 1, 3, 4, 5, 6, 7, 8] rfl)
                    have k416 := ci_nle rfl rfl c412
                    refine lv_iload S.1 S.2.1 dX8_learnsMost_162 (lv_at hl411 0 rfl) ?_
                    refine lv_goto (tgt := 169) S.1 S.2.1 dX8_learnsMost_164 (by decide) ?_
                    refine lv_istore (lv' := [(6, .int r409), (8, .int r409), (7, .int (nI q7371)), (5, .int (nI q524)), (4, .int r21), (3, .int (nI q38)), (2, .int (nI j6)), (0, .ref (ad 58)), (1, .int (nI n1))]) S.1 S.2.1 dX8_learnsMost_169 hl411 (by decide) rfl (fun ls417 hl417 => ?_)
                    refine lv_iinc (v := (nI (q7371 + 1))) (lv' := [(7, .int (nI (q7371 + 1))), (6, .int r409), (8, .int r409), (5, .int (nI q524)), (4, .int r21), (3, .int (nI q38)), (2, .int (nI j6)), (0, .ref (ad 58)), (1, .int (nI n1))]) S.1 S.2.1 dX8_learnsMost_171 hl417 (k := 2) rfl (nI_add _ 1) (by decide) rfl (fun ls418 hl418 => ?_)
                    refine lv_goto (tgt := 112) S.1 S.2.1 dX8_learnsMost_174 (by decide) ?_
                    exact ih371 (q7371 + 1) (r409) (by omega) (by omega) ls418 (lv_sub hl418 [0, 1, 3, 4, 5, 6, 7, 8] rfl)
                exact lp371 (8 - (0) + 1) (0) ((nI 0)) (by omega) (by omega) ls370 (lv_sub hl370 [0, 1, 2, 3, 4, 5, 6, 7] rfl)
              have k419 := ci_nlt rfl z_ti c368
              refine lv_aload_n S.1 S.2.1 dX8_learnsMost_88 rfl (lv_at hl257 5 rfl) ?_
              refine lv_iload_n S.1 S.2.1 dX8_learnsMost_89 rfl (lv_at hl257 3 rfl) ?_
              refine lv_iload_n S.1 S.2.1 dX8_learnsMost_90 rfl (lv_at hl257 4 rfl) ?_
              have ta421 : ((nI q38) : Int32).toInt = ((q38 : Nat) : Int) := (nI_toInt (n := q38) (by omega))
              refine r_cVp (As := [.int (nI q38), .int (nI j6)]) (rest := []) S hK hZ hPl24 hSl24 hl257.1 58 (by decide) hF25 (C := RX8) rfl (c_X8_learns l D cA ad t hI Fl24 hWl24 (nI q38) (nI j6) (by omega)) (cwV 2 S.2.2.2.2 gX8_learnsMost_X8_learns rfl rfl rfl (by decide +kernel) ⟨Nat.le_of_ble_eq_true rfl, Nat.le_of_ble_eq_true rfl⟩) rfl rfl (Nat.le_of_ble_eq_true rfl) ⟨Nat.zero_le _, Nat.zero_le _⟩ dX8_learnsMost_91 (fun r420 hr420 => ?_)
              refine lv_aload_n S.1 S.2.1 dX8_learnsMost_94 rfl (lv_at hl257 5 rfl) ?_
              refine lv_iload_n S.1 S.2.1 dX8_learnsMost_95 rfl (lv_at hl257 4 rfl) ?_
              refine lv_iconst (v := (nI 1)) S.1 S.2.1 dX8_learnsMost_96 (by decide +kernel) ?_
              refine lv_iadd S.1 S.2.1 dX8_learnsMost_97 ?_
              refine lv_topi (fun v422 e422 => ?_)
              obtain rfl : v422 = nI (j6 + 1) := e422.trans (nI_add _ _)
              refine lv_iload_n S.1 S.2.1 dX8_learnsMost_98 rfl (lv_at hl257 3 rfl) ?_
              refine lv_iload S.1 S.2.1 dX8_learnsMost_99 (lv_at hl257 1 rfl) ?_
              refine lv_iconst (v := (nI 1)) S.1 S.2.1 dX8_learnsMost_101 (by decide +kernel) ?_
              refine lv_iadd S.1 S.2.1 dX8_learnsMost_102 ?_
              refine lv_topi (fun v423 e423 => ?_)
              obtain rfl : v423 = nI (q524 + 1) := e423.trans (nI_add _ _)
              have ta425 : ((nI q38) : Int32).toInt = ((q38 : Nat) : Int) := (nI_toInt (n := q38) (by omega))
              refine r_cVp (As := [.int (nI (j6 + 1)), .int (nI q38), .int (nI (q524 + 1))]) (rest := [.int r420]) S hK hZ hPl24 hSl24 hl257.1 58 (by decide) hF25 (C := RX8) rfl (c_X8_mostAt l D cA ad t hI Fl24 hWl24 (j6 + 1) (by omega) (nI q38) (q524 + 1) (by omega) (by omega) (by omega)) (cwV 3 S.2.2.2.2 gX8_learnsMost_X8_mostAt rfl rfl rfl (by decide +kernel) ⟨Nat.le_of_ble_eq_true rfl, Nat.le_of_ble_eq_true rfl⟩) rfl rfl (Nat.le_of_ble_eq_true rfl) ⟨Nat.zero_le _, Nat.zero_le _⟩ dX8_learnsMost_103 (fun r424 hr424 => ?_)
              refine lv_iadd S.1 S.2.1 dX8_learnsMost_106 ?_
              refine lv_topi (fun v426 e426 => ?_)
              refine lv_istore (lv' := [(6, .int v426), (5, .int (nI q524)), (4, .int r21), (3, .int (nI q38)), (2, .int (nI j6)), (0, .ref (ad 58)), (1, .int (nI n1))]) S.1 S.2.1 dX8_learnsMost_107 hl257 (by decide) rfl (fun ls427 hl427 => ?_)
              refine lv_iconst (v := (nI 0)) S.1 S.2.1 dX8_learnsMost_109 (by decide +kernel) ?_
              refine lv_istore (lv' := [(7, .int (nI 0)), (6, .int v426), (5, .int (nI q524)), (4, .int r21), (3, .int (nI q38)), (2, .int (nI j6)), (0, .ref (ad 58)), (1, .int (nI n1))]) S.1 S.2.1 dX8_learnsMost_110 hl427 (by decide) rfl (fun ls428 hl428 => ?_)
              have lp429 : ∀ (n429 : Nat) (q7429 : Nat) (x429_6 : Int32), q7429 ≤ 8 → 8 - q7429 < n429 → ∀ (ls : Array Slot), lv_has ls 9 [(7, .int (nI q7429)), (6, .int x429_6), (5, .int (nI q524)), (4, .int r21), (3, .int (nI q38)), (2, .int (nI j6)), (0, .ref (ad 58)), (1, .int (nI n1))] → W p l e { frames := 2, cells := 0, slots := 0, locals := 48 } s m args below meth c Hl24 lol24 0 0 Q (F0 m 112 ls []) := by
                intro n429
                induction n429 with
                | zero =>
                  intro q7429 x429_6 iv429_0 hm429 ls429 hl429
                  exact absurd hm429 (Nat.not_lt_zero _)
                | succ n429 ih429 =>
                  intro q7429 x429_6 iv429_0 hm429 ls429 hl429
                  refine lv_iload S.1 S.2.1 dX8_learnsMost_112 (lv_at hl429 0 rfl) ?_
                  refine lv_aload_n S.1 S.2.1 dX8_learnsMost_114 rfl (lv_at hl429 6 rfl) ?_
                  refine r_get S hK hPl24 58 (by decide) hF25 (C := RX8) (T := TX8) (N := 23) hiX8 rfl 2 (by decide) (am_at in_wsX8_learnsMost_0 0 rfl) (v := .ref (ad 60)) rfl dX8_learnsMost_115 ?_
                  refine lv_iconst (v := (nI 2)) S.1 S.2.1 dX8_learnsMost_118 (by decide +kernel) ?_
                  refine r_iald S hK hPl24 60 (by decide) hF26 (vp_in_nI (show 2 < 52 by omega) (by omega)) dX8_learnsMost_119 ?_
                  refine lv_topi (fun v431 e431 => ?_)
                  obtain ⟨b432, hb432, he432⟩ := (pr_T (by decide) (hg26 2 (by decide))).2.1 rfl
                  obtain rfl : v431 = nI b432 := e431.trans he432
                  refine lv_icmp_ge (tgt := 177) S.1 S.2.1 dX8_learnsMost_120 (by decide) (fun c433 => ?_) (fun c433 => ?_)
                  · skip
                    have k434 := ci_le (nI_toInt (n := b432) (Nat.lt_of_le_of_lt hb432 (by decide))) (nI_toInt (n := q7429) (by omega)) c433
                    refine lv_aload_n S.1 S.2.1 dX8_learnsMost_177 rfl (lv_at hl429 6 rfl) ?_
                    refine r_get S hK hPl24 58 (by decide) hF25 (C := RX8) (T := TX8) (N := 23) hiX8 rfl 19 (by decide) (am_at in_wsX8_learnsMost_0 2 rfl) (v := .ref (ad 68)) rfl dX8_learnsMost_178 ?_
                    refine lv_bipush (v := (nI 40)) S.1 S.2.1 dX8_learnsMost_181 (by decide +kernel) ?_
                    refine lv_iload_n S.1 S.2.1 dX8_learnsMost_183 rfl (lv_at hl429 5 rfl) ?_
                    refine lv_imul S.1 S.2.1 dX8_learnsMost_184 ?_
                    refine lv_topi (fun v435 e435 => ?_)
                    obtain rfl : v435 = nI (40 * j6) := e435.trans (pk_mul _ _)
                    refine lv_iconst (v := (nI 5)) S.1 S.2.1 dX8_learnsMost_185 (by decide +kernel) ?_
                    refine lv_iload_n S.1 S.2.1 dX8_learnsMost_186 rfl (lv_at hl429 4 rfl) ?_
                    refine lv_imul S.1 S.2.1 dX8_learnsMost_187 ?_
                    refine lv_topi (fun v436 e436 => ?_)
                    obtain rfl : v436 = nI (5 * q38) := e436.trans (pk_mul _ _)
                    refine lv_iadd S.1 S.2.1 dX8_learnsMost_188 ?_
                    refine lv_topi (fun v437 e437 => ?_)
                    obtain rfl : v437 = nI ((40 * j6) + (5 * q38)) := e437.trans (nI_add _ _)
                    refine lv_iload S.1 S.2.1 dX8_learnsMost_189 (lv_at hl429 2 rfl) ?_
                    refine lv_iadd S.1 S.2.1 dX8_learnsMost_191 ?_
                    refine lv_topi (fun v438 e438 => ?_)
                    obtain rfl : v438 = nI (((40 * j6) + (5 * q38)) + q524) := e438.trans (nI_add _ _)
                    refine lv_iload S.1 S.2.1 dX8_learnsMost_192 (lv_at hl429 1 rfl) ?_
                    obtain ⟨g439, hF439, hg439⟩ := wt_I hWl24 (show (68, 1480) ∈ rLI by decide)
                    refine r_iast S hI hK hPl24 hSl24 68 (by decide) hF439 (vp_in_nI (show ((40 * j6) + (5 * q38)) + q524 < 1480 by omega) (by omega)) dX8_learnsMost_194 (fun F440 H440 locs440 eF440 hP440 hS440 => ?_)
                    have hW440 := hWl24.up eF440 (ok_I (show (68, 1480) ∈ rLI by decide) (okI_up hg439 (pr_of (by decide))))
                    have hFr440 := hFl24.up eF440 (by simp <;> first | omega | (simp only [isC, isJ] at *; omega))
                    refine lv_iinc (v := (nI (q524 + 1))) (lv' := [(5, .int (nI (q524 + 1))), (7, .int (nI q7429)), (6, .int x429_6), (4, .int r21), (3, .int (nI q38)), (2, .int (nI j6)), (0, .ref (ad 58)), (1, .int (nI n1))]) S.1 S.2.1 dX8_learnsMost_195 hl429 (k := 2) rfl (nI_add _ 1) (by decide) rfl (fun ls441 hl441 => ?_)
                    refine lv_goto (tgt := 34) S.1 S.2.1 dX8_learnsMost_198 (by decide) ?_
                    exact ih24 (q524 + 1) F440 H440 locs440 (by omega) (by omega) hW440 hFr440 hP440 hS440 ls441 (lv_sub hl441 [0, 3, 4, 5, 6, 7] rfl)
                  have k442 := ci_nle (nI_toInt (n := b432) (Nat.lt_of_le_of_lt hb432 (by decide))) (nI_toInt (n := q7429) (by omega)) c433
                  refine lv_iload_n S.1 S.2.1 dX8_learnsMost_123 rfl (lv_at hl429 5 rfl) ?_
                  refine lv_iload_n S.1 S.2.1 dX8_learnsMost_124 rfl (lv_at hl429 7 rfl) ?_
                  refine lv_icmp_ge (tgt := 177) S.1 S.2.1 dX8_learnsMost_125 (by decide) (fun c443 => ?_) (fun c443 => ?_)
                  · skip
                    have k444 := ci_le (nI_toInt (n := n1) (by omega)) (nI_toInt (n := j6) (Nat.lt_of_le_of_lt hj6 (by decide))) c443
                    refine lv_aload_n S.1 S.2.1 dX8_learnsMost_177 rfl (lv_at hl429 6 rfl) ?_
                    refine r_get S hK hPl24 58 (by decide) hF25 (C := RX8) (T := TX8) (N := 23) hiX8 rfl 19 (by decide) (am_at in_wsX8_learnsMost_0 2 rfl) (v := .ref (ad 68)) rfl dX8_learnsMost_178 ?_
                    refine lv_bipush (v := (nI 40)) S.1 S.2.1 dX8_learnsMost_181 (by decide +kernel) ?_
                    refine lv_iload_n S.1 S.2.1 dX8_learnsMost_183 rfl (lv_at hl429 5 rfl) ?_
                    refine lv_imul S.1 S.2.1 dX8_learnsMost_184 ?_
                    refine lv_topi (fun v445 e445 => ?_)
                    obtain rfl : v445 = nI (40 * j6) := e445.trans (pk_mul _ _)
                    refine lv_iconst (v := (nI 5)) S.1 S.2.1 dX8_learnsMost_185 (by decide +kernel) ?_
                    refine lv_iload_n S.1 S.2.1 dX8_learnsMost_186 rfl (lv_at hl429 4 rfl) ?_
                    refine lv_imul S.1 S.2.1 dX8_learnsMost_187 ?_
                    refine lv_topi (fun v446 e446 => ?_)
                    obtain rfl : v446 = nI (5 * q38) := e446.trans (pk_mul _ _)
                    refine lv_iadd S.1 S.2.1 dX8_learnsMost_188 ?_
                    refine lv_topi (fun v447 e447 => ?_)
                    obtain rfl : v447 = nI ((40 * j6) + (5 * q38)) := e447.trans (nI_add _ _)
                    refine lv_iload S.1 S.2.1 dX8_learnsMost_189 (lv_at hl429 2 rfl) ?_
                    refine lv_iadd S.1 S.2.1 dX8_learnsMost_191 ?_
                    refine lv_topi (fun v448 e448 => ?_)
                    obtain rfl : v448 = nI (((40 * j6) + (5 * q38)) + q524) := e448.trans (nI_add _ _)
                    refine lv_iload S.1 S.2.1 dX8_learnsMost_192 (lv_at hl429 1 rfl) ?_
                    obtain ⟨g449, hF449, hg449⟩ := wt_I hWl24 (show (68, 1480) ∈ rLI by decide)
                    refine r_iast S hI hK hPl24 hSl24 68 (by decide) hF449 (vp_in_nI (show ((40 * j6) + (5 * q38)) + q524 < 1480 by omega) (by omega)) dX8_learnsMost_194 (fun F450 H450 locs450 eF450 hP450 hS450 => ?_)
                    have hW450 := hWl24.up eF450 (ok_I (show (68, 1480) ∈ rLI by decide) (okI_up hg449 (pr_of (by decide))))
                    have hFr450 := hFl24.up eF450 (by simp <;> first | omega | (simp only [isC, isJ] at *; omega))
                    refine lv_iinc (v := (nI (q524 + 1))) (lv' := [(5, .int (nI (q524 + 1))), (7, .int (nI q7429)), (6, .int x429_6), (4, .int r21), (3, .int (nI q38)), (2, .int (nI j6)), (0, .ref (ad 58)), (1, .int (nI n1))]) S.1 S.2.1 dX8_learnsMost_195 hl429 (k := 2) rfl (nI_add _ 1) (by decide) rfl (fun ls451 hl451 => ?_)
                    refine lv_goto (tgt := 34) S.1 S.2.1 dX8_learnsMost_198 (by decide) ?_
                    exact ih24 (q524 + 1) F450 H450 locs450 (by omega) (by omega) hW450 hFr450 hP450 hS450 ls451 (lv_sub hl451 [0, 3, 4, 5, 6, 7] rfl)
                  have k452 := ci_nle (nI_toInt (n := n1) (by omega)) (nI_toInt (n := j6) (Nat.lt_of_le_of_lt hj6 (by decide))) c443
                  refine lv_iload S.1 S.2.1 dX8_learnsMost_128 (lv_at hl429 3 rfl) ?_
                  refine lv_iload S.1 S.2.1 dX8_learnsMost_130 (lv_at hl429 0 rfl) ?_
                  refine lv_ishr S.1 S.2.1 dX8_learnsMost_132 ?_
                  refine lv_topi (fun v453 e453 => ?_)
                  refine lv_iconst (v := (nI 1)) S.1 S.2.1 dX8_learnsMost_133 (by decide +kernel) ?_
                  refine lv_iand S.1 S.2.1 dX8_learnsMost_134 ?_
                  refine lv_topi (fun v454 e454 => ?_)
                  refine lv_iconst (v := (nI 1)) S.1 S.2.1 dX8_learnsMost_135 (by decide +kernel) ?_
                  refine lv_icmp_ne (tgt := 152) S.1 S.2.1 dX8_learnsMost_136 (by decide) (fun c455 => ?_) (fun c455 => ?_)
                  · skip
                    have k456 := ci_ne rfl (nI_toInt (n := 1) (by decide)) c455
                    refine lv_iconst (v := (-1)) S.1 S.2.1 dX8_learnsMost_152 (by decide +kernel) ?_
                    refine lv_istore (lv' := [(8, .int (-1)), (7, .int (nI q7429)), (6, .int x429_6), (5, .int (nI q524)), (4, .int r21), (3, .int (nI q38)), (2, .int (nI j6)), (0, .ref (ad 58)), (1, .int (nI n1))]) S.1 S.2.1 dX8_learnsMost_153 hl429 (by decide) rfl (fun ls457 hl457 => ?_)
                    refine lv_iload S.1 S.2.1 dX8_learnsMost_155 (lv_at hl457 0 rfl) ?_
                    refine lv_iload S.1 S.2.1 dX8_learnsMost_157 (lv_at hl457 2 rfl) ?_
                    refine lv_icmp_le (tgt := 167) S.1 S.2.1 dX8_learnsMost_159 (by decide) (fun c458 => ?_) (fun c458 => ?_)
                    · skip
                      have k459 := ci_le (show ((-1) : Int32).toInt = -1 by decide +kernel) rfl c458
                      refine lv_iload S.1 S.2.1 dX8_learnsMost_167 (lv_at hl457 2 rfl) ?_
                      refine lv_istore (lv' := [(6, .int x429_6), (8, .int (-1)), (7, .int (nI q7429)), (5, .int (nI q524)), (4, .int r21), (3, .int (nI q38)), (2, .int (nI j6)), (0, .ref (ad 58)), (1, .int (nI n1))]) S.1 S.2.1 dX8_learnsMost_169 hl457 (by decide) rfl (fun ls460 hl460 => ?_)
                      refine lv_iinc (v := (nI (q7429 + 1))) (lv' := [(7, .int (nI (q7429 + 1))), (6, .int x429_6), (8, .int (-1)), (5, .int (nI q524)), (4, .int r21), (3, .int (nI q38)), (2, .int (nI j6)), (0, .ref (ad 58)), (1, .int (nI n1))]) S.1 S.2.1 dX8_learnsMost_171 hl460 (k := 2) rfl (nI_add _ 1) (by decide) rfl (fun ls461 hl461 => ?_)
                      refine lv_goto (tgt := 112) S.1 S.2.1 dX8_learnsMost_174 (by decide) ?_
                      exact ih429 (q7429 + 1) (x429_6) (by omega) (by omega) ls461 (lv_sub hl461 [0, 1, 3, 4, 5, 6, 7, 8] rfl)
                    have k462 := ci_nle (show ((-1) : Int32).toInt = -1 by decide +kernel) rfl c458
                    refine lv_iload S.1 S.2.1 dX8_learnsMost_162 (lv_at hl457 0 rfl) ?_
                    refine lv_goto (tgt := 169) S.1 S.2.1 dX8_learnsMost_164 (by decide) ?_
                    refine lv_istore (lv' := [(6, .int (-1)), (8, .int (-1)), (7, .int (nI q7429)), (5, .int (nI q524)), (4, .int r21), (3, .int (nI q38)), (2, .int (nI j6)), (0, .ref (ad 58)), (1, .int (nI n1))]) S.1 S.2.1 dX8_learnsMost_169 hl457 (by decide) rfl (fun ls463 hl463 => ?_)
                    refine lv_iinc (v := (nI (q7429 + 1))) (lv' := [(7, .int (nI (q7429 + 1))), (6, .int (-1)), (8, .int (-1)), (5, .int (nI q524)), (4, .int r21), (3, .int (nI q38)), (2, .int (nI j6)), (0, .ref (ad 58)), (1, .int (nI n1))]) S.1 S.2.1 dX8_learnsMost_171 hl463 (k := 2) rfl (nI_add _ 1) (by decide) rfl (fun ls464 hl464 => ?_)
                    refine lv_goto (tgt := 112) S.1 S.2.1 dX8_learnsMost_174 (by decide) ?_
                    exact ih429 (q7429 + 1) ((-1)) (by omega) (by omega) ls464 (lv_sub hl464 [0, 1, 3, 4, 5, 6, 7, 8] rfl)
                  have k465 := ci_eq rfl (nI_toInt (n := 1) (by decide)) c455
                  refine lv_aload_n S.1 S.2.1 dX8_learnsMost_139 rfl (lv_at hl429 6 rfl) ?_
                  refine lv_iload_n S.1 S.2.1 dX8_learnsMost_140 rfl (lv_at hl429 5 rfl) ?_
                  refine lv_iconst (v := (nI 1)) S.1 S.2.1 dX8_learnsMost_141 (by decide +kernel) ?_
                  refine lv_iadd S.1 S.2.1 dX8_learnsMost_142 ?_
                  refine lv_topi (fun v466 e466 => ?_)
                  obtain rfl : v466 = nI (j6 + 1) := e466.trans (nI_add _ _)
                  refine lv_iload S.1 S.2.1 dX8_learnsMost_143 (lv_at hl429 0 rfl) ?_
                  refine lv_iconst (v := (nI 0)) S.1 S.2.1 dX8_learnsMost_145 (by decide +kernel) ?_
                  have ta468 : ((nI q7429) : Int32).toInt = ((q7429 : Nat) : Int) := (nI_toInt (n := q7429) (by omega))
                  refine r_cVp (As := [.int (nI (j6 + 1)), .int (nI q7429), .int (nI 0)]) (rest := []) S hK hZ hPl24 hSl24 hl429.1 58 (by decide) hF25 (C := RX8) rfl (c_X8_mostAt l D cA ad t hI Fl24 hWl24 (j6 + 1) (by omega) (nI q7429) (0) (by omega) (by omega) (by omega)) (cwV 3 S.2.2.2.2 gX8_learnsMost_X8_mostAt rfl rfl rfl (by decide +kernel) ⟨Nat.le_of_ble_eq_true rfl, Nat.le_of_ble_eq_true rfl⟩) rfl rfl (Nat.le_of_ble_eq_true rfl) ⟨Nat.zero_le _, Nat.zero_le _⟩ dX8_learnsMost_146 (fun r467 hr467 => ?_)
                  refine lv_goto (tgt := 153) S.1 S.2.1 dX8_learnsMost_149 (by decide) ?_
                  refine lv_istore (lv' := [(8, .int r467), (7, .int (nI q7429)), (6, .int x429_6), (5, .int (nI q524)), (4, .int r21), (3, .int (nI q38)), (2, .int (nI j6)), (0, .ref (ad 58)), (1, .int (nI n1))]) S.1 S.2.1 dX8_learnsMost_153 hl429 (by decide) rfl (fun ls469 hl469 => ?_)
                  refine lv_iload S.1 S.2.1 dX8_learnsMost_155 (lv_at hl469 0 rfl) ?_
                  refine lv_iload S.1 S.2.1 dX8_learnsMost_157 (lv_at hl469 2 rfl) ?_
                  refine lv_icmp_le (tgt := 167) S.1 S.2.1 dX8_learnsMost_159 (by decide) (fun c470 => ?_) (fun c470 => ?_)
                  · skip
                    have k471 := ci_le rfl rfl c470
                    refine lv_iload S.1 S.2.1 dX8_learnsMost_167 (lv_at hl469 2 rfl) ?_
                    refine lv_istore (lv' := [(6, .int x429_6), (8, .int r467), (7, .int (nI q7429)), (5, .int (nI q524)), (4, .int r21), (3, .int (nI q38)), (2, .int (nI j6)), (0, .ref (ad 58)), (1, .int (nI n1))]) S.1 S.2.1 dX8_learnsMost_169 hl469 (by decide) rfl (fun ls472 hl472 => ?_)
                    refine lv_iinc (v := (nI (q7429 + 1))) (lv' := [(7, .int (nI (q7429 + 1))), (6, .int x429_6), (8, .int r467), (5, .int (nI q524)), (4, .int r21), (3, .int (nI q38)), (2, .int (nI j6)), (0, .ref (ad 58)), (1, .int (nI n1))]) S.1 S.2.1 dX8_learnsMost_171 hl472 (k := 2) rfl (nI_add _ 1) (by decide) rfl (fun ls473 hl473 => ?_)
                    refine lv_goto (tgt := 112) S.1 S.2.1 dX8_learnsMost_174 (by decide) ?_
                    exact ih429 (q7429 + 1) (x429_6) (by omega) (by omega) ls473 (lv_sub hl473 [0, 1, 3, 4, 5, 6, 7, 8] rfl)
                  have k474 := ci_nle rfl rfl c470
                  refine lv_iload S.1 S.2.1 dX8_learnsMost_162 (lv_at hl469 0 rfl) ?_
                  refine lv_goto (tgt := 169) S.1 S.2.1 dX8_learnsMost_164 (by decide) ?_
                  refine lv_istore (lv' := [(6, .int r467), (8, .int r467), (7, .int (nI q7429)), (5, .int (nI q524)), (4, .int r21), (3, .int (nI q38)), (2, .int (nI j6)), (0, .ref (ad 58)), (1, .int (nI n1))]) S.1 S.2.1 dX8_learnsMost_169 hl469 (by decide) rfl (fun ls475 hl475 => ?_)
                  refine lv_iinc (v := (nI (q7429 + 1))) (lv' := [(7, .int (nI (q7429 + 1))), (6, .int r467), (8, .int r467), (5, .int (nI q524)), (4, .int r21), (3, .int (nI q38)), (2, .int (nI j6)), (0, .ref (ad 58)), (1, .int (nI n1))]) S.1 S.2.1 dX8_learnsMost_171 hl475 (k := 2) rfl (nI_add _ 1) (by decide) rfl (fun ls476 hl476 => ?_)
                  refine lv_goto (tgt := 112) S.1 S.2.1 dX8_learnsMost_174 (by decide) ?_
                  exact ih429 (q7429 + 1) (r467) (by omega) (by omega) ls476 (lv_sub hl476 [0, 1, 3, 4, 5, 6, 7, 8] rfl)
              exact lp429 (8 - (0) + 1) (0) (v426) (by omega) (by omega) ls428 (lv_sub hl428 [0, 1, 2, 3, 4, 5, 6, 7] rfl)
          exact lp24 (5 - (0) + 1) (0) Fl8 Hl8 lol8 (by omega) (by omega) hWl8 hFl8 hPl8 hSl8 ls23 (lv_sub hl23 [0, 1, 2, 3, 4, 5] rfl)
      exact lp8 (8 - (0) + 1) (0) Fl2 Hl2 lol2 (by omega) (by omega) hWl2 hFl2 hPl2 hSl2 ls7 (lv_sub hl7 [0, 1, 2, 3] rfl)
  have kt477 := nI_toInt (n := n1) (by omega)
  exact lp2 (((nI n1).toInt + 1).toNat + 1) ((nI n1)) F s.heap [] (by omega) (by omega) (by omega) hW hFr hP hS ls1 (lv_sub hl1 [0, 1, 2] rfl)
set_option maxHeartbeats 4000000 in
set_option maxRecDepth 100000 in
theorem c_X8_best (l : Launch) (D : va_G) (cA ad : Nat → Nat) (t : Nat) (hI : rI ad) (F : Nat → va_E) (hW : WT cA ad F) (p1 : Int32) (p2 : Int32) : MI l D cA ad t yX8_best wsX8_best { frames := 3, cells := 0, slots := 0, locals := 76 } [.ref (ad 58), .int p1, .int p2] F (fun r F' => WT cA ad F' ∧ rFr [68] F F' ∧ (True)) := by
  refine en_I rfl (by decide +kernel) (Nat.le_of_ble_eq_true rfl) ?_
  intro p e s m args below meth c ls0 Q S hK hZ hP hS hl0 hret
  have hl0 : lv_has ls0 11 [(0, .ref (ad 58)), (1, .int p1), (2, .int p2)] := hl0
  have hFr : rFr [68] F F := rFr.rf
  have hiX8 : ∀ w ∈ u_ws RX8 TX8 23, w ∈ wsX8_best := in_wsX8_best_2
  refine lv_iload_n S.1 S.2.1 dX8_best_0 rfl (lv_at hl0 1 rfl) ?_
  refine lv_iconst (v := (nI 1)) S.1 S.2.1 dX8_best_1 (by decide +kernel) ?_
  refine lv_bipush (v := (nI 36)) S.1 S.2.1 dX8_best_2 (by decide +kernel) ?_
  refine r_cSp (As := [.int p1, .int (nI 1), .int (nI 36)]) (rest := []) S hK hZ hP hS hl0.1 (c_X8_in l D cA ad t hI F hW p1 (nI 1) (nI 36)) (va_cwS 3 S.2.2.2.2 gX8_best_X8_in rfl rfl rfl (by decide +kernel) ⟨Nat.le_of_ble_eq_true rfl, Nat.le_of_ble_eq_true rfl⟩) rfl rfl (Nat.le_of_ble_eq_true rfl) ⟨Nat.zero_le _, Nat.zero_le _⟩ dX8_best_4 (fun r1 hr1 => ?_)
  obtain ⟨hr1, hm1⟩ := hr1
  obtain ⟨⟨b2, hb2, rfl⟩, hx2, hz2⟩ := hr1
  have ta3 : (p1 : Int32).toInt = p1.toInt := rfl
  have ta4 : ((nI 1) : Int32).toInt = ((1 : Nat) : Int) := (nI_toInt (n := 1) (by decide))
  have ta5 : ((nI 36) : Int32).toInt = ((36 : Nat) : Int) := (nI_toInt (n := 36) (by decide))
  have hy2 : b2 ≠ 0 → ((1 : Nat) : Int) ≤ p1.toInt ∧ p1.toInt ≤ ((36 : Nat) : Int) := fun q => by have h9 := hx2 (nI_ne0 (by omega) (by omega)); omega
  have hu2 : b2 = 0 → p1.toInt < ((1 : Nat) : Int) ∨ ((36 : Nat) : Int) < p1.toInt := fun q => by have h9 := hz2 (by rw [q]; rfl); omega
  refine lv_if_ne (tgt := 13) S.1 S.2.1 dX8_best_7 (by decide) (fun c6 => ?_) (fun c6 => ?_)
  · skip
    have k7 := ci_ne (nI_toInt (n := b2) (Nat.lt_of_le_of_lt hb2 (by decide))) z_ti c6
    obtain ⟨j8, hj8, rfl⟩ := nI_of_le (x := p1) (B := 36) (by omega) (by omega)
    have kj8 := nI_toInt (n := j8) (Nat.lt_of_le_of_lt hj8 (by decide))
    refine lv_aload_n S.1 S.2.1 dX8_best_13 rfl (lv_at hl0 0 rfl) ?_
    obtain ⟨ty10, kn10, no10, en10, at10, sa10, sd10, wr10, pl10, va10, hF10, hb10_1, hb10_2, hb10_3, hb10_4, hb10_5, hb10_6⟩ := wt_m hW
    refine r_cVp (As := []) (rest := []) S hK hZ hP hS hl0.1 58 (by decide) hF10 (C := RX8) rfl (c_X8_goesOn l D cA ad t hI F hW ) (cwV 0 S.2.2.2.2 gX8_best_X8_goesOn rfl rfl rfl (by decide +kernel) ⟨Nat.le_of_ble_eq_true rfl, Nat.le_of_ble_eq_true rfl⟩) rfl rfl (Nat.le_of_ble_eq_true rfl) ⟨Nat.zero_le _, Nat.zero_le _⟩ dX8_best_14 (fun r9 hr9 => ?_)
    obtain ⟨hr9, hm9⟩ := hr9
    obtain ⟨b11, hb11, rfl⟩ := hr9
    refine lv_if_ne (tgt := 23) S.1 S.2.1 dX8_best_17 (by decide) (fun c12 => ?_) (fun c12 => ?_)
    · skip
      have k13 := ci_ne (nI_toInt (n := b11) (Nat.lt_of_le_of_lt hb11 (by decide))) z_ti c12
      refine lv_iload_n S.1 S.2.1 dX8_best_23 rfl (lv_at hl0 2 rfl) ?_
      refine lv_iconst (v := (-1)) S.1 S.2.1 dX8_best_24 (by decide +kernel) ?_
      refine lv_iload_n S.1 S.2.1 dX8_best_25 rfl (lv_at hl0 1 rfl) ?_
      refine lv_iconst (v := (nI 1)) S.1 S.2.1 dX8_best_26 (by decide +kernel) ?_
      refine lv_isub S.1 S.2.1 dX8_best_27 ?_
      refine lv_topi (fun v14 e14 => ?_)
      obtain rfl : v14 = nI (j8 - 1) := e14.trans (pk_sub (by omega))
      refine r_cSp (As := [.int p2, .int (-1), .int (nI (j8 - 1))]) (rest := []) S hK hZ hP hS hl0.1 (c_X8_in l D cA ad t hI F hW p2 (-1) (nI (j8 - 1))) (va_cwS 3 S.2.2.2.2 gX8_best_X8_in rfl rfl rfl (by decide +kernel) ⟨Nat.le_of_ble_eq_true rfl, Nat.le_of_ble_eq_true rfl⟩) rfl rfl (Nat.le_of_ble_eq_true rfl) ⟨Nat.zero_le _, Nat.zero_le _⟩ dX8_best_28 (fun r15 hr15 => ?_)
      obtain ⟨hr15, hm15⟩ := hr15
      obtain ⟨⟨b16, hb16, rfl⟩, hx16, hz16⟩ := hr15
      have ta17 : (p2 : Int32).toInt = p2.toInt := rfl
      have ta18 : ((-1) : Int32).toInt = (-1 : Int) := (show ((-1) : Int32).toInt = -1 by decide +kernel)
      have ta19 : ((nI (j8 - 1)) : Int32).toInt = ((j8 - 1 : Nat) : Int) := (nI_toInt (n := j8 - 1) (by omega))
      have hy16 : b16 ≠ 0 → (-1 : Int) ≤ p2.toInt ∧ p2.toInt ≤ ((j8 - 1 : Nat) : Int) := fun q => by have h9 := hx16 (nI_ne0 (by omega) (by omega)); omega
      have hu16 : b16 = 0 → p2.toInt < (-1 : Int) ∨ ((j8 - 1 : Nat) : Int) < p2.toInt := fun q => by have h9 := hz16 (by rw [q]; rfl); omega
      refine lv_if_ne (tgt := 36) S.1 S.2.1 dX8_best_31 (by decide) (fun c20 => ?_) (fun c20 => ?_)
      · skip
        have k21 := ci_ne (nI_toInt (n := b16) (Nat.lt_of_le_of_lt hb16 (by decide))) z_ti c20
        refine lv_aload_n S.1 S.2.1 dX8_best_36 rfl (lv_at hl0 0 rfl) ?_
        refine lv_iload_n S.1 S.2.1 dX8_best_37 rfl (lv_at hl0 1 rfl) ?_
        refine r_cVv (As := [.int (nI j8)]) (rest := []) S hK hZ hP hS hl0.1 58 (by decide) hF10 (C := RX8) rfl (c_X8_learnsMost l D cA ad t hI F hW (j8) (by omega)) (cwV 1 S.2.2.2.2 gX8_best_X8_learnsMost rfl rfl rfl (by decide +kernel) ⟨Nat.le_of_ble_eq_true rfl, Nat.le_of_ble_eq_true rfl⟩) rfl rfl (Nat.le_of_ble_eq_true rfl) ⟨Nat.zero_le _, Nat.zero_le _⟩ dX8_best_38 (fun F22 H22 locs22 hr22 hP22 hS22 => ?_)
        obtain ⟨hW22, hFc22, hr22⟩ := hr22
        have hFr22 := hFr.tr hFc22 (by simp <;> first | omega | (simp only [isC, isJ] at *; omega))
        refine lv_aload_n S.1 S.2.1 dX8_best_41 rfl (lv_at hl0 0 rfl) ?_
        have hF23 := (hFc22 58 (by decide)).trans hF10
        refine r_get S hK hP22 58 (by decide) hF23 (C := RX8) (T := TX8) (N := 23) hiX8 rfl 4 (by decide) (am_at in_wsX8_best_0 2 rfl) (v := .ref (ad 62)) rfl dX8_best_42 ?_
        refine lv_iconst (v := (nI 0)) S.1 S.2.1 dX8_best_45 (by decide +kernel) ?_
        obtain ⟨g24, hF24, hg24⟩ := wt_I hW22 (show (62, 7) ∈ rLI by decide)
        refine r_iald S hK hP22 62 (by decide) hF24 (vp_in_nI (show 0 < 7 by omega) (by omega)) dX8_best_46 ?_
        refine lv_topi (fun v26 e26 => ?_)
        obtain ⟨b27, hb27, he27⟩ := (pr_S (hg24 0 (by decide))).1 rfl
        obtain rfl : v26 = nI b27 := e26.trans he27
        refine lv_istore_n (lv' := [(3, .int (nI b27)), (0, .ref (ad 58)), (1, .int (nI j8)), (2, .int p2)]) S.1 S.2.1 dX8_best_47 rfl hl0 (by decide) rfl (fun ls28 hl28 => ?_)
        refine lv_aload_n S.1 S.2.1 dX8_best_48 rfl (lv_at hl28 1 rfl) ?_
        refine r_get S hK hP22 58 (by decide) hF23 (C := RX8) (T := TX8) (N := 23) hiX8 rfl 4 (by decide) (am_at in_wsX8_best_0 2 rfl) (v := .ref (ad 62)) rfl dX8_best_49 ?_
        refine lv_iconst (v := (nI 2)) S.1 S.2.1 dX8_best_52 (by decide +kernel) ?_
        refine r_iald S hK hP22 62 (by decide) hF24 (vp_in_nI (show 2 < 7 by omega) (by omega)) dX8_best_53 ?_
        refine lv_topi (fun v30 e30 => ?_)
        obtain ⟨b31, hb31, he31⟩ := (pr_S (hg24 2 (by decide))).2.1 rfl
        obtain rfl : v30 = nI b31 := e30.trans he31
        refine lv_istore (lv' := [(4, .int (nI b31)), (3, .int (nI b27)), (0, .ref (ad 58)), (1, .int (nI j8)), (2, .int p2)]) S.1 S.2.1 dX8_best_54 hl28 (by decide) rfl (fun ls32 hl32 => ?_)
        refine lv_aload_n S.1 S.2.1 dX8_best_56 rfl (lv_at hl32 2 rfl) ?_
        refine lv_iconst (v := (nI 0)) S.1 S.2.1 dX8_best_57 (by decide +kernel) ?_
        refine lv_iload_n S.1 S.2.1 dX8_best_58 rfl (lv_at hl32 1 rfl) ?_
        refine lv_iload S.1 S.2.1 dX8_best_59 (lv_at hl32 0 rfl) ?_
        have ta34 : ((nI b27) : Int32).toInt = ((b27 : Nat) : Int) := (nI_toInt (n := b27) (Nat.lt_of_le_of_lt hb27 (by decide)))
        refine r_cVp (As := [.int (nI 0), .int (nI b27), .int (nI b31)]) (rest := []) S hK hZ hP22 hS22 hl32.1 58 (by decide) hF23 (C := RX8) rfl (c_X8_mostAt l D cA ad t hI F22 hW22 (0) (by omega) (nI b27) (b31) (by omega) (by omega) (by omega)) (cwV 3 S.2.2.2.2 gX8_best_X8_mostAt rfl rfl rfl (by decide +kernel) ⟨Nat.le_of_ble_eq_true rfl, Nat.le_of_ble_eq_true rfl⟩) rfl rfl (Nat.le_of_ble_eq_true rfl) ⟨Nat.zero_le _, Nat.zero_le _⟩ dX8_best_61 (fun r33 hr33 => ?_)
        refine lv_istore (lv' := [(5, .int r33), (4, .int (nI b31)), (3, .int (nI b27)), (0, .ref (ad 58)), (1, .int (nI j8)), (2, .int p2)]) S.1 S.2.1 dX8_best_64 hl32 (by decide) rfl (fun ls35 hl35 => ?_)
        refine lv_iload_n S.1 S.2.1 dX8_best_66 rfl (lv_at hl35 5 rfl) ?_
        refine lv_iconst (v := (-1)) S.1 S.2.1 dX8_best_67 (by decide +kernel) ?_
        refine lv_icmp_eq (tgt := 77) S.1 S.2.1 dX8_best_68 (by decide) (fun c36 => ?_) (fun c36 => ?_)
        · skip
          have k37 := ci_eq rfl (show ((-1) : Int32).toInt = -1 by decide +kernel) c36
          refine lv_iload S.1 S.2.1 dX8_best_77 (lv_at hl35 0 rfl) ?_
          exact hret 79 _ _ _ _ _ dX8_best_79 rfl hP22 hS22 ⟨hW22, hFr22, trivial⟩
        have k38 := ci_ne rfl (show ((-1) : Int32).toInt = -1 by decide +kernel) c36
        refine lv_iload S.1 S.2.1 dX8_best_71 (lv_at hl35 0 rfl) ?_
        refine lv_iconst (v := (-1)) S.1 S.2.1 dX8_best_73 (by decide +kernel) ?_
        refine lv_icmp_ne (tgt := 80) S.1 S.2.1 dX8_best_74 (by decide) (fun c39 => ?_) (fun c39 => ?_)
        · skip
          have k40 := ci_ne rfl (show ((-1) : Int32).toInt = -1 by decide +kernel) c39
          obtain ⟨j41, hj41, rfl⟩ := nI_of_le (x := p2) (B := 35) (by omega) (by omega)
          have kj41 := nI_toInt (n := j41) (Nat.lt_of_le_of_lt hj41 (by decide))
          refine lv_iconst (v := (nI 0)) S.1 S.2.1 dX8_best_80 (by decide +kernel) ?_
          refine lv_istore (lv' := [(6, .int (nI 0)), (5, .int r33), (4, .int (nI b31)), (3, .int (nI b27)), (0, .ref (ad 58)), (1, .int (nI j8)), (2, .int (nI j41))]) S.1 S.2.1 dX8_best_81 hl35 (by decide) rfl (fun ls42 hl42 => ?_)
          have lp43 : ∀ (n43 : Nat) (q643 : Nat) (x43_5 : Int32) (q443 : Nat) (x43_3 : Int32), q643 ≤ j41 + 1 → q443 ≤ 4 + q643 → -1 ≤ x43_3.toInt ∧ x43_3.toInt ≤ 7 → j41 + 1 - q643 < n43 → ∀ (ls : Array Slot), lv_has ls 11 [(6, .int (nI q643)), (5, .int x43_5), (4, .int (nI q443)), (3, .int x43_3), (0, .ref (ad 58)), (1, .int (nI j8)), (2, .int (nI j41))] → W p l e { frames := 3, cells := 0, slots := 0, locals := 76 } s m args below meth c H22 locs22 0 0 Q (F0 m 83 ls []) := by
            intro n43
            induction n43 with
            | zero =>
              intro q643 x43_5 q443 x43_3 iv43_0 iv43_1 ix43_t hm43 ls43 hl43
              exact absurd hm43 (Nat.not_lt_zero _)
            | succ n43 ih43 =>
              intro q643 x43_5 q443 x43_3 iv43_0 iv43_1 ix43_t hm43 ls43 hl43
              refine lv_iload S.1 S.2.1 dX8_best_83 (lv_at hl43 0 rfl) ?_
              refine lv_iload_n S.1 S.2.1 dX8_best_85 rfl (lv_at hl43 6 rfl) ?_
              refine lv_icmp_gt (tgt := 253) S.1 S.2.1 dX8_best_86 (by decide) (fun c44 => ?_) (fun c44 => ?_)
              · skip
                have k45 := ci_lt (nI_toInt (n := j41) (Nat.lt_of_le_of_lt hj41 (by decide))) (nI_toInt (n := q643) (by omega)) c44
                refine lv_iload_n S.1 S.2.1 dX8_best_253 rfl (lv_at hl43 3 rfl) ?_
                exact hret 254 _ _ _ _ _ dX8_best_254 rfl hP22 hS22 ⟨hW22, hFr22, trivial⟩
              have k46 := ci_nlt (nI_toInt (n := j41) (Nat.lt_of_le_of_lt hj41 (by decide))) (nI_toInt (n := q643) (by omega)) c44
              refine lv_iload S.1 S.2.1 dX8_best_89 (lv_at hl43 2 rfl) ?_
              refine lv_aload_n S.1 S.2.1 dX8_best_91 rfl (lv_at hl43 4 rfl) ?_
              refine r_get S hK hP22 58 (by decide) hF23 (C := RX8) (T := TX8) (N := 23) hiX8 rfl 2 (by decide) (am_at in_wsX8_best_0 3 rfl) (v := .ref (ad 60)) rfl dX8_best_92 ?_
              refine lv_iconst (v := (nI 0)) S.1 S.2.1 dX8_best_95 (by decide +kernel) ?_
              obtain ⟨g47, hF47, hg47⟩ := wt_I hW22 (show (60, 52) ∈ rLI by decide)
              refine r_iald S hK hP22 60 (by decide) hF47 (vp_in_nI (show 0 < 52 by omega) (by omega)) dX8_best_96 ?_
              refine lv_topi (fun v49 e49 => ?_)
              obtain ⟨b50, hb50, he50⟩ := (pr_T (by decide) (hg47 0 (by decide))).1 rfl
              obtain rfl : v49 = nI b50 := e49.trans he50
              refine lv_icmp_ge (tgt := 140) S.1 S.2.1 dX8_best_97 (by decide) (fun c51 => ?_) (fun c51 => ?_)
              · skip
                have k52 := ci_le (nI_toInt (n := b50) (Nat.lt_of_le_of_lt hb50 (by decide))) (nI_toInt (n := q443) (by omega)) c51
                refine lv_iconst (v := (-1)) S.1 S.2.1 dX8_best_140 (by decide +kernel) ?_
                refine lv_istore (lv' := [(7, .int (-1)), (6, .int (nI q643)), (5, .int x43_5), (4, .int (nI q443)), (3, .int x43_3), (0, .ref (ad 58)), (1, .int (nI j8)), (2, .int (nI j41))]) S.1 S.2.1 dX8_best_141 hl43 (by decide) rfl (fun ls53 hl53 => ?_)
                refine lv_iload S.1 S.2.1 dX8_best_143 (lv_at hl53 0 rfl) ?_
                refine lv_iload S.1 S.2.1 dX8_best_145 (lv_at hl53 2 rfl) ?_
                refine lv_icmp_ne (tgt := 168) S.1 S.2.1 dX8_best_147 (by decide) (fun c54 => ?_) (fun c54 => ?_)
                · skip
                  have k55 := ci_ne (show ((-1) : Int32).toInt = -1 by decide +kernel) rfl c54
                  refine lv_aload_n S.1 S.2.1 dX8_best_168 rfl (lv_at hl53 5 rfl) ?_
                  refine lv_iload_n S.1 S.2.1 dX8_best_169 rfl (lv_at hl53 4 rfl) ?_
                  refine lv_aload_n S.1 S.2.1 dX8_best_170 rfl (lv_at hl53 5 rfl) ?_
                  refine r_get S hK hP22 58 (by decide) hF23 (C := RX8) (T := TX8) (N := 23) hiX8 rfl 4 (by decide) (am_at in_wsX8_best_0 2 rfl) (v := .ref (ad 62)) rfl dX8_best_171 ?_
                  refine lv_iconst (v := (nI 5)) S.1 S.2.1 dX8_best_174 (by decide +kernel) ?_
                  refine r_iald S hK hP22 62 (by decide) hF24 (vp_in_nI (show 5 < 7 by omega) (by omega)) dX8_best_175 ?_
                  refine lv_topi (fun v57 e57 => ?_)
                  refine r_cVp (As := [.int x43_3, .int v57]) (rest := []) S hK hZ hP22 hS22 hl53.1 58 (by decide) hF23 (C := RX8) rfl (c_X8_walks l D cA ad t hI F22 hW22 x43_3 v57) (cwV 2 S.2.2.2.2 gX8_best_X8_walks rfl rfl rfl (by decide +kernel) ⟨Nat.le_of_ble_eq_true rfl, Nat.le_of_ble_eq_true rfl⟩) rfl rfl (Nat.le_of_ble_eq_true rfl) ⟨Nat.zero_le _, Nat.zero_le _⟩ dX8_best_176 (fun r58 hr58 => ?_)
                  obtain ⟨hr58, hm58⟩ := hr58
                  refine lv_istore (lv' := [(8, .int r58), (7, .int (-1)), (6, .int (nI q643)), (5, .int x43_5), (4, .int (nI q443)), (3, .int x43_3), (0, .ref (ad 58)), (1, .int (nI j8)), (2, .int (nI j41))]) S.1 S.2.1 dX8_best_179 hl53 (by decide) rfl (fun ls59 hl59 => ?_)
                  refine lv_iconst (v := (-1)) S.1 S.2.1 dX8_best_181 (by decide +kernel) ?_
                  refine lv_istore (lv' := [(9, .int (-1)), (8, .int r58), (7, .int (-1)), (6, .int (nI q643)), (5, .int x43_5), (4, .int (nI q443)), (3, .int x43_3), (0, .ref (ad 58)), (1, .int (nI j8)), (2, .int (nI j41))]) S.1 S.2.1 dX8_best_182 hl59 (by decide) rfl (fun ls60 hl60 => ?_)
                  refine lv_aload_n S.1 S.2.1 dX8_best_184 rfl (lv_at hl60 7 rfl) ?_
                  refine r_get S hK hP22 58 (by decide) hF23 (C := RX8) (T := TX8) (N := 23) hiX8 rfl 2 (by decide) (am_at in_wsX8_best_0 3 rfl) (v := .ref (ad 60)) rfl dX8_best_185 ?_
                  refine lv_iconst (v := (nI 2)) S.1 S.2.1 dX8_best_188 (by decide +kernel) ?_
                  refine r_iald S hK hP22 60 (by decide) hF47 (vp_in_nI (show 2 < 52 by omega) (by omega)) dX8_best_189 ?_
                  refine lv_topi (fun v62 e62 => ?_)
                  obtain ⟨b63, hb63, he63⟩ := (pr_T (by decide) (hg47 2 (by decide))).2.1 rfl
                  obtain rfl : v62 = nI b63 := e62.trans he63
                  refine lv_iconst (v := (nI 1)) S.1 S.2.1 dX8_best_190 (by decide +kernel) ?_
                  refine lv_isub S.1 S.2.1 dX8_best_191 ?_
                  refine lv_topi (fun v64 e64 => ?_)
                  have ks64 : v64.toInt = ((b63 : Nat) : Int) - ((1 : Nat) : Int) := by rw [e64]; exact pk_sub_toInt (by omega) (by omega)
                  refine lv_istore (lv' := [(10, .int v64), (9, .int (-1)), (8, .int r58), (7, .int (-1)), (6, .int (nI q643)), (5, .int x43_5), (4, .int (nI q443)), (3, .int x43_3), (0, .ref (ad 58)), (1, .int (nI j8)), (2, .int (nI j41))]) S.1 S.2.1 dX8_best_192 hl60 (by decide) rfl (fun ls65 hl65 => ?_)
                  have lp66 : ∀ (n66 : Nat) (x66_10 : Int32) (x66_9 : Int32), -1 ≤ x66_10.toInt → x66_10.toInt ≤ 7 → -1 ≤ x66_9.toInt ∧ x66_9.toInt ≤ 7 → (x66_10.toInt + 1).toNat < n66 → ∀ (ls : Array Slot), lv_has ls 11 [(10, .int x66_10), (9, .int x66_9), (8, .int r58), (7, .int (-1)), (6, .int (nI q643)), (5, .int x43_5), (4, .int (nI q443)), (3, .int x43_3), (0, .ref (ad 58)), (1, .int (nI j8)), (2, .int (nI j41))] → W p l e { frames := 3, cells := 0, slots := 0, locals := 76 } s m args below meth c H22 locs22 0 0 Q (F0 m 194 ls []) := by
                    intro n66
                    induction n66 with
                    | zero =>
                      intro x66_10 x66_9 iv66_0 iv66_1 ix66_f hm66 ls66 hl66
                      exact absurd hm66 (Nat.not_lt_zero _)
                    | succ n66 ih66 =>
                      intro x66_10 x66_9 iv66_0 iv66_1 ix66_f hm66 ls66 hl66
                      refine lv_iload S.1 S.2.1 dX8_best_194 (lv_at hl66 0 rfl) ?_
                      refine lv_if_lt (tgt := 241) S.1 S.2.1 dX8_best_196 (by decide) (fun c67 => ?_) (fun c67 => ?_)
                      · skip
                        have k68 := ci_lt rfl z_ti c67
                        refine lv_iload S.1 S.2.1 dX8_best_241 (lv_at hl66 1 rfl) ?_
                        refine lv_istore_n (lv' := [(3, .int x66_9), (10, .int x66_10), (9, .int x66_9), (8, .int r58), (7, .int (-1)), (6, .int (nI q643)), (5, .int x43_5), (4, .int (nI q443)), (0, .ref (ad 58)), (1, .int (nI j8)), (2, .int (nI j41))]) S.1 S.2.1 dX8_best_243 rfl hl66 (by decide) rfl (fun ls69 hl69 => ?_)
                        refine lv_iconst (v := (nI 0)) S.1 S.2.1 dX8_best_244 (by decide +kernel) ?_
                        refine lv_istore (lv' := [(4, .int (nI 0)), (3, .int x66_9), (10, .int x66_10), (9, .int x66_9), (8, .int r58), (7, .int (-1)), (6, .int (nI q643)), (5, .int x43_5), (0, .ref (ad 58)), (1, .int (nI j8)), (2, .int (nI j41))]) S.1 S.2.1 dX8_best_245 hl69 (by decide) rfl (fun ls70 hl70 => ?_)
                        refine lv_iinc (v := (nI (q643 + 1))) (lv' := [(6, .int (nI (q643 + 1))), (4, .int (nI 0)), (3, .int x66_9), (10, .int x66_10), (9, .int x66_9), (8, .int r58), (7, .int (-1)), (5, .int x43_5), (0, .ref (ad 58)), (1, .int (nI j8)), (2, .int (nI j41))]) S.1 S.2.1 dX8_best_247 hl70 (k := 6) rfl (nI_add _ 1) (by decide) rfl (fun ls71 hl71 => ?_)
                        refine lv_goto (tgt := 83) S.1 S.2.1 dX8_best_250 (by decide) ?_
                        have ta72 : (x66_9 : Int32).toInt = x66_9.toInt := rfl
                        exact ih43 (q643 + 1) (x43_5) (0) (x66_9) (by omega) (by omega) (by omega) (by omega) ls71 (lv_sub hl71 [0, 7, 1, 2, 8, 9, 10] rfl)
                      have k73 := ci_nlt rfl z_ti c67
                      obtain ⟨j74, hj74, rfl⟩ := nI_of_le (x := x66_10) (B := 7) (by omega) (by omega)
                      have kj74 := nI_toInt (n := j74) (Nat.lt_of_le_of_lt hj74 (by decide))
                      refine lv_iload S.1 S.2.1 dX8_best_199 (lv_at hl66 2 rfl) ?_
                      refine lv_iload S.1 S.2.1 dX8_best_201 (lv_at hl66 0 rfl) ?_
                      refine lv_ishr S.1 S.2.1 dX8_best_203 ?_
                      refine lv_topi (fun v75 e75 => ?_)
                      refine lv_iconst (v := (nI 1)) S.1 S.2.1 dX8_best_204 (by decide +kernel) ?_
                      refine lv_iand S.1 S.2.1 dX8_best_205 ?_
                      refine lv_topi (fun v76 e76 => ?_)
                      refine lv_iconst (v := (nI 1)) S.1 S.2.1 dX8_best_206 (by decide +kernel) ?_
                      refine lv_icmp_ne (tgt := 231) S.1 S.2.1 dX8_best_207 (by decide) (fun c77 => ?_) (fun c77 => ?_)
                      · skip
                        have k78 := ci_ne rfl (nI_toInt (n := 1) (by decide)) c77
                        refine lv_iload S.1 S.2.1 dX8_best_231 (lv_at hl66 1 rfl) ?_
                        refine lv_istore (lv' := [(9, .int x66_9), (10, .int (nI j74)), (8, .int r58), (7, .int (-1)), (6, .int (nI q643)), (5, .int x43_5), (4, .int (nI q443)), (3, .int x43_3), (0, .ref (ad 58)), (1, .int (nI j8)), (2, .int (nI j41))]) S.1 S.2.1 dX8_best_233 hl66 (by decide) rfl (fun ls79 hl79 => ?_)
                        obtain ⟨v80, e80⟩ : ∃ y : Int32, y = (nI j74) + Int32.ofInt (-1) := ⟨_, rfl⟩
                        have kd80 : v80.toInt = ((j74 : Nat) : Int) - 1 := by rw [e80]; exact nI_dec (by omega)
                        refine lv_iinc (v := v80) (lv' := [(10, .int v80), (9, .int x66_9), (8, .int r58), (7, .int (-1)), (6, .int (nI q643)), (5, .int x43_5), (4, .int (nI q443)), (3, .int x43_3), (0, .ref (ad 58)), (1, .int (nI j8)), (2, .int (nI j41))]) S.1 S.2.1 dX8_best_235 hl79 (k := 1) rfl e80.symm (by decide) rfl (fun ls80 hl80 => ?_)
                        refine lv_goto (tgt := 194) S.1 S.2.1 dX8_best_238 (by decide) ?_
                        have ta81 : (x66_9 : Int32).toInt = x66_9.toInt := rfl
                        exact ih66 (v80) (x66_9) (by omega) (by omega) (by omega) (by omega) ls80 (lv_sub hl80 [0, 1, 2, 3, 4, 5, 6, 7, 8, 9, 10] rfl)
                      have k82 := ci_eq rfl (nI_toInt (n := 1) (by decide)) c77
                      refine lv_aload_n S.1 S.2.1 dX8_best_210 rfl (lv_at hl66 8 rfl) ?_
                      refine lv_iload S.1 S.2.1 dX8_best_211 (lv_at hl66 4 rfl) ?_
                      refine lv_iconst (v := (nI 1)) S.1 S.2.1 dX8_best_213 (by decide +kernel) ?_
                      refine lv_iadd S.1 S.2.1 dX8_best_214 ?_
                      refine lv_topi (fun v83 e83 => ?_)
                      obtain rfl : v83 = nI (q643 + 1) := e83.trans (nI_add _ _)
                      refine lv_iload S.1 S.2.1 dX8_best_215 (lv_at hl66 0 rfl) ?_
                      refine lv_iconst (v := (nI 0)) S.1 S.2.1 dX8_best_217 (by decide +kernel) ?_
                      have ta85 : ((nI j74) : Int32).toInt = ((j74 : Nat) : Int) := (nI_toInt (n := j74) (Nat.lt_of_le_of_lt hj74 (by decide)))
                      refine r_cVp (As := [.int (nI (q643 + 1)), .int (nI j74), .int (nI 0)]) (rest := []) S hK hZ hP22 hS22 hl66.1 58 (by decide) hF23 (C := RX8) rfl (c_X8_mostAt l D cA ad t hI F22 hW22 (q643 + 1) (by omega) (nI j74) (0) (by omega) (by omega) (by omega)) (cwV 3 S.2.2.2.2 gX8_best_X8_mostAt rfl rfl rfl (by decide +kernel) ⟨Nat.le_of_ble_eq_true rfl, Nat.le_of_ble_eq_true rfl⟩) rfl rfl (Nat.le_of_ble_eq_true rfl) ⟨Nat.zero_le _, Nat.zero_le _⟩ dX8_best_218 (fun r84 hr84 => ?_)
                      refine lv_iload S.1 S.2.1 dX8_best_221 (lv_at hl66 5 rfl) ?_
                      refine lv_icmp_ne (tgt := 231) S.1 S.2.1 dX8_best_223 (by decide) (fun c86 => ?_) (fun c86 => ?_)
                      · skip
                        have k87 := ci_ne rfl rfl c86
                        refine lv_iload S.1 S.2.1 dX8_best_231 (lv_at hl66 1 rfl) ?_
                        refine lv_istore (lv' := [(9, .int x66_9), (10, .int (nI j74)), (8, .int r58), (7, .int (-1)), (6, .int (nI q643)), (5, .int x43_5), (4, .int (nI q443)), (3, .int x43_3), (0, .ref (ad 58)), (1, .int (nI j8)), (2, .int (nI j41))]) S.1 S.2.1 dX8_best_233 hl66 (by decide) rfl (fun ls88 hl88 => ?_)
                        obtain ⟨v89, e89⟩ : ∃ y : Int32, y = (nI j74) + Int32.ofInt (-1) := ⟨_, rfl⟩
                        have kd89 : v89.toInt = ((j74 : Nat) : Int) - 1 := by rw [e89]; exact nI_dec (by omega)
                        refine lv_iinc (v := v89) (lv' := [(10, .int v89), (9, .int x66_9), (8, .int r58), (7, .int (-1)), (6, .int (nI q643)), (5, .int x43_5), (4, .int (nI q443)), (3, .int x43_3), (0, .ref (ad 58)), (1, .int (nI j8)), (2, .int (nI j41))]) S.1 S.2.1 dX8_best_235 hl88 (k := 1) rfl e89.symm (by decide) rfl (fun ls89 hl89 => ?_)
                        refine lv_goto (tgt := 194) S.1 S.2.1 dX8_best_238 (by decide) ?_
                        have ta90 : (x66_9 : Int32).toInt = x66_9.toInt := rfl
                        exact ih66 (v89) (x66_9) (by omega) (by omega) (by omega) (by omega) ls89 (lv_sub hl89 [0, 1, 2, 3, 4, 5, 6, 7, 8, 9, 10] rfl)
                      have k91 := ci_eq rfl rfl c86
                      refine lv_iload S.1 S.2.1 dX8_best_226 (lv_at hl66 0 rfl) ?_
                      refine lv_goto (tgt := 233) S.1 S.2.1 dX8_best_228 (by decide) ?_
                      refine lv_istore (lv' := [(9, .int (nI j74)), (10, .int (nI j74)), (8, .int r58), (7, .int (-1)), (6, .int (nI q643)), (5, .int x43_5), (4, .int (nI q443)), (3, .int x43_3), (0, .ref (ad 58)), (1, .int (nI j8)), (2, .int (nI j41))]) S.1 S.2.1 dX8_best_233 hl66 (by decide) rfl (fun ls92 hl92 => ?_)
                      obtain ⟨v93, e93⟩ : ∃ y : Int32, y = (nI j74) + Int32.ofInt (-1) := ⟨_, rfl⟩
                      have kd93 : v93.toInt = ((j74 : Nat) : Int) - 1 := by rw [e93]; exact nI_dec (by omega)
                      refine lv_iinc (v := v93) (lv' := [(10, .int v93), (9, .int (nI j74)), (8, .int r58), (7, .int (-1)), (6, .int (nI q643)), (5, .int x43_5), (4, .int (nI q443)), (3, .int x43_3), (0, .ref (ad 58)), (1, .int (nI j8)), (2, .int (nI j41))]) S.1 S.2.1 dX8_best_235 hl92 (k := 1) rfl e93.symm (by decide) rfl (fun ls93 hl93 => ?_)
                      refine lv_goto (tgt := 194) S.1 S.2.1 dX8_best_238 (by decide) ?_
                      have ta94 : ((nI j74) : Int32).toInt = ((j74 : Nat) : Int) := (nI_toInt (n := j74) (Nat.lt_of_le_of_lt hj74 (by decide)))
                      exact ih66 (v93) ((nI j74)) (by omega) (by omega) (by omega) (by omega) ls93 (lv_sub hl93 [0, 1, 2, 3, 4, 5, 6, 7, 8, 9, 10] rfl)
                  have ta95 : ((-1) : Int32).toInt = (-1 : Int) := (show ((-1) : Int32).toInt = -1 by decide +kernel)
                  exact lp66 ((v64.toInt + 1).toNat + 1) (v64) ((-1)) (by omega) (by omega) (by omega) (by omega) ls65 (lv_sub hl65 [0, 1, 2, 3, 4, 5, 6, 7, 8, 9, 10] rfl)
                have k96 := ci_eq (show ((-1) : Int32).toInt = -1 by decide +kernel) rfl c54
                refine lv_iload S.1 S.2.1 dX8_best_150 (lv_at hl53 2 rfl) ?_
                refine lv_aload_n S.1 S.2.1 dX8_best_152 rfl (lv_at hl53 5 rfl) ?_
                refine lv_iload_n S.1 S.2.1 dX8_best_153 rfl (lv_at hl53 4 rfl) ?_
                refine lv_iload S.1 S.2.1 dX8_best_154 (lv_at hl53 1 rfl) ?_
                have ta98 : (x43_3 : Int32).toInt = x43_3.toInt := rfl
                refine r_cVp (As := [.int x43_3, .int (nI q643)]) (rest := [.int x43_5]) S hK hZ hP22 hS22 hl53.1 58 (by decide) hF23 (C := RX8) rfl (c_X8_learns l D cA ad t hI F22 hW22 x43_3 (nI q643) (by omega)) (cwV 2 S.2.2.2.2 gX8_best_X8_learns rfl rfl rfl (by decide +kernel) ⟨Nat.le_of_ble_eq_true rfl, Nat.le_of_ble_eq_true rfl⟩) rfl rfl (Nat.le_of_ble_eq_true rfl) ⟨Nat.zero_le _, Nat.zero_le _⟩ dX8_best_156 (fun r97 hr97 => ?_)
                refine lv_isub S.1 S.2.1 dX8_best_159 ?_
                refine lv_topi (fun v99 e99 => ?_)
                refine lv_istore (lv' := [(5, .int v99), (7, .int (-1)), (6, .int (nI q643)), (4, .int (nI q443)), (3, .int x43_3), (0, .ref (ad 58)), (1, .int (nI j8)), (2, .int (nI j41))]) S.1 S.2.1 dX8_best_160 hl53 (by decide) rfl (fun ls100 hl100 => ?_)
                refine lv_iinc (v := (nI (q443 + 1))) (lv' := [(4, .int (nI (q443 + 1))), (5, .int v99), (7, .int (-1)), (6, .int (nI q643)), (3, .int x43_3), (0, .ref (ad 58)), (1, .int (nI j8)), (2, .int (nI j41))]) S.1 S.2.1 dX8_best_162 hl100 (k := 3) rfl (nI_add _ 1) (by decide) rfl (fun ls101 hl101 => ?_)
                refine lv_goto (tgt := 247) S.1 S.2.1 dX8_best_165 (by decide) ?_
                refine lv_iinc (v := (nI (q643 + 1))) (lv' := [(6, .int (nI (q643 + 1))), (4, .int (nI (q443 + 1))), (5, .int v99), (7, .int (-1)), (3, .int x43_3), (0, .ref (ad 58)), (1, .int (nI j8)), (2, .int (nI j41))]) S.1 S.2.1 dX8_best_247 hl101 (k := 3) rfl (nI_add _ 1) (by decide) rfl (fun ls102 hl102 => ?_)
                refine lv_goto (tgt := 83) S.1 S.2.1 dX8_best_250 (by decide) ?_
                have ta103 : (x43_3 : Int32).toInt = x43_3.toInt := rfl
                exact ih43 (q643 + 1) (v99) (q443 + 1) (x43_3) (by omega) (by omega) (by omega) (by omega) ls102 (lv_sub hl102 [0, 2, 1, 4, 5, 6, 7] rfl)
              have k104 := ci_nle (nI_toInt (n := b50) (Nat.lt_of_le_of_lt hb50 (by decide))) (nI_toInt (n := q443) (by omega)) c51
              refine lv_aload_n S.1 S.2.1 dX8_best_100 rfl (lv_at hl43 4 rfl) ?_
              refine lv_iload S.1 S.2.1 dX8_best_101 (lv_at hl43 0 rfl) ?_
              refine lv_iconst (v := (nI 1)) S.1 S.2.1 dX8_best_103 (by decide +kernel) ?_
              refine lv_iadd S.1 S.2.1 dX8_best_104 ?_
              refine lv_topi (fun v105 e105 => ?_)
              obtain rfl : v105 = nI (q643 + 1) := e105.trans (nI_add _ _)
              refine lv_iload_n S.1 S.2.1 dX8_best_105 rfl (lv_at hl43 3 rfl) ?_
              refine lv_iload S.1 S.2.1 dX8_best_106 (lv_at hl43 2 rfl) ?_
              refine lv_iconst (v := (nI 1)) S.1 S.2.1 dX8_best_108 (by decide +kernel) ?_
              refine lv_iadd S.1 S.2.1 dX8_best_109 ?_
              refine lv_topi (fun v106 e106 => ?_)
              obtain rfl : v106 = nI (q443 + 1) := e106.trans (nI_add _ _)
              have ta108 : (x43_3 : Int32).toInt = x43_3.toInt := rfl
              refine r_cVp (As := [.int (nI (q643 + 1)), .int x43_3, .int (nI (q443 + 1))]) (rest := []) S hK hZ hP22 hS22 hl43.1 58 (by decide) hF23 (C := RX8) rfl (c_X8_mostAt l D cA ad t hI F22 hW22 (q643 + 1) (by omega) x43_3 (q443 + 1) (by omega) (by omega) (by omega)) (cwV 3 S.2.2.2.2 gX8_best_X8_mostAt rfl rfl rfl (by decide +kernel) ⟨Nat.le_of_ble_eq_true rfl, Nat.le_of_ble_eq_true rfl⟩) rfl rfl (Nat.le_of_ble_eq_true rfl) ⟨Nat.zero_le _, Nat.zero_le _⟩ dX8_best_110 (fun r107 hr107 => ?_)
              refine lv_if_lt (tgt := 140) S.1 S.2.1 dX8_best_113 (by decide) (fun c109 => ?_) (fun c109 => ?_)
              · skip
                have k110 := ci_lt rfl z_ti c109
                refine lv_iconst (v := (-1)) S.1 S.2.1 dX8_best_140 (by decide +kernel) ?_
                refine lv_istore (lv' := [(7, .int (-1)), (6, .int (nI q643)), (5, .int x43_5), (4, .int (nI q443)), (3, .int x43_3), (0, .ref (ad 58)), (1, .int (nI j8)), (2, .int (nI j41))]) S.1 S.2.1 dX8_best_141 hl43 (by decide) rfl (fun ls111 hl111 => ?_)
                refine lv_iload S.1 S.2.1 dX8_best_143 (lv_at hl111 0 rfl) ?_
                refine lv_iload S.1 S.2.1 dX8_best_145 (lv_at hl111 2 rfl) ?_
                refine lv_icmp_ne (tgt := 168) S.1 S.2.1 dX8_best_147 (by decide) (fun c112 => ?_) (fun c112 => ?_)
                · skip
                  have k113 := ci_ne (show ((-1) : Int32).toInt = -1 by decide +kernel) rfl c112
                  refine lv_aload_n S.1 S.2.1 dX8_best_168 rfl (lv_at hl111 5 rfl) ?_
                  refine lv_iload_n S.1 S.2.1 dX8_best_169 rfl (lv_at hl111 4 rfl) ?_
                  refine lv_aload_n S.1 S.2.1 dX8_best_170 rfl (lv_at hl111 5 rfl) ?_
                  refine r_get S hK hP22 58 (by decide) hF23 (C := RX8) (T := TX8) (N := 23) hiX8 rfl 4 (by decide) (am_at in_wsX8_best_0 2 rfl) (v := .ref (ad 62)) rfl dX8_best_171 ?_
                  refine lv_iconst (v := (nI 5)) S.1 S.2.1 dX8_best_174 (by decide +kernel) ?_
                  refine r_iald S hK hP22 62 (by decide) hF24 (vp_in_nI (show 5 < 7 by omega) (by omega)) dX8_best_175 ?_
                  refine lv_topi (fun v115 e115 => ?_)
                  refine r_cVp (As := [.int x43_3, .int v115]) (rest := []) S hK hZ hP22 hS22 hl111.1 58 (by decide) hF23 (C := RX8) rfl (c_X8_walks l D cA ad t hI F22 hW22 x43_3 v115) (cwV 2 S.2.2.2.2 gX8_best_X8_walks rfl rfl rfl (by decide +kernel) ⟨Nat.le_of_ble_eq_true rfl, Nat.le_of_ble_eq_true rfl⟩) rfl rfl (Nat.le_of_ble_eq_true rfl) ⟨Nat.zero_le _, Nat.zero_le _⟩ dX8_best_176 (fun r116 hr116 => ?_)
                  obtain ⟨hr116, hm116⟩ := hr116
                  refine lv_istore (lv' := [(8, .int r116), (7, .int (-1)), (6, .int (nI q643)), (5, .int x43_5), (4, .int (nI q443)), (3, .int x43_3), (0, .ref (ad 58)), (1, .int (nI j8)), (2, .int (nI j41))]) S.1 S.2.1 dX8_best_179 hl111 (by decide) rfl (fun ls117 hl117 => ?_)
                  refine lv_iconst (v := (-1)) S.1 S.2.1 dX8_best_181 (by decide +kernel) ?_
                  refine lv_istore (lv' := [(9, .int (-1)), (8, .int r116), (7, .int (-1)), (6, .int (nI q643)), (5, .int x43_5), (4, .int (nI q443)), (3, .int x43_3), (0, .ref (ad 58)), (1, .int (nI j8)), (2, .int (nI j41))]) S.1 S.2.1 dX8_best_182 hl117 (by decide) rfl (fun ls118 hl118 => ?_)
                  refine lv_aload_n S.1 S.2.1 dX8_best_184 rfl (lv_at hl118 7 rfl) ?_
                  refine r_get S hK hP22 58 (by decide) hF23 (C := RX8) (T := TX8) (N := 23) hiX8 rfl 2 (by decide) (am_at in_wsX8_best_0 3 rfl) (v := .ref (ad 60)) rfl dX8_best_185 ?_
                  refine lv_iconst (v := (nI 2)) S.1 S.2.1 dX8_best_188 (by decide +kernel) ?_
                  refine r_iald S hK hP22 60 (by decide) hF47 (vp_in_nI (show 2 < 52 by omega) (by omega)) dX8_best_189 ?_
                  refine lv_topi (fun v120 e120 => ?_)
                  obtain ⟨b121, hb121, he121⟩ := (pr_T (by decide) (hg47 2 (by decide))).2.1 rfl
                  obtain rfl : v120 = nI b121 := e120.trans he121
                  refine lv_iconst (v := (nI 1)) S.1 S.2.1 dX8_best_190 (by decide +kernel) ?_
                  refine lv_isub S.1 S.2.1 dX8_best_191 ?_
                  refine lv_topi (fun v122 e122 => ?_)
                  have ks122 : v122.toInt = ((b121 : Nat) : Int) - ((1 : Nat) : Int) := by rw [e122]; exact pk_sub_toInt (by omega) (by omega)
                  refine lv_istore (lv' := [(10, .int v122), (9, .int (-1)), (8, .int r116), (7, .int (-1)), (6, .int (nI q643)), (5, .int x43_5), (4, .int (nI q443)), (3, .int x43_3), (0, .ref (ad 58)), (1, .int (nI j8)), (2, .int (nI j41))]) S.1 S.2.1 dX8_best_192 hl118 (by decide) rfl (fun ls123 hl123 => ?_)
                  have lp124 : ∀ (n124 : Nat) (x124_10 : Int32) (x124_9 : Int32), -1 ≤ x124_10.toInt → x124_10.toInt ≤ 7 → -1 ≤ x124_9.toInt ∧ x124_9.toInt ≤ 7 → (x124_10.toInt + 1).toNat < n124 → ∀ (ls : Array Slot), lv_has ls 11 [(10, .int x124_10), (9, .int x124_9), (8, .int r116), (7, .int (-1)), (6, .int (nI q643)), (5, .int x43_5), (4, .int (nI q443)), (3, .int x43_3), (0, .ref (ad 58)), (1, .int (nI j8)), (2, .int (nI j41))] → W p l e { frames := 3, cells := 0, slots := 0, locals := 76 } s m args below meth c H22 locs22 0 0 Q (F0 m 194 ls []) := by
                    intro n124
                    induction n124 with
                    | zero =>
                      intro x124_10 x124_9 iv124_0 iv124_1 ix124_f hm124 ls124 hl124
                      exact absurd hm124 (Nat.not_lt_zero _)
                    | succ n124 ih124 =>
                      intro x124_10 x124_9 iv124_0 iv124_1 ix124_f hm124 ls124 hl124
                      refine lv_iload S.1 S.2.1 dX8_best_194 (lv_at hl124 0 rfl) ?_
                      refine lv_if_lt (tgt := 241) S.1 S.2.1 dX8_best_196 (by decide) (fun c125 => ?_) (fun c125 => ?_)
                      · skip
                        have k126 := ci_lt rfl z_ti c125
                        refine lv_iload S.1 S.2.1 dX8_best_241 (lv_at hl124 1 rfl) ?_
                        refine lv_istore_n (lv' := [(3, .int x124_9), (10, .int x124_10), (9, .int x124_9), (8, .int r116), (7, .int (-1)), (6, .int (nI q643)), (5, .int x43_5), (4, .int (nI q443)), (0, .ref (ad 58)), (1, .int (nI j8)), (2, .int (nI j41))]) S.1 S.2.1 dX8_best_243 rfl hl124 (by decide) rfl (fun ls127 hl127 => ?_)
                        refine lv_iconst (v := (nI 0)) S.1 S.2.1 dX8_best_244 (by decide +kernel) ?_
                        refine lv_istore (lv' := [(4, .int (nI 0)), (3, .int x124_9), (10, .int x124_10), (9, .int x124_9), (8, .int r116), (7, .int (-1)), (6, .int (nI q643)), (5, .int x43_5), (0, .ref (ad 58)), (1, .int (nI j8)), (2, .int (nI j41))]) S.1 S.2.1 dX8_best_245 hl127 (by decide) rfl (fun ls128 hl128 => ?_)
                        refine lv_iinc (v := (nI (q643 + 1))) (lv' := [(6, .int (nI (q643 + 1))), (4, .int (nI 0)), (3, .int x124_9), (10, .int x124_10), (9, .int x124_9), (8, .int r116), (7, .int (-1)), (5, .int x43_5), (0, .ref (ad 58)), (1, .int (nI j8)), (2, .int (nI j41))]) S.1 S.2.1 dX8_best_247 hl128 (k := 6) rfl (nI_add _ 1) (by decide) rfl (fun ls129 hl129 => ?_)
                        refine lv_goto (tgt := 83) S.1 S.2.1 dX8_best_250 (by decide) ?_
                        have ta130 : (x124_9 : Int32).toInt = x124_9.toInt := rfl
                        exact ih43 (q643 + 1) (x43_5) (0) (x124_9) (by omega) (by omega) (by omega) (by omega) ls129 (lv_sub hl129 [0, 7, 1, 2, 8, 9, 10] rfl)
                      have k131 := ci_nlt rfl z_ti c125
                      obtain ⟨j132, hj132, rfl⟩ := nI_of_le (x := x124_10) (B := 7) (by omega) (by omega)
                      have kj132 := nI_toInt (n := j132) (Nat.lt_of_le_of_lt hj132 (by decide))
                      refine lv_iload S.1 S.2.1 dX8_best_199 (lv_at hl124 2 rfl) ?_
                      refine lv_iload S.1 S.2.1 dX8_best_201 (lv_at hl124 0 rfl) ?_
                      refine lv_ishr S.1 S.2.1 dX8_best_203 ?_
                      refine lv_topi (fun v133 e133 => ?_)
                      refine lv_iconst (v := (nI 1)) S.1 S.2.1 dX8_best_204 (by decide +kernel) ?_
                      refine lv_iand S.1 S.2.1 dX8_best_205 ?_
                      refine lv_topi (fun v134 e134 => ?_)
                      refine lv_iconst (v := (nI 1)) S.1 S.2.1 dX8_best_206 (by decide +kernel) ?_
                      refine lv_icmp_ne (tgt := 231) S.1 S.2.1 dX8_best_207 (by decide) (fun c135 => ?_) (fun c135 => ?_)
                      · skip
                        have k136 := ci_ne rfl (nI_toInt (n := 1) (by decide)) c135
                        refine lv_iload S.1 S.2.1 dX8_best_231 (lv_at hl124 1 rfl) ?_
                        refine lv_istore (lv' := [(9, .int x124_9), (10, .int (nI j132)), (8, .int r116), (7, .int (-1)), (6, .int (nI q643)), (5, .int x43_5), (4, .int (nI q443)), (3, .int x43_3), (0, .ref (ad 58)), (1, .int (nI j8)), (2, .int (nI j41))]) S.1 S.2.1 dX8_best_233 hl124 (by decide) rfl (fun ls137 hl137 => ?_)
                        obtain ⟨v138, e138⟩ : ∃ y : Int32, y = (nI j132) + Int32.ofInt (-1) := ⟨_, rfl⟩
                        have kd138 : v138.toInt = ((j132 : Nat) : Int) - 1 := by rw [e138]; exact nI_dec (by omega)
                        refine lv_iinc (v := v138) (lv' := [(10, .int v138), (9, .int x124_9), (8, .int r116), (7, .int (-1)), (6, .int (nI q643)), (5, .int x43_5), (4, .int (nI q443)), (3, .int x43_3), (0, .ref (ad 58)), (1, .int (nI j8)), (2, .int (nI j41))]) S.1 S.2.1 dX8_best_235 hl137 (k := 1) rfl e138.symm (by decide) rfl (fun ls138 hl138 => ?_)
                        refine lv_goto (tgt := 194) S.1 S.2.1 dX8_best_238 (by decide) ?_
                        have ta139 : (x124_9 : Int32).toInt = x124_9.toInt := rfl
                        exact ih124 (v138) (x124_9) (by omega) (by omega) (by omega) (by omega) ls138 (lv_sub hl138 [0, 1, 2, 3, 4, 5, 6, 7, 8, 9, 10] rfl)
                      have k140 := ci_eq rfl (nI_toInt (n := 1) (by decide)) c135
                      refine lv_aload_n S.1 S.2.1 dX8_best_210 rfl (lv_at hl124 8 rfl) ?_
                      refine lv_iload S.1 S.2.1 dX8_best_211 (lv_at hl124 4 rfl) ?_
                      refine lv_iconst (v := (nI 1)) S.1 S.2.1 dX8_best_213 (by decide +kernel) ?_
                      refine lv_iadd S.1 S.2.1 dX8_best_214 ?_
                      refine lv_topi (fun v141 e141 => ?_)
                      obtain rfl : v141 = nI (q643 + 1) := e141.trans (nI_add _ _)
                      refine lv_iload S.1 S.2.1 dX8_best_215 (lv_at hl124 0 rfl) ?_
                      refine lv_iconst (v := (nI 0)) S.1 S.2.1 dX8_best_217 (by decide +kernel) ?_
                      have ta143 : ((nI j132) : Int32).toInt = ((j132 : Nat) : Int) := (nI_toInt (n := j132) (Nat.lt_of_le_of_lt hj132 (by decide)))
                      refine r_cVp (As := [.int (nI (q643 + 1)), .int (nI j132), .int (nI 0)]) (rest := []) S hK hZ hP22 hS22 hl124.1 58 (by decide) hF23 (C := RX8) rfl (c_X8_mostAt l D cA ad t hI F22 hW22 (q643 + 1) (by omega) (nI j132) (0) (by omega) (by omega) (by omega)) (cwV 3 S.2.2.2.2 gX8_best_X8_mostAt rfl rfl rfl (by decide +kernel) ⟨Nat.le_of_ble_eq_true rfl, Nat.le_of_ble_eq_true rfl⟩) rfl rfl (Nat.le_of_ble_eq_true rfl) ⟨Nat.zero_le _, Nat.zero_le _⟩ dX8_best_218 (fun r142 hr142 => ?_)
                      refine lv_iload S.1 S.2.1 dX8_best_221 (lv_at hl124 5 rfl) ?_
                      refine lv_icmp_ne (tgt := 231) S.1 S.2.1 dX8_best_223 (by decide) (fun c144 => ?_) (fun c144 => ?_)
                      · skip
                        have k145 := ci_ne rfl rfl c144
                        refine lv_iload S.1 S.2.1 dX8_best_231 (lv_at hl124 1 rfl) ?_
                        refine lv_istore (lv' := [(9, .int x124_9), (10, .int (nI j132)), (8, .int r116), (7, .int (-1)), (6, .int (nI q643)), (5, .int x43_5), (4, .int (nI q443)), (3, .int x43_3), (0, .ref (ad 58)), (1, .int (nI j8)), (2, .int (nI j41))]) S.1 S.2.1 dX8_best_233 hl124 (by decide) rfl (fun ls146 hl146 => ?_)
                        obtain ⟨v147, e147⟩ : ∃ y : Int32, y = (nI j132) + Int32.ofInt (-1) := ⟨_, rfl⟩
                        have kd147 : v147.toInt = ((j132 : Nat) : Int) - 1 := by rw [e147]; exact nI_dec (by omega)
                        refine lv_iinc (v := v147) (lv' := [(10, .int v147), (9, .int x124_9), (8, .int r116), (7, .int (-1)), (6, .int (nI q643)), (5, .int x43_5), (4, .int (nI q443)), (3, .int x43_3), (0, .ref (ad 58)), (1, .int (nI j8)), (2, .int (nI j41))]) S.1 S.2.1 dX8_best_235 hl146 (k := 1) rfl e147.symm (by decide) rfl (fun ls147 hl147 => ?_)
                        refine lv_goto (tgt := 194) S.1 S.2.1 dX8_best_238 (by decide) ?_
                        have ta148 : (x124_9 : Int32).toInt = x124_9.toInt := rfl
                        exact ih124 (v147) (x124_9) (by omega) (by omega) (by omega) (by omega) ls147 (lv_sub hl147 [0, 1, 2, 3, 4, 5, 6, 7, 8, 9, 10] rfl)
                      have k149 := ci_eq rfl rfl c144
                      refine lv_iload S.1 S.2.1 dX8_best_226 (lv_at hl124 0 rfl) ?_
                      refine lv_goto (tgt := 233) S.1 S.2.1 dX8_best_228 (by decide) ?_
                      refine lv_istore (lv' := [(9, .int (nI j132)), (10, .int (nI j132)), (8, .int r116), (7, .int (-1)), (6, .int (nI q643)), (5, .int x43_5), (4, .int (nI q443)), (3, .int x43_3), (0, .ref (ad 58)), (1, .int (nI j8)), (2, .int (nI j41))]) S.1 S.2.1 dX8_best_233 hl124 (by decide) rfl (fun ls150 hl150 => ?_)
                      obtain ⟨v151, e151⟩ : ∃ y : Int32, y = (nI j132) + Int32.ofInt (-1) := ⟨_, rfl⟩
                      have kd151 : v151.toInt = ((j132 : Nat) : Int) - 1 := by rw [e151]; exact nI_dec (by omega)
                      refine lv_iinc (v := v151) (lv' := [(10, .int v151), (9, .int (nI j132)), (8, .int r116), (7, .int (-1)), (6, .int (nI q643)), (5, .int x43_5), (4, .int (nI q443)), (3, .int x43_3), (0, .ref (ad 58)), (1, .int (nI j8)), (2, .int (nI j41))]) S.1 S.2.1 dX8_best_235 hl150 (k := 1) rfl e151.symm (by decide) rfl (fun ls151 hl151 => ?_)
                      refine lv_goto (tgt := 194) S.1 S.2.1 dX8_best_238 (by decide) ?_
                      have ta152 : ((nI j132) : Int32).toInt = ((j132 : Nat) : Int) := (nI_toInt (n := j132) (Nat.lt_of_le_of_lt hj132 (by decide)))
                      exact ih124 (v151) ((nI j132)) (by omega) (by omega) (by omega) (by omega) ls151 (lv_sub hl151 [0, 1, 2, 3, 4, 5, 6, 7, 8, 9, 10] rfl)
                  have ta153 : ((-1) : Int32).toInt = (-1 : Int) := (show ((-1) : Int32).toInt = -1 by decide +kernel)
                  exact lp124 ((v122.toInt + 1).toNat + 1) (v122) ((-1)) (by omega) (by omega) (by omega) (by omega) ls123 (lv_sub hl123 [0, 1, 2, 3, 4, 5, 6, 7, 8, 9, 10] rfl)
                have k154 := ci_eq (show ((-1) : Int32).toInt = -1 by decide +kernel) rfl c112
                refine lv_iload S.1 S.2.1 dX8_best_150 (lv_at hl111 2 rfl) ?_
                refine lv_aload_n S.1 S.2.1 dX8_best_152 rfl (lv_at hl111 5 rfl) ?_
                refine lv_iload_n S.1 S.2.1 dX8_best_153 rfl (lv_at hl111 4 rfl) ?_
                refine lv_iload S.1 S.2.1 dX8_best_154 (lv_at hl111 1 rfl) ?_
                have ta156 : (x43_3 : Int32).toInt = x43_3.toInt := rfl
                refine r_cVp (As := [.int x43_3, .int (nI q643)]) (rest := [.int x43_5]) S hK hZ hP22 hS22 hl111.1 58 (by decide) hF23 (C := RX8) rfl (c_X8_learns l D cA ad t hI F22 hW22 x43_3 (nI q643) (by omega)) (cwV 2 S.2.2.2.2 gX8_best_X8_learns rfl rfl rfl (by decide +kernel) ⟨Nat.le_of_ble_eq_true rfl, Nat.le_of_ble_eq_true rfl⟩) rfl rfl (Nat.le_of_ble_eq_true rfl) ⟨Nat.zero_le _, Nat.zero_le _⟩ dX8_best_156 (fun r155 hr155 => ?_)
                refine lv_isub S.1 S.2.1 dX8_best_159 ?_
                refine lv_topi (fun v157 e157 => ?_)
                refine lv_istore (lv' := [(5, .int v157), (7, .int (-1)), (6, .int (nI q643)), (4, .int (nI q443)), (3, .int x43_3), (0, .ref (ad 58)), (1, .int (nI j8)), (2, .int (nI j41))]) S.1 S.2.1 dX8_best_160 hl111 (by decide) rfl (fun ls158 hl158 => ?_)
                refine lv_iinc (v := (nI (q443 + 1))) (lv' := [(4, .int (nI (q443 + 1))), (5, .int v157), (7, .int (-1)), (6, .int (nI q643)), (3, .int x43_3), (0, .ref (ad 58)), (1, .int (nI j8)), (2, .int (nI j41))]) S.1 S.2.1 dX8_best_162 hl158 (k := 3) rfl (nI_add _ 1) (by decide) rfl (fun ls159 hl159 => ?_)
                refine lv_goto (tgt := 247) S.1 S.2.1 dX8_best_165 (by decide) ?_
                refine lv_iinc (v := (nI (q643 + 1))) (lv' := [(6, .int (nI (q643 + 1))), (4, .int (nI (q443 + 1))), (5, .int v157), (7, .int (-1)), (3, .int x43_3), (0, .ref (ad 58)), (1, .int (nI j8)), (2, .int (nI j41))]) S.1 S.2.1 dX8_best_247 hl159 (k := 3) rfl (nI_add _ 1) (by decide) rfl (fun ls160 hl160 => ?_)
                refine lv_goto (tgt := 83) S.1 S.2.1 dX8_best_250 (by decide) ?_
                have ta161 : (x43_3 : Int32).toInt = x43_3.toInt := rfl
                exact ih43 (q643 + 1) (v157) (q443 + 1) (x43_3) (by omega) (by omega) (by omega) (by omega) ls160 (lv_sub hl160 [0, 2, 1, 4, 5, 6, 7] rfl)
              have k162 := ci_nlt rfl z_ti c109
              refine lv_aload_n S.1 S.2.1 dX8_best_116 rfl (lv_at hl43 4 rfl) ?_
              refine lv_iload_n S.1 S.2.1 dX8_best_117 rfl (lv_at hl43 3 rfl) ?_
              refine lv_iload S.1 S.2.1 dX8_best_118 (lv_at hl43 0 rfl) ?_
              have ta164 : (x43_3 : Int32).toInt = x43_3.toInt := rfl
              refine r_cVp (As := [.int x43_3, .int (nI q643)]) (rest := []) S hK hZ hP22 hS22 hl43.1 58 (by decide) hF23 (C := RX8) rfl (c_X8_learns l D cA ad t hI F22 hW22 x43_3 (nI q643) (by omega)) (cwV 2 S.2.2.2.2 gX8_best_X8_learns rfl rfl rfl (by decide +kernel) ⟨Nat.le_of_ble_eq_true rfl, Nat.le_of_ble_eq_true rfl⟩) rfl rfl (Nat.le_of_ble_eq_true rfl) ⟨Nat.zero_le _, Nat.zero_le _⟩ dX8_best_120 (fun r163 hr163 => ?_)
              refine lv_aload_n S.1 S.2.1 dX8_best_123 rfl (lv_at hl43 4 rfl) ?_
              refine lv_iload S.1 S.2.1 dX8_best_124 (lv_at hl43 0 rfl) ?_
              refine lv_iconst (v := (nI 1)) S.1 S.2.1 dX8_best_126 (by decide +kernel) ?_
              refine lv_iadd S.1 S.2.1 dX8_best_127 ?_
              refine lv_topi (fun v165 e165 => ?_)
              obtain rfl : v165 = nI (q643 + 1) := e165.trans (nI_add _ _)
              refine lv_iload_n S.1 S.2.1 dX8_best_128 rfl (lv_at hl43 3 rfl) ?_
              refine lv_iload S.1 S.2.1 dX8_best_129 (lv_at hl43 2 rfl) ?_
              refine lv_iconst (v := (nI 1)) S.1 S.2.1 dX8_best_131 (by decide +kernel) ?_
              refine lv_iadd S.1 S.2.1 dX8_best_132 ?_
              refine lv_topi (fun v166 e166 => ?_)
              obtain rfl : v166 = nI (q443 + 1) := e166.trans (nI_add _ _)
              have ta168 : (x43_3 : Int32).toInt = x43_3.toInt := rfl
              refine r_cVp (As := [.int (nI (q643 + 1)), .int x43_3, .int (nI (q443 + 1))]) (rest := [.int r163]) S hK hZ hP22 hS22 hl43.1 58 (by decide) hF23 (C := RX8) rfl (c_X8_mostAt l D cA ad t hI F22 hW22 (q643 + 1) (by omega) x43_3 (q443 + 1) (by omega) (by omega) (by omega)) (cwV 3 S.2.2.2.2 gX8_best_X8_mostAt rfl rfl rfl (by decide +kernel) ⟨Nat.le_of_ble_eq_true rfl, Nat.le_of_ble_eq_true rfl⟩) rfl rfl (Nat.le_of_ble_eq_true rfl) ⟨Nat.zero_le _, Nat.zero_le _⟩ dX8_best_133 (fun r167 hr167 => ?_)
              refine lv_iadd S.1 S.2.1 dX8_best_136 ?_
              refine lv_topi (fun v169 e169 => ?_)
              refine lv_goto (tgt := 141) S.1 S.2.1 dX8_best_137 (by decide) ?_
              refine lv_istore (lv' := [(7, .int v169), (6, .int (nI q643)), (5, .int x43_5), (4, .int (nI q443)), (3, .int x43_3), (0, .ref (ad 58)), (1, .int (nI j8)), (2, .int (nI j41))]) S.1 S.2.1 dX8_best_141 hl43 (by decide) rfl (fun ls170 hl170 => ?_)
              refine lv_iload S.1 S.2.1 dX8_best_143 (lv_at hl170 0 rfl) ?_
              refine lv_iload S.1 S.2.1 dX8_best_145 (lv_at hl170 2 rfl) ?_
              refine lv_icmp_ne (tgt := 168) S.1 S.2.1 dX8_best_147 (by decide) (fun c171 => ?_) (fun c171 => ?_)
              · skip
                have k172 := ci_ne rfl rfl c171
                refine lv_aload_n S.1 S.2.1 dX8_best_168 rfl (lv_at hl170 5 rfl) ?_
                refine lv_iload_n S.1 S.2.1 dX8_best_169 rfl (lv_at hl170 4 rfl) ?_
                refine lv_aload_n S.1 S.2.1 dX8_best_170 rfl (lv_at hl170 5 rfl) ?_
                refine r_get S hK hP22 58 (by decide) hF23 (C := RX8) (T := TX8) (N := 23) hiX8 rfl 4 (by decide) (am_at in_wsX8_best_0 2 rfl) (v := .ref (ad 62)) rfl dX8_best_171 ?_
                refine lv_iconst (v := (nI 5)) S.1 S.2.1 dX8_best_174 (by decide +kernel) ?_
                refine r_iald S hK hP22 62 (by decide) hF24 (vp_in_nI (show 5 < 7 by omega) (by omega)) dX8_best_175 ?_
                refine lv_topi (fun v174 e174 => ?_)
                refine r_cVp (As := [.int x43_3, .int v174]) (rest := []) S hK hZ hP22 hS22 hl170.1 58 (by decide) hF23 (C := RX8) rfl (c_X8_walks l D cA ad t hI F22 hW22 x43_3 v174) (cwV 2 S.2.2.2.2 gX8_best_X8_walks rfl rfl rfl (by decide +kernel) ⟨Nat.le_of_ble_eq_true rfl, Nat.le_of_ble_eq_true rfl⟩) rfl rfl (Nat.le_of_ble_eq_true rfl) ⟨Nat.zero_le _, Nat.zero_le _⟩ dX8_best_176 (fun r175 hr175 => ?_)
                obtain ⟨hr175, hm175⟩ := hr175
                refine lv_istore (lv' := [(8, .int r175), (7, .int v169), (6, .int (nI q643)), (5, .int x43_5), (4, .int (nI q443)), (3, .int x43_3), (0, .ref (ad 58)), (1, .int (nI j8)), (2, .int (nI j41))]) S.1 S.2.1 dX8_best_179 hl170 (by decide) rfl (fun ls176 hl176 => ?_)
                refine lv_iconst (v := (-1)) S.1 S.2.1 dX8_best_181 (by decide +kernel) ?_
                refine lv_istore (lv' := [(9, .int (-1)), (8, .int r175), (7, .int v169), (6, .int (nI q643)), (5, .int x43_5), (4, .int (nI q443)), (3, .int x43_3), (0, .ref (ad 58)), (1, .int (nI j8)), (2, .int (nI j41))]) S.1 S.2.1 dX8_best_182 hl176 (by decide) rfl (fun ls177 hl177 => ?_)
                refine lv_aload_n S.1 S.2.1 dX8_best_184 rfl (lv_at hl177 7 rfl) ?_
                refine r_get S hK hP22 58 (by decide) hF23 (C := RX8) (T := TX8) (N := 23) hiX8 rfl 2 (by decide) (am_at in_wsX8_best_0 3 rfl) (v := .ref (ad 60)) rfl dX8_best_185 ?_
                refine lv_iconst (v := (nI 2)) S.1 S.2.1 dX8_best_188 (by decide +kernel) ?_
                refine r_iald S hK hP22 60 (by decide) hF47 (vp_in_nI (show 2 < 52 by omega) (by omega)) dX8_best_189 ?_
                refine lv_topi (fun v179 e179 => ?_)
                obtain ⟨b180, hb180, he180⟩ := (pr_T (by decide) (hg47 2 (by decide))).2.1 rfl
                obtain rfl : v179 = nI b180 := e179.trans he180
                refine lv_iconst (v := (nI 1)) S.1 S.2.1 dX8_best_190 (by decide +kernel) ?_
                refine lv_isub S.1 S.2.1 dX8_best_191 ?_
                refine lv_topi (fun v181 e181 => ?_)
                have ks181 : v181.toInt = ((b180 : Nat) : Int) - ((1 : Nat) : Int) := by rw [e181]; exact pk_sub_toInt (by omega) (by omega)
                refine lv_istore (lv' := [(10, .int v181), (9, .int (-1)), (8, .int r175), (7, .int v169), (6, .int (nI q643)), (5, .int x43_5), (4, .int (nI q443)), (3, .int x43_3), (0, .ref (ad 58)), (1, .int (nI j8)), (2, .int (nI j41))]) S.1 S.2.1 dX8_best_192 hl177 (by decide) rfl (fun ls182 hl182 => ?_)
                have lp183 : ∀ (n183 : Nat) (x183_10 : Int32) (x183_9 : Int32), -1 ≤ x183_10.toInt → x183_10.toInt ≤ 7 → -1 ≤ x183_9.toInt ∧ x183_9.toInt ≤ 7 → (x183_10.toInt + 1).toNat < n183 → ∀ (ls : Array Slot), lv_has ls 11 [(10, .int x183_10), (9, .int x183_9), (8, .int r175), (7, .int v169), (6, .int (nI q643)), (5, .int x43_5), (4, .int (nI q443)), (3, .int x43_3), (0, .ref (ad 58)), (1, .int (nI j8)), (2, .int (nI j41))] → W p l e { frames := 3, cells := 0, slots := 0, locals := 76 } s m args below meth c H22 locs22 0 0 Q (F0 m 194 ls []) := by
                  intro n183
                  induction n183 with
                  | zero =>
                    intro x183_10 x183_9 iv183_0 iv183_1 ix183_f hm183 ls183 hl183
                    exact absurd hm183 (Nat.not_lt_zero _)
                  | succ n183 ih183 =>
                    intro x183_10 x183_9 iv183_0 iv183_1 ix183_f hm183 ls183 hl183
                    refine lv_iload S.1 S.2.1 dX8_best_194 (lv_at hl183 0 rfl) ?_
                    refine lv_if_lt (tgt := 241) S.1 S.2.1 dX8_best_196 (by decide) (fun c184 => ?_) (fun c184 => ?_)
                    · skip
                      have k185 := ci_lt rfl z_ti c184
                      refine lv_iload S.1 S.2.1 dX8_best_241 (lv_at hl183 1 rfl) ?_
                      refine lv_istore_n (lv' := [(3, .int x183_9), (10, .int x183_10), (9, .int x183_9), (8, .int r175), (7, .int v169), (6, .int (nI q643)), (5, .int x43_5), (4, .int (nI q443)), (0, .ref (ad 58)), (1, .int (nI j8)), (2, .int (nI j41))]) S.1 S.2.1 dX8_best_243 rfl hl183 (by decide) rfl (fun ls186 hl186 => ?_)
                      refine lv_iconst (v := (nI 0)) S.1 S.2.1 dX8_best_244 (by decide +kernel) ?_
                      refine lv_istore (lv' := [(4, .int (nI 0)), (3, .int x183_9), (10, .int x183_10), (9, .int x183_9), (8, .int r175), (7, .int v169), (6, .int (nI q643)), (5, .int x43_5), (0, .ref (ad 58)), (1, .int (nI j8)), (2, .int (nI j41))]) S.1 S.2.1 dX8_best_245 hl186 (by decide) rfl (fun ls187 hl187 => ?_)
                      refine lv_iinc (v := (nI (q643 + 1))) (lv' := [(6, .int (nI (q643 + 1))), (4, .int (nI 0)), (3, .int x183_9), (10, .int x183_10), (9, .int x183_9), (8, .int r175), (7, .int v169), (5, .int x43_5), (0, .ref (ad 58)), (1, .int (nI j8)), (2, .int (nI j41))]) S.1 S.2.1 dX8_best_247 hl187 (k := 6) rfl (nI_add _ 1) (by decide) rfl (fun ls188 hl188 => ?_)
                      refine lv_goto (tgt := 83) S.1 S.2.1 dX8_best_250 (by decide) ?_
                      have ta189 : (x183_9 : Int32).toInt = x183_9.toInt := rfl
                      exact ih43 (q643 + 1) (x43_5) (0) (x183_9) (by omega) (by omega) (by omega) (by omega) ls188 (lv_sub hl188 [0, 7, 1, 2, 8, 9, 10] rfl)
                    have k190 := ci_nlt rfl z_ti c184
                    obtain ⟨j191, hj191, rfl⟩ := nI_of_le (x := x183_10) (B := 7) (by omega) (by omega)
                    have kj191 := nI_toInt (n := j191) (Nat.lt_of_le_of_lt hj191 (by decide))
                    refine lv_iload S.1 S.2.1 dX8_best_199 (lv_at hl183 2 rfl) ?_
                    refine lv_iload S.1 S.2.1 dX8_best_201 (lv_at hl183 0 rfl) ?_
                    refine lv_ishr S.1 S.2.1 dX8_best_203 ?_
                    refine lv_topi (fun v192 e192 => ?_)
                    refine lv_iconst (v := (nI 1)) S.1 S.2.1 dX8_best_204 (by decide +kernel) ?_
                    refine lv_iand S.1 S.2.1 dX8_best_205 ?_
                    refine lv_topi (fun v193 e193 => ?_)
                    refine lv_iconst (v := (nI 1)) S.1 S.2.1 dX8_best_206 (by decide +kernel) ?_
                    refine lv_icmp_ne (tgt := 231) S.1 S.2.1 dX8_best_207 (by decide) (fun c194 => ?_) (fun c194 => ?_)
                    · skip
                      have k195 := ci_ne rfl (nI_toInt (n := 1) (by decide)) c194
                      refine lv_iload S.1 S.2.1 dX8_best_231 (lv_at hl183 1 rfl) ?_
                      refine lv_istore (lv' := [(9, .int x183_9), (10, .int (nI j191)), (8, .int r175), (7, .int v169), (6, .int (nI q643)), (5, .int x43_5), (4, .int (nI q443)), (3, .int x43_3), (0, .ref (ad 58)), (1, .int (nI j8)), (2, .int (nI j41))]) S.1 S.2.1 dX8_best_233 hl183 (by decide) rfl (fun ls196 hl196 => ?_)
                      obtain ⟨v197, e197⟩ : ∃ y : Int32, y = (nI j191) + Int32.ofInt (-1) := ⟨_, rfl⟩
                      have kd197 : v197.toInt = ((j191 : Nat) : Int) - 1 := by rw [e197]; exact nI_dec (by omega)
                      refine lv_iinc (v := v197) (lv' := [(10, .int v197), (9, .int x183_9), (8, .int r175), (7, .int v169), (6, .int (nI q643)), (5, .int x43_5), (4, .int (nI q443)), (3, .int x43_3), (0, .ref (ad 58)), (1, .int (nI j8)), (2, .int (nI j41))]) S.1 S.2.1 dX8_best_235 hl196 (k := 1) rfl e197.symm (by decide) rfl (fun ls197 hl197 => ?_)
                      refine lv_goto (tgt := 194) S.1 S.2.1 dX8_best_238 (by decide) ?_
                      have ta198 : (x183_9 : Int32).toInt = x183_9.toInt := rfl
                      exact ih183 (v197) (x183_9) (by omega) (by omega) (by omega) (by omega) ls197 (lv_sub hl197 [0, 1, 2, 3, 4, 5, 6, 7, 8, 9, 10] rfl)
                    have k199 := ci_eq rfl (nI_toInt (n := 1) (by decide)) c194
                    refine lv_aload_n S.1 S.2.1 dX8_best_210 rfl (lv_at hl183 8 rfl) ?_
                    refine lv_iload S.1 S.2.1 dX8_best_211 (lv_at hl183 4 rfl) ?_
                    refine lv_iconst (v := (nI 1)) S.1 S.2.1 dX8_best_213 (by decide +kernel) ?_
                    refine lv_iadd S.1 S.2.1 dX8_best_214 ?_
                    refine lv_topi (fun v200 e200 => ?_)
                    obtain rfl : v200 = nI (q643 + 1) := e200.trans (nI_add _ _)
                    refine lv_iload S.1 S.2.1 dX8_best_215 (lv_at hl183 0 rfl) ?_
                    refine lv_iconst (v := (nI 0)) S.1 S.2.1 dX8_best_217 (by decide +kernel) ?_
                    have ta202 : ((nI j191) : Int32).toInt = ((j191 : Nat) : Int) := (nI_toInt (n := j191) (Nat.lt_of_le_of_lt hj191 (by decide)))
                    refine r_cVp (As := [.int (nI (q643 + 1)), .int (nI j191), .int (nI 0)]) (rest := []) S hK hZ hP22 hS22 hl183.1 58 (by decide) hF23 (C := RX8) rfl (c_X8_mostAt l D cA ad t hI F22 hW22 (q643 + 1) (by omega) (nI j191) (0) (by omega) (by omega) (by omega)) (cwV 3 S.2.2.2.2 gX8_best_X8_mostAt rfl rfl rfl (by decide +kernel) ⟨Nat.le_of_ble_eq_true rfl, Nat.le_of_ble_eq_true rfl⟩) rfl rfl (Nat.le_of_ble_eq_true rfl) ⟨Nat.zero_le _, Nat.zero_le _⟩ dX8_best_218 (fun r201 hr201 => ?_)
                    refine lv_iload S.1 S.2.1 dX8_best_221 (lv_at hl183 5 rfl) ?_
                    refine lv_icmp_ne (tgt := 231) S.1 S.2.1 dX8_best_223 (by decide) (fun c203 => ?_) (fun c203 => ?_)
                    · skip
                      have k204 := ci_ne rfl rfl c203
                      refine lv_iload S.1 S.2.1 dX8_best_231 (lv_at hl183 1 rfl) ?_
                      refine lv_istore (lv' := [(9, .int x183_9), (10, .int (nI j191)), (8, .int r175), (7, .int v169), (6, .int (nI q643)), (5, .int x43_5), (4, .int (nI q443)), (3, .int x43_3), (0, .ref (ad 58)), (1, .int (nI j8)), (2, .int (nI j41))]) S.1 S.2.1 dX8_best_233 hl183 (by decide) rfl (fun ls205 hl205 => ?_)
                      obtain ⟨v206, e206⟩ : ∃ y : Int32, y = (nI j191) + Int32.ofInt (-1) := ⟨_, rfl⟩
                      have kd206 : v206.toInt = ((j191 : Nat) : Int) - 1 := by rw [e206]; exact nI_dec (by omega)
                      refine lv_iinc (v := v206) (lv' := [(10, .int v206), (9, .int x183_9), (8, .int r175), (7, .int v169), (6, .int (nI q643)), (5, .int x43_5), (4, .int (nI q443)), (3, .int x43_3), (0, .ref (ad 58)), (1, .int (nI j8)), (2, .int (nI j41))]) S.1 S.2.1 dX8_best_235 hl205 (k := 1) rfl e206.symm (by decide) rfl (fun ls206 hl206 => ?_)
                      refine lv_goto (tgt := 194) S.1 S.2.1 dX8_best_238 (by decide) ?_
                      have ta207 : (x183_9 : Int32).toInt = x183_9.toInt := rfl
                      exact ih183 (v206) (x183_9) (by omega) (by omega) (by omega) (by omega) ls206 (lv_sub hl206 [0, 1, 2, 3, 4, 5, 6, 7, 8, 9, 10] rfl)
                    have k208 := ci_eq rfl rfl c203
                    refine lv_iload S.1 S.2.1 dX8_best_226 (lv_at hl183 0 rfl) ?_
                    refine lv_goto (tgt := 233) S.1 S.2.1 dX8_best_228 (by decide) ?_
                    refine lv_istore (lv' := [(9, .int (nI j191)), (10, .int (nI j191)), (8, .int r175), (7, .int v169), (6, .int (nI q643)), (5, .int x43_5), (4, .int (nI q443)), (3, .int x43_3), (0, .ref (ad 58)), (1, .int (nI j8)), (2, .int (nI j41))]) S.1 S.2.1 dX8_best_233 hl183 (by decide) rfl (fun ls209 hl209 => ?_)
                    obtain ⟨v210, e210⟩ : ∃ y : Int32, y = (nI j191) + Int32.ofInt (-1) := ⟨_, rfl⟩
                    have kd210 : v210.toInt = ((j191 : Nat) : Int) - 1 := by rw [e210]; exact nI_dec (by omega)
                    refine lv_iinc (v := v210) (lv' := [(10, .int v210), (9, .int (nI j191)), (8, .int r175), (7, .int v169), (6, .int (nI q643)), (5, .int x43_5), (4, .int (nI q443)), (3, .int x43_3), (0, .ref (ad 58)), (1, .int (nI j8)), (2, .int (nI j41))]) S.1 S.2.1 dX8_best_235 hl209 (k := 1) rfl e210.symm (by decide) rfl (fun ls210 hl210 => ?_)
                    refine lv_goto (tgt := 194) S.1 S.2.1 dX8_best_238 (by decide) ?_
                    have ta211 : ((nI j191) : Int32).toInt = ((j191 : Nat) : Int) := (nI_toInt (n := j191) (Nat.lt_of_le_of_lt hj191 (by decide)))
                    exact ih183 (v210) ((nI j191)) (by omega) (by omega) (by omega) (by omega) ls210 (lv_sub hl210 [0, 1, 2, 3, 4, 5, 6, 7, 8, 9, 10] rfl)
                have ta212 : ((-1) : Int32).toInt = (-1 : Int) := (show ((-1) : Int32).toInt = -1 by decide +kernel)
                exact lp183 ((v181.toInt + 1).toNat + 1) (v181) ((-1)) (by omega) (by omega) (by omega) (by omega) ls182 (lv_sub hl182 [0, 1, 2, 3, 4, 5, 6, 7, 8, 9, 10] rfl)
              have k213 := ci_eq rfl rfl c171
              refine lv_iload S.1 S.2.1 dX8_best_150 (lv_at hl170 2 rfl) ?_
              refine lv_aload_n S.1 S.2.1 dX8_best_152 rfl (lv_at hl170 5 rfl) ?_
              refine lv_iload_n S.1 S.2.1 dX8_best_153 rfl (lv_at hl170 4 rfl) ?_
              refine lv_iload S.1 S.2.1 dX8_best_154 (lv_at hl170 1 rfl) ?_
              have ta215 : (x43_3 : Int32).toInt = x43_3.toInt := rfl
              refine r_cVp (As := [.int x43_3, .int (nI q643)]) (rest := [.int x43_5]) S hK hZ hP22 hS22 hl170.1 58 (by decide) hF23 (C := RX8) rfl (c_X8_learns l D cA ad t hI F22 hW22 x43_3 (nI q643) (by omega)) (cwV 2 S.2.2.2.2 gX8_best_X8_learns rfl rfl rfl (by decide +kernel) ⟨Nat.le_of_ble_eq_true rfl, Nat.le_of_ble_eq_true rfl⟩) rfl rfl (Nat.le_of_ble_eq_true rfl) ⟨Nat.zero_le _, Nat.zero_le _⟩ dX8_best_156 (fun r214 hr214 => ?_)
              refine lv_isub S.1 S.2.1 dX8_best_159 ?_
              refine lv_topi (fun v216 e216 => ?_)
              refine lv_istore (lv' := [(5, .int v216), (7, .int v169), (6, .int (nI q643)), (4, .int (nI q443)), (3, .int x43_3), (0, .ref (ad 58)), (1, .int (nI j8)), (2, .int (nI j41))]) S.1 S.2.1 dX8_best_160 hl170 (by decide) rfl (fun ls217 hl217 => ?_)
              refine lv_iinc (v := (nI (q443 + 1))) (lv' := [(4, .int (nI (q443 + 1))), (5, .int v216), (7, .int v169), (6, .int (nI q643)), (3, .int x43_3), (0, .ref (ad 58)), (1, .int (nI j8)), (2, .int (nI j41))]) S.1 S.2.1 dX8_best_162 hl217 (k := 3) rfl (nI_add _ 1) (by decide) rfl (fun ls218 hl218 => ?_)
              refine lv_goto (tgt := 247) S.1 S.2.1 dX8_best_165 (by decide) ?_
              refine lv_iinc (v := (nI (q643 + 1))) (lv' := [(6, .int (nI (q643 + 1))), (4, .int (nI (q443 + 1))), (5, .int v216), (7, .int v169), (3, .int x43_3), (0, .ref (ad 58)), (1, .int (nI j8)), (2, .int (nI j41))]) S.1 S.2.1 dX8_best_247 hl218 (k := 3) rfl (nI_add _ 1) (by decide) rfl (fun ls219 hl219 => ?_)
              refine lv_goto (tgt := 83) S.1 S.2.1 dX8_best_250 (by decide) ?_
              have ta220 : (x43_3 : Int32).toInt = x43_3.toInt := rfl
              exact ih43 (q643 + 1) (v216) (q443 + 1) (x43_3) (by omega) (by omega) (by omega) (by omega) ls219 (lv_sub hl219 [0, 2, 1, 4, 5, 6, 7] rfl)
          have ta221 : ((nI b27) : Int32).toInt = ((b27 : Nat) : Int) := (nI_toInt (n := b27) (Nat.lt_of_le_of_lt hb27 (by decide)))
          exact lp43 (j41 + 1 - (0) + 1) (0) (r33) (b31) ((nI b27)) (by omega) (by omega) (by omega) (by omega) ls42 (lv_sub hl42 [0, 1, 2, 3, 4, 5, 6] rfl)
        have k222 := ci_eq rfl (show ((-1) : Int32).toInt = -1 by decide +kernel) c39
        refine lv_iload S.1 S.2.1 dX8_best_77 (lv_at hl35 0 rfl) ?_
        exact hret 79 _ _ _ _ _ dX8_best_79 rfl hP22 hS22 ⟨hW22, hFr22, trivial⟩
      have k223 := ci_eq (nI_toInt (n := b16) (Nat.lt_of_le_of_lt hb16 (by decide))) z_ti c20
      refine lv_iconst (v := (-1)) S.1 S.2.1 dX8_best_34 (by decide +kernel) ?_
      exact hret 35 _ _ _ _ _ dX8_best_35 rfl hP hS ⟨hW, hFr, trivial⟩
    have k224 := ci_eq (nI_toInt (n := b11) (Nat.lt_of_le_of_lt hb11 (by decide))) z_ti c12
    refine lv_ldc (v := (-1000000003)) S.1 S.2.1 S.2.2.2.1 (S.2.2.2.2 (.constant RX8 139 (-1000000003)) (am_at in_wsX8_best_0 1 rfl)) dX8_best_20 ?_
    exact hret 22 _ _ _ _ _ dX8_best_22 rfl hP hS ⟨hW, hFr, trivial⟩
  have k225 := ci_eq (nI_toInt (n := b2) (Nat.lt_of_le_of_lt hb2 (by decide))) z_ti c6
  refine lv_ldc (v := (-1000000002)) S.1 S.2.1 S.2.2.2.1 (S.2.2.2.2 (.constant RX8 59 (-1000000002)) (am_at in_wsX8_best_0 0 rfl)) dX8_best_10 ?_
  exact hret 12 _ _ _ _ _ dX8_best_12 rfl hP hS ⟨hW, hFr, trivial⟩
set_option maxHeartbeats 4000000 in
set_option maxRecDepth 100000 in
theorem c_X8_sealsOn (l : Launch) (D : va_G) (cA ad : Nat → Nat) (t : Nat) (hI : rI ad) (F : Nat → va_E) (hW : WT cA ad F) (p1 : Int32) : MV l D cA ad t yX8_sealsOn wsX8_sealsOn { frames := 3, cells := 0, slots := 0, locals := 78 } [.ref (ad 58), .int p1] F (fun F' => WT cA ad F' ∧ rFr [69, 70] F F' ∧ (True)) := by
  refine en_V rfl (by decide +kernel) (Nat.le_of_ble_eq_true rfl) ?_
  intro p e s m args below meth c ls0 Q S hK hZ hP hS hl0 hret
  have hl0 : lv_has ls0 8 [(0, .ref (ad 58)), (1, .int p1)] := hl0
  have hFr : rFr [69, 70] F F := rFr.rf
  have hiX8 : ∀ w ∈ u_ws RX8 TX8 23, w ∈ wsX8_sealsOn := in_wsX8_sealsOn_2
  refine lv_iconst (v := (nI 0)) S.1 S.2.1 dX8_sealsOn_0 (by decide +kernel) ?_
  refine lv_istore_n (lv' := [(2, .int (nI 0)), (0, .ref (ad 58)), (1, .int p1)]) S.1 S.2.1 dX8_sealsOn_1 rfl hl0 (by decide) rfl (fun ls1 hl1 => ?_)
  have lp2 : ∀ (n2 : Nat) (q22 : Nat), ∀ (Fl2 : Nat → va_E) (Hl2 : Heap) (lol2 : List Loc), q22 ≤ 256 → 256 - q22 < n2 → WT cA ad Fl2 → rFr [69, 70] F Fl2 → va_P D vwCl (rW ad Fl2) Hl2 → va_S (rA ad) s.heap Hl2 lol2 → ∀ (ls : Array Slot), lv_has ls 8 [(2, .int (nI q22)), (0, .ref (ad 58)), (1, .int p1)] → W p l e { frames := 3, cells := 0, slots := 0, locals := 78 } s m args below meth c Hl2 lol2 0 0 Q (F0 m 2 ls []) := by
    intro n2
    induction n2 with
    | zero =>
      intro q22 Fl2 Hl2 lol2 iv2_0 hm2 hWl2 hFl2 hPl2 hSl2 ls2 hl2
      exact absurd hm2 (Nat.not_lt_zero _)
    | succ n2 ih2 =>
      intro q22 Fl2 Hl2 lol2 iv2_0 hm2 hWl2 hFl2 hPl2 hSl2 ls2 hl2
      refine lv_iload_n S.1 S.2.1 dX8_sealsOn_2 rfl (lv_at hl2 0 rfl) ?_
      refine lv_sipush (v := (nI 256)) S.1 S.2.1 dX8_sealsOn_3 (by decide +kernel) ?_
      refine lv_icmp_ge (tgt := 22) S.1 S.2.1 dX8_sealsOn_6 (by decide) (fun c3 => ?_) (fun c3 => ?_)
      · skip
        have k4 := ci_le (nI_toInt (n := 256) (by decide)) (nI_toInt (n := q22) (by omega)) c3
        refine lv_iconst (v := (nI 0)) S.1 S.2.1 dX8_sealsOn_22 (by decide +kernel) ?_
        refine lv_istore_n (lv' := [(2, .int (nI 0)), (0, .ref (ad 58)), (1, .int p1)]) S.1 S.2.1 dX8_sealsOn_23 rfl hl2 (by decide) rfl (fun ls5 hl5 => ?_)
        have lp6 : ∀ (n6 : Nat) (q26 : Nat), ∀ (Fl6 : Nat → va_E) (Hl6 : Heap) (lol6 : List Loc), q26 ≤ 256 → 256 - q26 < n6 → WT cA ad Fl6 → rFr [69, 70] F Fl6 → va_P D vwCl (rW ad Fl6) Hl6 → va_S (rA ad) s.heap Hl6 lol6 → ∀ (ls : Array Slot), lv_has ls 8 [(2, .int (nI q26)), (0, .ref (ad 58)), (1, .int p1)] → W p l e { frames := 3, cells := 0, slots := 0, locals := 78 } s m args below meth c Hl6 lol6 0 0 Q (F0 m 24 ls []) := by
          intro n6
          induction n6 with
          | zero =>
            intro q26 Fl6 Hl6 lol6 iv6_0 hm6 hWl6 hFl6 hPl6 hSl6 ls6 hl6
            exact absurd hm6 (Nat.not_lt_zero _)
          | succ n6 ih6 =>
            intro q26 Fl6 Hl6 lol6 iv6_0 hm6 hWl6 hFl6 hPl6 hSl6 ls6 hl6
            refine lv_iload_n S.1 S.2.1 dX8_sealsOn_24 rfl (lv_at hl6 0 rfl) ?_
            refine lv_sipush (v := (nI 256)) S.1 S.2.1 dX8_sealsOn_25 (by decide +kernel) ?_
            refine lv_icmp_ge (tgt := 233) S.1 S.2.1 dX8_sealsOn_28 (by decide) (fun c7 => ?_) (fun c7 => ?_)
            · skip
              have k8 := ci_le (nI_toInt (n := 256) (by decide)) (nI_toInt (n := q26) (by omega)) c7
              refine lv_iconst (v := (nI 0)) S.1 S.2.1 dX8_sealsOn_233 (by decide +kernel) ?_
              refine lv_istore_n (lv' := [(2, .int (nI 0)), (0, .ref (ad 58)), (1, .int p1)]) S.1 S.2.1 dX8_sealsOn_234 rfl hl6 (by decide) rfl (fun ls9 hl9 => ?_)
              have lp10 : ∀ (n10 : Nat) (q210 : Nat), ∀ (Fl10 : Nat → va_E) (Hl10 : Heap) (lol10 : List Loc), q210 ≤ 256 → 256 - q210 < n10 → WT cA ad Fl10 → rFr [69, 70] F Fl10 → va_P D vwCl (rW ad Fl10) Hl10 → va_S (rA ad) s.heap Hl10 lol10 → ∀ (ls : Array Slot), lv_has ls 8 [(2, .int (nI q210)), (0, .ref (ad 58)), (1, .int p1)] → W p l e { frames := 3, cells := 0, slots := 0, locals := 78 } s m args below meth c Hl10 lol10 0 0 Q (F0 m 235 ls []) := by
                intro n10
                induction n10 with
                | zero =>
                  intro q210 Fl10 Hl10 lol10 iv10_0 hm10 hWl10 hFl10 hPl10 hSl10 ls10 hl10
                  exact absurd hm10 (Nat.not_lt_zero _)
                | succ n10 ih10 =>
                  intro q210 Fl10 Hl10 lol10 iv10_0 hm10 hWl10 hFl10 hPl10 hSl10 ls10 hl10
                  refine lv_iload_n S.1 S.2.1 dX8_sealsOn_235 rfl (lv_at hl10 0 rfl) ?_
                  refine lv_sipush (v := (nI 256)) S.1 S.2.1 dX8_sealsOn_236 (by decide +kernel) ?_
                  refine lv_icmp_ge (tgt := 260) S.1 S.2.1 dX8_sealsOn_239 (by decide) (fun c11 => ?_) (fun c11 => ?_)
                  · skip
                    have k12 := ci_le (nI_toInt (n := 256) (by decide)) (nI_toInt (n := q210) (by omega)) c11
                    exact hret 260 _ _ _ _ dX8_sealsOn_260 hPl10 hSl10 ⟨hWl10, hFl10, trivial⟩
                  have k13 := ci_nle (nI_toInt (n := 256) (by decide)) (nI_toInt (n := q210) (by omega)) c11
                  refine lv_aload_n S.1 S.2.1 dX8_sealsOn_242 rfl (lv_at hl10 1 rfl) ?_
                  obtain ⟨ty14, kn14, no14, en14, at14, sa14, sd14, wr14, pl14, va14, hF14, hb14_1, hb14_2, hb14_3, hb14_4, hb14_5, hb14_6⟩ := wt_m hWl10
                  refine r_get S hK hPl10 58 (by decide) hF14 (C := RX8) (T := TX8) (N := 23) hiX8 rfl 20 (by decide) (am_at in_wsX8_sealsOn_0 1 rfl) (v := .ref (ad 69)) rfl dX8_sealsOn_243 ?_
                  refine lv_iload_n S.1 S.2.1 dX8_sealsOn_246 rfl (lv_at hl10 0 rfl) ?_
                  refine lv_aload_n S.1 S.2.1 dX8_sealsOn_247 rfl (lv_at hl10 1 rfl) ?_
                  refine r_get S hK hPl10 58 (by decide) hF14 (C := RX8) (T := TX8) (N := 23) hiX8 rfl 21 (by decide) (am_at in_wsX8_sealsOn_0 0 rfl) (v := .ref (ad 70)) rfl dX8_sealsOn_248 ?_
                  refine lv_iload_n S.1 S.2.1 dX8_sealsOn_251 rfl (lv_at hl10 0 rfl) ?_
                  obtain ⟨g15, hF15⟩ := wt_L hWl10 (show (70, 256) ∈ rLL by decide)
                  refine r_lald S hK hPl10 70 (by decide) hF15 (vp_in_nI (show q210 < 256 by omega) (by omega)) dX8_sealsOn_252 ?_
                  refine lv_topl (fun v17 e17 => ?_)
                  obtain ⟨g18, hF18⟩ := wt_L hWl10 (show (69, 256) ∈ rLL by decide)
                  refine r_last S hI hK hPl10 hSl10 69 (by decide) hF18 (vp_in_nI (show q210 < 256 by omega) (by omega)) dX8_sealsOn_253 (fun F19 H19 locs19 eF19 hP19 hS19 => ?_)
                  have hW19 := hWl10.up eF19 (ok_L (show (69, 256) ∈ rLL by decide) ⟨_, rfl⟩)
                  have hFr19 := hFl10.up eF19 (by simp <;> first | omega | (simp only [isC, isJ] at *; omega))
                  refine lv_iinc (v := (nI (q210 + 1))) (lv' := [(2, .int (nI (q210 + 1))), (0, .ref (ad 58)), (1, .int p1)]) S.1 S.2.1 dX8_sealsOn_254 hl10 (k := 0) rfl (nI_add _ 1) (by decide) rfl (fun ls20 hl20 => ?_)
                  refine lv_goto (tgt := 235) S.1 S.2.1 dX8_sealsOn_257 (by decide) ?_
                  exact ih10 (q210 + 1) F19 H19 locs19 (by omega) (by omega) hW19 hFr19 hP19 hS19 ls20 (lv_sub hl20 [0, 1, 2] rfl)
              exact lp10 (256 - (0) + 1) (0) Fl6 Hl6 lol6 (by omega) (by omega) hWl6 hFl6 hPl6 hSl6 ls9 (lv_sub hl9 [0, 1, 2] rfl)
            have k21 := ci_nle (nI_toInt (n := 256) (by decide)) (nI_toInt (n := q26) (by omega)) c7
            refine lv_aload_n S.1 S.2.1 dX8_sealsOn_31 rfl (lv_at hl6 1 rfl) ?_
            obtain ⟨ty22, kn22, no22, en22, at22, sa22, sd22, wr22, pl22, va22, hF22, hb22_1, hb22_2, hb22_3, hb22_4, hb22_5, hb22_6⟩ := wt_m hWl6
            refine r_get S hK hPl6 58 (by decide) hF22 (C := RX8) (T := TX8) (N := 23) hiX8 rfl 20 (by decide) (am_at in_wsX8_sealsOn_0 1 rfl) (v := .ref (ad 69)) rfl dX8_sealsOn_32 ?_
            refine lv_iload_n S.1 S.2.1 dX8_sealsOn_35 rfl (lv_at hl6 0 rfl) ?_
            obtain ⟨g23, hF23⟩ := wt_L hWl6 (show (69, 256) ∈ rLL by decide)
            refine r_lald S hK hPl6 69 (by decide) hF23 (vp_in_nI (show q26 < 256 by omega) (by omega)) dX8_sealsOn_36 ?_
            refine lv_topl (fun v25 e25 => ?_)
            refine lv_lconst (v := 0) S.1 S.2.1 dX8_sealsOn_37 (by decide +kernel) ?_
            refine W.lcmp S.1 S.2.1 dX8_sealsOn_38 ?_
            refine lv_topi (fun v26 e26 => ?_)
            refine lv_if_eq (tgt := 227) S.1 S.2.1 dX8_sealsOn_39 (by decide) (fun c27 => ?_) (fun c27 => ?_)
            · skip
              have k28 := ci_eq rfl z_ti c27
              refine lv_iinc (v := (nI (q26 + 1))) (lv' := [(2, .int (nI (q26 + 1))), (0, .ref (ad 58)), (1, .int p1)]) S.1 S.2.1 dX8_sealsOn_227 hl6 (k := 0) rfl (nI_add _ 1) (by decide) rfl (fun ls29 hl29 => ?_)
              refine lv_goto (tgt := 24) S.1 S.2.1 dX8_sealsOn_230 (by decide) ?_
              exact ih6 (q26 + 1) Fl6 Hl6 lol6 (by omega) (by omega) hWl6 hFl6 hPl6 hSl6 ls29 (lv_sub hl29 [0, 1, 2] rfl)
            have k30 := ci_ne rfl z_ti c27
            refine lv_iconst (v := (nI 0)) S.1 S.2.1 dX8_sealsOn_42 (by decide +kernel) ?_
            refine lv_istore_n (lv' := [(3, .int (nI 0)), (2, .int (nI q26)), (0, .ref (ad 58)), (1, .int p1)]) S.1 S.2.1 dX8_sealsOn_43 rfl hl6 (by decide) rfl (fun ls31 hl31 => ?_)
            have lp32 : ∀ (n32 : Nat) (q332 : Nat), ∀ (Fl32 : Nat → va_E) (Hl32 : Heap) (lol32 : List Loc), q332 ≤ 8 → 8 - q332 < n32 → WT cA ad Fl32 → rFr [69, 70] F Fl32 → va_P D vwCl (rW ad Fl32) Hl32 → va_S (rA ad) s.heap Hl32 lol32 → ∀ (ls : Array Slot), lv_has ls 8 [(3, .int (nI q332)), (2, .int (nI q26)), (0, .ref (ad 58)), (1, .int p1)] → W p l e { frames := 3, cells := 0, slots := 0, locals := 78 } s m args below meth c Hl32 lol32 0 0 Q (F0 m 44 ls []) := by
              intro n32
              induction n32 with
              | zero =>
                intro q332 Fl32 Hl32 lol32 iv32_0 hm32 hWl32 hFl32 hPl32 hSl32 ls32 hl32
                exact absurd hm32 (Nat.not_lt_zero _)
              | succ n32 ih32 =>
                intro q332 Fl32 Hl32 lol32 iv32_0 hm32 hWl32 hFl32 hPl32 hSl32 ls32 hl32
                refine lv_iload_n S.1 S.2.1 dX8_sealsOn_44 rfl (lv_at hl32 0 rfl) ?_
                refine lv_aload_n S.1 S.2.1 dX8_sealsOn_45 rfl (lv_at hl32 2 rfl) ?_
                obtain ⟨ty33, kn33, no33, en33, at33, sa33, sd33, wr33, pl33, va33, hF33, hb33_1, hb33_2, hb33_3, hb33_4, hb33_5, hb33_6⟩ := wt_m hWl32
                refine r_get S hK hPl32 58 (by decide) hF33 (C := RX8) (T := TX8) (N := 23) hiX8 rfl 2 (by decide) (am_at in_wsX8_sealsOn_0 2 rfl) (v := .ref (ad 60)) rfl dX8_sealsOn_46 ?_
                refine lv_iconst (v := (nI 2)) S.1 S.2.1 dX8_sealsOn_49 (by decide +kernel) ?_
                obtain ⟨g34, hF34, hg34⟩ := wt_I hWl32 (show (60, 52) ∈ rLI by decide)
                refine r_iald S hK hPl32 60 (by decide) hF34 (vp_in_nI (show 2 < 52 by omega) (by omega)) dX8_sealsOn_50 ?_
                refine lv_topi (fun v36 e36 => ?_)
                obtain ⟨b37, hb37, he37⟩ := (pr_T (by decide) (hg34 2 (by decide))).2.1 rfl
                obtain rfl : v36 = nI b37 := e36.trans he37
                refine lv_icmp_ge (tgt := 119) S.1 S.2.1 dX8_sealsOn_51 (by decide) (fun c38 => ?_) (fun c38 => ?_)
                · skip
                  have k39 := ci_le (nI_toInt (n := b37) (Nat.lt_of_le_of_lt hb37 (by decide))) (nI_toInt (n := q332) (by omega)) c38
                  refine lv_aload_n S.1 S.2.1 dX8_sealsOn_119 rfl (lv_at hl32 2 rfl) ?_
                  refine r_get S hK hPl32 58 (by decide) hF33 (C := RX8) (T := TX8) (N := 23) hiX8 rfl 20 (by decide) (am_at in_wsX8_sealsOn_0 1 rfl) (v := .ref (ad 69)) rfl dX8_sealsOn_120 ?_
                  refine lv_iload_n S.1 S.2.1 dX8_sealsOn_123 rfl (lv_at hl32 1 rfl) ?_
                  obtain ⟨g40, hF40⟩ := wt_L hWl32 (show (69, 256) ∈ rLL by decide)
                  refine r_lald S hK hPl32 69 (by decide) hF40 (vp_in_nI (show q26 < 256 by omega) (by omega)) dX8_sealsOn_124 ?_
                  refine lv_topl (fun v42 e42 => ?_)
                  refine lv_lstore_n (lv' := [(3, .long v42), (2, .int (nI q26)), (0, .ref (ad 58)), (1, .int p1)]) S.1 S.2.1 dX8_sealsOn_125 rfl hl32 (by decide) rfl (fun ls43 hl43 => ?_)
                  refine lv_iconst (v := (nI 0)) S.1 S.2.1 dX8_sealsOn_126 (by decide +kernel) ?_
                  refine lv_istore (lv' := [(5, .int (nI 0)), (3, .long v42), (2, .int (nI q26)), (0, .ref (ad 58)), (1, .int p1)]) S.1 S.2.1 dX8_sealsOn_127 hl43 (by decide) rfl (fun ls44 hl44 => ?_)
                  have lp45 : ∀ (n45 : Nat) (q545 : Nat), ∀ (Fl45 : Nat → va_E) (Hl45 : Heap) (lol45 : List Loc), q545 ≤ 8 → 8 - q545 < n45 → WT cA ad Fl45 → rFr [69, 70] F Fl45 → va_P D vwCl (rW ad Fl45) Hl45 → va_S (rA ad) s.heap Hl45 lol45 → ∀ (ls : Array Slot), lv_has ls 8 [(5, .int (nI q545)), (3, .long v42), (2, .int (nI q26)), (0, .ref (ad 58)), (1, .int p1)] → W p l e { frames := 3, cells := 0, slots := 0, locals := 78 } s m args below meth c Hl45 lol45 0 0 Q (F0 m 129 ls []) := by
                    intro n45
                    induction n45 with
                    | zero =>
                      intro q545 Fl45 Hl45 lol45 iv45_0 hm45 hWl45 hFl45 hPl45 hSl45 ls45 hl45
                      exact absurd hm45 (Nat.not_lt_zero _)
                    | succ n45 ih45 =>
                      intro q545 Fl45 Hl45 lol45 iv45_0 hm45 hWl45 hFl45 hPl45 hSl45 ls45 hl45
                      refine lv_iload S.1 S.2.1 dX8_sealsOn_129 (lv_at hl45 0 rfl) ?_
                      refine lv_aload_n S.1 S.2.1 dX8_sealsOn_131 rfl (lv_at hl45 3 rfl) ?_
                      obtain ⟨ty46, kn46, no46, en46, at46, sa46, sd46, wr46, pl46, va46, hF46, hb46_1, hb46_2, hb46_3, hb46_4, hb46_5, hb46_6⟩ := wt_m hWl45
                      refine r_get S hK hPl45 58 (by decide) hF46 (C := RX8) (T := TX8) (N := 23) hiX8 rfl 2 (by decide) (am_at in_wsX8_sealsOn_0 2 rfl) (v := .ref (ad 60)) rfl dX8_sealsOn_132 ?_
                      refine lv_iconst (v := (nI 2)) S.1 S.2.1 dX8_sealsOn_135 (by decide +kernel) ?_
                      obtain ⟨g47, hF47, hg47⟩ := wt_I hWl45 (show (60, 52) ∈ rLI by decide)
                      refine r_iald S hK hPl45 60 (by decide) hF47 (vp_in_nI (show 2 < 52 by omega) (by omega)) dX8_sealsOn_136 ?_
                      refine lv_topi (fun v49 e49 => ?_)
                      obtain ⟨b50, hb50, he50⟩ := (pr_T (by decide) (hg47 2 (by decide))).2.1 rfl
                      obtain rfl : v49 = nI b50 := e49.trans he50
                      refine lv_icmp_ge (tgt := 227) S.1 S.2.1 dX8_sealsOn_137 (by decide) (fun c51 => ?_) (fun c51 => ?_)
                      · skip
                        have k52 := ci_le (nI_toInt (n := b50) (Nat.lt_of_le_of_lt hb50 (by decide))) (nI_toInt (n := q545) (by omega)) c51
                        refine lv_iinc (v := (nI (q26 + 1))) (lv' := [(2, .int (nI (q26 + 1))), (5, .int (nI q545)), (3, .long v42), (0, .ref (ad 58)), (1, .int p1)]) S.1 S.2.1 dX8_sealsOn_227 hl45 (k := 2) rfl (nI_add _ 1) (by decide) rfl (fun ls53 hl53 => ?_)
                        refine lv_goto (tgt := 24) S.1 S.2.1 dX8_sealsOn_230 (by decide) ?_
                        exact ih6 (q26 + 1) Fl45 Hl45 lol45 (by omega) (by omega) hWl45 hFl45 hPl45 hSl45 ls53 (lv_sub hl53 [0, 3, 4] rfl)
                      have k54 := ci_nle (nI_toInt (n := b50) (Nat.lt_of_le_of_lt hb50 (by decide))) (nI_toInt (n := q545) (by omega)) c51
                      refine lv_lload_n S.1 S.2.1 dX8_sealsOn_140 rfl (lv_at hl45 1 rfl) ?_
                      refine r_cSp (As := [.long v42]) (rest := []) S hK hZ hPl45 hSl45 hl45.1 (c_X8_towns l D cA ad t hI Fl45 hWl45 v42) (va_cwS 1 S.2.2.2.2 gX8_sealsOn_X8_towns rfl rfl rfl (by decide +kernel) ⟨Nat.le_of_ble_eq_true rfl, Nat.le_of_ble_eq_true rfl⟩) rfl rfl (Nat.le_of_ble_eq_true rfl) ⟨Nat.zero_le _, Nat.zero_le _⟩ dX8_sealsOn_141 (fun r55 hr55 => ?_)
                      obtain ⟨hr55, hm55⟩ := hr55
                      refine lv_iload S.1 S.2.1 dX8_sealsOn_144 (lv_at hl45 0 rfl) ?_
                      refine lv_ishr S.1 S.2.1 dX8_sealsOn_146 ?_
                      refine lv_topi (fun v56 e56 => ?_)
                      refine lv_iconst (v := (nI 1)) S.1 S.2.1 dX8_sealsOn_147 (by decide +kernel) ?_
                      refine lv_iand S.1 S.2.1 dX8_sealsOn_148 ?_
                      refine lv_topi (fun v57 e57 => ?_)
                      refine lv_iconst (v := (nI 1)) S.1 S.2.1 dX8_sealsOn_149 (by decide +kernel) ?_
                      refine lv_icmp_ne (tgt := 168) S.1 S.2.1 dX8_sealsOn_150 (by decide) (fun c58 => ?_) (fun c58 => ?_)
                      · skip
                        have k59 := ci_ne rfl (nI_toInt (n := 1) (by decide)) c58
                        refine lv_iconst (v := (nI 0)) S.1 S.2.1 dX8_sealsOn_168 (by decide +kernel) ?_
                        refine lv_istore (lv' := [(6, .int (nI 0)), (5, .int (nI q545)), (3, .long v42), (2, .int (nI q26)), (0, .ref (ad 58)), (1, .int p1)]) S.1 S.2.1 dX8_sealsOn_169 hl45 (by decide) rfl (fun ls60 hl60 => ?_)
                        refine lv_iconst (v := (nI 0)) S.1 S.2.1 dX8_sealsOn_171 (by decide +kernel) ?_
                        refine lv_istore (lv' := [(7, .int (nI 0)), (6, .int (nI 0)), (5, .int (nI q545)), (3, .long v42), (2, .int (nI q26)), (0, .ref (ad 58)), (1, .int p1)]) S.1 S.2.1 dX8_sealsOn_172 hl60 (by decide) rfl (fun ls61 hl61 => ?_)
                        have lp62 : ∀ (n62 : Nat) (q762 : Nat), ∀ (Fl62 : Nat → va_E) (Hl62 : Heap) (lol62 : List Loc), q762 ≤ 8 → 8 - q762 < n62 → WT cA ad Fl62 → rFr [69, 70] F Fl62 → va_P D vwCl (rW ad Fl62) Hl62 → va_S (rA ad) s.heap Hl62 lol62 → ∀ (ls : Array Slot), lv_has ls 8 [(7, .int (nI q762)), (6, .int (nI 0)), (5, .int (nI q545)), (3, .long v42), (2, .int (nI q26)), (0, .ref (ad 58)), (1, .int p1)] → W p l e { frames := 3, cells := 0, slots := 0, locals := 78 } s m args below meth c Hl62 lol62 0 0 Q (F0 m 174 ls []) := by
                          intro n62
                          induction n62 with
                          | zero =>
                            intro q762 Fl62 Hl62 lol62 iv62_0 hm62 hWl62 hFl62 hPl62 hSl62 ls62 hl62
                            exact absurd hm62 (Nat.not_lt_zero _)
                          | succ n62 ih62 =>
                            intro q762 Fl62 Hl62 lol62 iv62_0 hm62 hWl62 hFl62 hPl62 hSl62 ls62 hl62
                            refine lv_iload S.1 S.2.1 dX8_sealsOn_174 (lv_at hl62 0 rfl) ?_
                            refine lv_aload_n S.1 S.2.1 dX8_sealsOn_176 rfl (lv_at hl62 5 rfl) ?_
                            obtain ⟨ty63, kn63, no63, en63, at63, sa63, sd63, wr63, pl63, va63, hF63, hb63_1, hb63_2, hb63_3, hb63_4, hb63_5, hb63_6⟩ := wt_m hWl62
                            refine r_get S hK hPl62 58 (by decide) hF63 (C := RX8) (T := TX8) (N := 23) hiX8 rfl 2 (by decide) (am_at in_wsX8_sealsOn_0 2 rfl) (v := .ref (ad 60)) rfl dX8_sealsOn_177 ?_
                            refine lv_iconst (v := (nI 2)) S.1 S.2.1 dX8_sealsOn_180 (by decide +kernel) ?_
                            obtain ⟨g64, hF64, hg64⟩ := wt_I hWl62 (show (60, 52) ∈ rLI by decide)
                            refine r_iald S hK hPl62 60 (by decide) hF64 (vp_in_nI (show 2 < 52 by omega) (by omega)) dX8_sealsOn_181 ?_
                            refine lv_topi (fun v66 e66 => ?_)
                            obtain ⟨b67, hb67, he67⟩ := (pr_T (by decide) (hg64 2 (by decide))).2.1 rfl
                            obtain rfl : v66 = nI b67 := e66.trans he67
                            refine lv_icmp_ge (tgt := 221) S.1 S.2.1 dX8_sealsOn_182 (by decide) (fun c68 => ?_) (fun c68 => ?_)
                            · skip
                              have k69 := ci_le (nI_toInt (n := b67) (Nat.lt_of_le_of_lt hb67 (by decide))) (nI_toInt (n := q762) (by omega)) c68
                              refine lv_iinc (v := (nI (q545 + 1))) (lv' := [(5, .int (nI (q545 + 1))), (7, .int (nI q762)), (6, .int (nI 0)), (3, .long v42), (2, .int (nI q26)), (0, .ref (ad 58)), (1, .int p1)]) S.1 S.2.1 dX8_sealsOn_221 hl62 (k := 2) rfl (nI_add _ 1) (by decide) rfl (fun ls70 hl70 => ?_)
                              refine lv_goto (tgt := 129) S.1 S.2.1 dX8_sealsOn_224 (by decide) ?_
                              exact ih45 (q545 + 1) Fl62 Hl62 lol62 (by omega) (by omega) hWl62 hFl62 hPl62 hSl62 ls70 (lv_sub hl70 [0, 3, 4, 5, 6] rfl)
                            have k71 := ci_nle (nI_toInt (n := b67) (Nat.lt_of_le_of_lt hb67 (by decide))) (nI_toInt (n := q762) (by omega)) c68
                            refine lv_aload_n S.1 S.2.1 dX8_sealsOn_185 rfl (lv_at hl62 5 rfl) ?_
                            refine r_get S hK hPl62 58 (by decide) hF63 (C := RX8) (T := TX8) (N := 23) hiX8 rfl 21 (by decide) (am_at in_wsX8_sealsOn_0 0 rfl) (v := .ref (ad 70)) rfl dX8_sealsOn_186 ?_
                            refine lv_iload_n S.1 S.2.1 dX8_sealsOn_189 rfl (lv_at hl62 4 rfl) ?_
                            refine lv_dup2_11 S.1 S.2.1 dX8_sealsOn_190 rfl rfl ?_
                            obtain ⟨g72, hF72⟩ := wt_L hWl62 (show (70, 256) ∈ rLL by decide)
                            refine r_lald S hK hPl62 70 (by decide) hF72 (vp_in_nI (show q26 < 256 by omega) (by omega)) dX8_sealsOn_191 ?_
                            refine lv_topl (fun v74 e74 => ?_)
                            refine lv_iload S.1 S.2.1 dX8_sealsOn_192 (lv_at hl62 1 rfl) ?_
                            refine lv_iload S.1 S.2.1 dX8_sealsOn_194 (lv_at hl62 0 rfl) ?_
                            refine lv_ishr S.1 S.2.1 dX8_sealsOn_196 ?_
                            refine lv_topi (fun v75 e75 => ?_)
                            refine lv_iconst (v := (nI 1)) S.1 S.2.1 dX8_sealsOn_197 (by decide +kernel) ?_
                            refine lv_iand S.1 S.2.1 dX8_sealsOn_198 ?_
                            refine lv_topi (fun v76 e76 => ?_)
                            refine lv_iconst (v := (nI 1)) S.1 S.2.1 dX8_sealsOn_199 (by decide +kernel) ?_
                            refine lv_icmp_ne (tgt := 212) S.1 S.2.1 dX8_sealsOn_200 (by decide) (fun c77 => ?_) (fun c77 => ?_)
                            · skip
                              have k78 := ci_ne rfl (nI_toInt (n := 1) (by decide)) c77
                              refine lv_lconst (v := 0) S.1 S.2.1 dX8_sealsOn_212 (by decide +kernel) ?_
                              refine lv_lor S.1 S.2.1 dX8_sealsOn_213 ?_
                              refine lv_topl (fun v79 e79 => ?_)
                              refine r_last S hI hK hPl62 hSl62 70 (by decide) hF72 (vp_in_nI (show q26 < 256 by omega) (by omega)) dX8_sealsOn_214 (fun F80 H80 locs80 eF80 hP80 hS80 => ?_)
                              have hW80 := hWl62.up eF80 (ok_L (show (70, 256) ∈ rLL by decide) ⟨_, rfl⟩)
                              have hFr80 := hFl62.up eF80 (by simp <;> first | omega | (simp only [isC, isJ] at *; omega))
                              refine lv_iinc (v := (nI (q762 + 1))) (lv' := [(7, .int (nI (q762 + 1))), (6, .int (nI 0)), (5, .int (nI q545)), (3, .long v42), (2, .int (nI q26)), (0, .ref (ad 58)), (1, .int p1)]) S.1 S.2.1 dX8_sealsOn_215 hl62 (k := 0) rfl (nI_add _ 1) (by decide) rfl (fun ls81 hl81 => ?_)
                              refine lv_goto (tgt := 174) S.1 S.2.1 dX8_sealsOn_218 (by decide) ?_
                              exact ih62 (q762 + 1) F80 H80 locs80 (by omega) (by omega) hW80 hFr80 hP80 hS80 ls81 (lv_sub hl81 [0, 1, 2, 3, 4, 5, 6] rfl)
                            have k82 := ci_eq rfl (nI_toInt (n := 1) (by decide)) c77
                            refine lv_iload S.1 S.2.1 dX8_sealsOn_203 (lv_at hl62 0 rfl) ?_
                            refine lv_iconst (v := (nI 0)) S.1 S.2.1 dX8_sealsOn_205 (by decide +kernel) ?_
                            refine r_cSl (As := [.int (nI q762), .int (nI 0)]) (rest := [.long v74, .int (nI q26), .ref (ad 70)]) S hK hZ hPl62 hSl62 hl62.1 (c_X8_bit l D cA ad t hI Fl62 hWl62 (nI q762) (nI 0)) (va_cwS 2 S.2.2.2.2 gX8_sealsOn_X8_bit rfl rfl rfl (by decide +kernel) ⟨Nat.le_of_ble_eq_true rfl, Nat.le_of_ble_eq_true rfl⟩) rfl rfl (Nat.le_of_ble_eq_true rfl) ⟨Nat.zero_le _, Nat.zero_le _⟩ dX8_sealsOn_206 (fun r83 hr83 => ?_)
                            obtain ⟨hr83, hm83⟩ := hr83
                            refine lv_goto (tgt := 213) S.1 S.2.1 dX8_sealsOn_209 (by decide) ?_
                            refine lv_lor S.1 S.2.1 dX8_sealsOn_213 ?_
                            refine lv_topl (fun v84 e84 => ?_)
                            refine r_last S hI hK hPl62 hSl62 70 (by decide) hF72 (vp_in_nI (show q26 < 256 by omega) (by omega)) dX8_sealsOn_214 (fun F85 H85 locs85 eF85 hP85 hS85 => ?_)
                            have hW85 := hWl62.up eF85 (ok_L (show (70, 256) ∈ rLL by decide) ⟨_, rfl⟩)
                            have hFr85 := hFl62.up eF85 (by simp <;> first | omega | (simp only [isC, isJ] at *; omega))
                            refine lv_iinc (v := (nI (q762 + 1))) (lv' := [(7, .int (nI (q762 + 1))), (6, .int (nI 0)), (5, .int (nI q545)), (3, .long v42), (2, .int (nI q26)), (0, .ref (ad 58)), (1, .int p1)]) S.1 S.2.1 dX8_sealsOn_215 hl62 (k := 0) rfl (nI_add _ 1) (by decide) rfl (fun ls86 hl86 => ?_)
                            refine lv_goto (tgt := 174) S.1 S.2.1 dX8_sealsOn_218 (by decide) ?_
                            exact ih62 (q762 + 1) F85 H85 locs85 (by omega) (by omega) hW85 hFr85 hP85 hS85 ls86 (lv_sub hl86 [0, 1, 2, 3, 4, 5, 6] rfl)
                        exact lp62 (8 - (0) + 1) (0) Fl45 Hl45 lol45 (by omega) (by omega) hWl45 hFl45 hPl45 hSl45 ls61 (lv_sub hl61 [0, 1, 2, 3, 4, 5, 6] rfl)
                      have k87 := ci_eq rfl (nI_toInt (n := 1) (by decide)) c58
                      refine lv_aload_n S.1 S.2.1 dX8_sealsOn_153 rfl (lv_at hl45 3 rfl) ?_
                      refine lv_iload S.1 S.2.1 dX8_sealsOn_154 (lv_at hl45 0 rfl) ?_
                      refine lv_aload_n S.1 S.2.1 dX8_sealsOn_156 rfl (lv_at hl45 3 rfl) ?_
                      refine r_get S hK hPl45 58 (by decide) hF46 (C := RX8) (T := TX8) (N := 23) hiX8 rfl 4 (by decide) (am_at in_wsX8_sealsOn_0 4 rfl) (v := .ref (ad 62)) rfl dX8_sealsOn_157 ?_
                      refine lv_iconst (v := (nI 5)) S.1 S.2.1 dX8_sealsOn_160 (by decide +kernel) ?_
                      obtain ⟨g88, hF88, hg88⟩ := wt_I hWl45 (show (62, 7) ∈ rLI by decide)
                      refine r_iald S hK hPl45 62 (by decide) hF88 (vp_in_nI (show 5 < 7 by omega) (by omega)) dX8_sealsOn_161 ?_
                      refine lv_topi (fun v90 e90 => ?_)
                      refine r_cVp (As := [.int (nI q545), .int v90]) (rest := []) S hK hZ hPl45 hSl45 hl45.1 58 (by decide) hF46 (C := RX8) rfl (c_X8_walks l D cA ad t hI Fl45 hWl45 (nI q545) v90) (cwV 2 S.2.2.2.2 gX8_sealsOn_X8_walks rfl rfl rfl (by decide +kernel) ⟨Nat.le_of_ble_eq_true rfl, Nat.le_of_ble_eq_true rfl⟩) rfl rfl (Nat.le_of_ble_eq_true rfl) ⟨Nat.zero_le _, Nat.zero_le _⟩ dX8_sealsOn_162 (fun r91 hr91 => ?_)
                      obtain ⟨hr91, hm91⟩ := hr91
                      refine lv_goto (tgt := 169) S.1 S.2.1 dX8_sealsOn_165 (by decide) ?_
                      refine lv_istore (lv' := [(6, .int r91), (5, .int (nI q545)), (3, .long v42), (2, .int (nI q26)), (0, .ref (ad 58)), (1, .int p1)]) S.1 S.2.1 dX8_sealsOn_169 hl45 (by decide) rfl (fun ls92 hl92 => ?_)
                      refine lv_iconst (v := (nI 0)) S.1 S.2.1 dX8_sealsOn_171 (by decide +kernel) ?_
                      refine lv_istore (lv' := [(7, .int (nI 0)), (6, .int r91), (5, .int (nI q545)), (3, .long v42), (2, .int (nI q26)), (0, .ref (ad 58)), (1, .int p1)]) S.1 S.2.1 dX8_sealsOn_172 hl92 (by decide) rfl (fun ls93 hl93 => ?_)
                      have lp94 : ∀ (n94 : Nat) (q794 : Nat), ∀ (Fl94 : Nat → va_E) (Hl94 : Heap) (lol94 : List Loc), q794 ≤ 8 → 8 - q794 < n94 → WT cA ad Fl94 → rFr [69, 70] F Fl94 → va_P D vwCl (rW ad Fl94) Hl94 → va_S (rA ad) s.heap Hl94 lol94 → ∀ (ls : Array Slot), lv_has ls 8 [(7, .int (nI q794)), (6, .int r91), (5, .int (nI q545)), (3, .long v42), (2, .int (nI q26)), (0, .ref (ad 58)), (1, .int p1)] → W p l e { frames := 3, cells := 0, slots := 0, locals := 78 } s m args below meth c Hl94 lol94 0 0 Q (F0 m 174 ls []) := by
                        intro n94
                        induction n94 with
                        | zero =>
                          intro q794 Fl94 Hl94 lol94 iv94_0 hm94 hWl94 hFl94 hPl94 hSl94 ls94 hl94
                          exact absurd hm94 (Nat.not_lt_zero _)
                        | succ n94 ih94 =>
                          intro q794 Fl94 Hl94 lol94 iv94_0 hm94 hWl94 hFl94 hPl94 hSl94 ls94 hl94
                          refine lv_iload S.1 S.2.1 dX8_sealsOn_174 (lv_at hl94 0 rfl) ?_
                          refine lv_aload_n S.1 S.2.1 dX8_sealsOn_176 rfl (lv_at hl94 5 rfl) ?_
                          obtain ⟨ty95, kn95, no95, en95, at95, sa95, sd95, wr95, pl95, va95, hF95, hb95_1, hb95_2, hb95_3, hb95_4, hb95_5, hb95_6⟩ := wt_m hWl94
                          refine r_get S hK hPl94 58 (by decide) hF95 (C := RX8) (T := TX8) (N := 23) hiX8 rfl 2 (by decide) (am_at in_wsX8_sealsOn_0 2 rfl) (v := .ref (ad 60)) rfl dX8_sealsOn_177 ?_
                          refine lv_iconst (v := (nI 2)) S.1 S.2.1 dX8_sealsOn_180 (by decide +kernel) ?_
                          obtain ⟨g96, hF96, hg96⟩ := wt_I hWl94 (show (60, 52) ∈ rLI by decide)
                          refine r_iald S hK hPl94 60 (by decide) hF96 (vp_in_nI (show 2 < 52 by omega) (by omega)) dX8_sealsOn_181 ?_
                          refine lv_topi (fun v98 e98 => ?_)
                          obtain ⟨b99, hb99, he99⟩ := (pr_T (by decide) (hg96 2 (by decide))).2.1 rfl
                          obtain rfl : v98 = nI b99 := e98.trans he99
                          refine lv_icmp_ge (tgt := 221) S.1 S.2.1 dX8_sealsOn_182 (by decide) (fun c100 => ?_) (fun c100 => ?_)
                          · skip
                            have k101 := ci_le (nI_toInt (n := b99) (Nat.lt_of_le_of_lt hb99 (by decide))) (nI_toInt (n := q794) (by omega)) c100
                            refine lv_iinc (v := (nI (q545 + 1))) (lv' := [(5, .int (nI (q545 + 1))), (7, .int (nI q794)), (6, .int r91), (3, .long v42), (2, .int (nI q26)), (0, .ref (ad 58)), (1, .int p1)]) S.1 S.2.1 dX8_sealsOn_221 hl94 (k := 2) rfl (nI_add _ 1) (by decide) rfl (fun ls102 hl102 => ?_)
                            refine lv_goto (tgt := 129) S.1 S.2.1 dX8_sealsOn_224 (by decide) ?_
                            exact ih45 (q545 + 1) Fl94 Hl94 lol94 (by omega) (by omega) hWl94 hFl94 hPl94 hSl94 ls102 (lv_sub hl102 [0, 3, 4, 5, 6] rfl)
                          have k103 := ci_nle (nI_toInt (n := b99) (Nat.lt_of_le_of_lt hb99 (by decide))) (nI_toInt (n := q794) (by omega)) c100
                          refine lv_aload_n S.1 S.2.1 dX8_sealsOn_185 rfl (lv_at hl94 5 rfl) ?_
                          refine r_get S hK hPl94 58 (by decide) hF95 (C := RX8) (T := TX8) (N := 23) hiX8 rfl 21 (by decide) (am_at in_wsX8_sealsOn_0 0 rfl) (v := .ref (ad 70)) rfl dX8_sealsOn_186 ?_
                          refine lv_iload_n S.1 S.2.1 dX8_sealsOn_189 rfl (lv_at hl94 4 rfl) ?_
                          refine lv_dup2_11 S.1 S.2.1 dX8_sealsOn_190 rfl rfl ?_
                          obtain ⟨g104, hF104⟩ := wt_L hWl94 (show (70, 256) ∈ rLL by decide)
                          refine r_lald S hK hPl94 70 (by decide) hF104 (vp_in_nI (show q26 < 256 by omega) (by omega)) dX8_sealsOn_191 ?_
                          refine lv_topl (fun v106 e106 => ?_)
                          refine lv_iload S.1 S.2.1 dX8_sealsOn_192 (lv_at hl94 1 rfl) ?_
                          refine lv_iload S.1 S.2.1 dX8_sealsOn_194 (lv_at hl94 0 rfl) ?_
                          refine lv_ishr S.1 S.2.1 dX8_sealsOn_196 ?_
                          refine lv_topi (fun v107 e107 => ?_)
                          refine lv_iconst (v := (nI 1)) S.1 S.2.1 dX8_sealsOn_197 (by decide +kernel) ?_
                          refine lv_iand S.1 S.2.1 dX8_sealsOn_198 ?_
                          refine lv_topi (fun v108 e108 => ?_)
                          refine lv_iconst (v := (nI 1)) S.1 S.2.1 dX8_sealsOn_199 (by decide +kernel) ?_
                          refine lv_icmp_ne (tgt := 212) S.1 S.2.1 dX8_sealsOn_200 (by decide) (fun c109 => ?_) (fun c109 => ?_)
                          · skip
                            have k110 := ci_ne rfl (nI_toInt (n := 1) (by decide)) c109
                            refine lv_lconst (v := 0) S.1 S.2.1 dX8_sealsOn_212 (by decide +kernel) ?_
                            refine lv_lor S.1 S.2.1 dX8_sealsOn_213 ?_
                            refine lv_topl (fun v111 e111 => ?_)
                            refine r_last S hI hK hPl94 hSl94 70 (by decide) hF104 (vp_in_nI (show q26 < 256 by omega) (by omega)) dX8_sealsOn_214 (fun F112 H112 locs112 eF112 hP112 hS112 => ?_)
                            have hW112 := hWl94.up eF112 (ok_L (show (70, 256) ∈ rLL by decide) ⟨_, rfl⟩)
                            have hFr112 := hFl94.up eF112 (by simp <;> first | omega | (simp only [isC, isJ] at *; omega))
                            refine lv_iinc (v := (nI (q794 + 1))) (lv' := [(7, .int (nI (q794 + 1))), (6, .int r91), (5, .int (nI q545)), (3, .long v42), (2, .int (nI q26)), (0, .ref (ad 58)), (1, .int p1)]) S.1 S.2.1 dX8_sealsOn_215 hl94 (k := 0) rfl (nI_add _ 1) (by decide) rfl (fun ls113 hl113 => ?_)
                            refine lv_goto (tgt := 174) S.1 S.2.1 dX8_sealsOn_218 (by decide) ?_
                            exact ih94 (q794 + 1) F112 H112 locs112 (by omega) (by omega) hW112 hFr112 hP112 hS112 ls113 (lv_sub hl113 [0, 1, 2, 3, 4, 5, 6] rfl)
                          have k114 := ci_eq rfl (nI_toInt (n := 1) (by decide)) c109
                          refine lv_iload S.1 S.2.1 dX8_sealsOn_203 (lv_at hl94 0 rfl) ?_
                          refine lv_iconst (v := (nI 0)) S.1 S.2.1 dX8_sealsOn_205 (by decide +kernel) ?_
                          refine r_cSl (As := [.int (nI q794), .int (nI 0)]) (rest := [.long v106, .int (nI q26), .ref (ad 70)]) S hK hZ hPl94 hSl94 hl94.1 (c_X8_bit l D cA ad t hI Fl94 hWl94 (nI q794) (nI 0)) (va_cwS 2 S.2.2.2.2 gX8_sealsOn_X8_bit rfl rfl rfl (by decide +kernel) ⟨Nat.le_of_ble_eq_true rfl, Nat.le_of_ble_eq_true rfl⟩) rfl rfl (Nat.le_of_ble_eq_true rfl) ⟨Nat.zero_le _, Nat.zero_le _⟩ dX8_sealsOn_206 (fun r115 hr115 => ?_)
                          obtain ⟨hr115, hm115⟩ := hr115
                          refine lv_goto (tgt := 213) S.1 S.2.1 dX8_sealsOn_209 (by decide) ?_
                          refine lv_lor S.1 S.2.1 dX8_sealsOn_213 ?_
                          refine lv_topl (fun v116 e116 => ?_)
                          refine r_last S hI hK hPl94 hSl94 70 (by decide) hF104 (vp_in_nI (show q26 < 256 by omega) (by omega)) dX8_sealsOn_214 (fun F117 H117 locs117 eF117 hP117 hS117 => ?_)
                          have hW117 := hWl94.up eF117 (ok_L (show (70, 256) ∈ rLL by decide) ⟨_, rfl⟩)
                          have hFr117 := hFl94.up eF117 (by simp <;> first | omega | (simp only [isC, isJ] at *; omega))
                          refine lv_iinc (v := (nI (q794 + 1))) (lv' := [(7, .int (nI (q794 + 1))), (6, .int r91), (5, .int (nI q545)), (3, .long v42), (2, .int (nI q26)), (0, .ref (ad 58)), (1, .int p1)]) S.1 S.2.1 dX8_sealsOn_215 hl94 (k := 0) rfl (nI_add _ 1) (by decide) rfl (fun ls118 hl118 => ?_)
                          refine lv_goto (tgt := 174) S.1 S.2.1 dX8_sealsOn_218 (by decide) ?_
                          exact ih94 (q794 + 1) F117 H117 locs117 (by omega) (by omega) hW117 hFr117 hP117 hS117 ls118 (lv_sub hl118 [0, 1, 2, 3, 4, 5, 6] rfl)
                      exact lp94 (8 - (0) + 1) (0) Fl45 Hl45 lol45 (by omega) (by omega) hWl45 hFl45 hPl45 hSl45 ls93 (lv_sub hl93 [0, 1, 2, 3, 4, 5, 6] rfl)
                  exact lp45 (8 - (0) + 1) (0) Fl32 Hl32 lol32 (by omega) (by omega) hWl32 hFl32 hPl32 hSl32 ls44 (lv_sub hl44 [0, 1, 2, 3, 4] rfl)
                have k119 := ci_nle (nI_toInt (n := b37) (Nat.lt_of_le_of_lt hb37 (by decide))) (nI_toInt (n := q332) (by omega)) c38
                refine lv_aload_n S.1 S.2.1 dX8_sealsOn_54 rfl (lv_at hl32 2 rfl) ?_
                refine r_get S hK hPl32 58 (by decide) hF33 (C := RX8) (T := TX8) (N := 23) hiX8 rfl 20 (by decide) (am_at in_wsX8_sealsOn_0 1 rfl) (v := .ref (ad 69)) rfl dX8_sealsOn_55 ?_
                refine lv_iload_n S.1 S.2.1 dX8_sealsOn_58 rfl (lv_at hl32 1 rfl) ?_
                obtain ⟨g120, hF120⟩ := wt_L hWl32 (show (69, 256) ∈ rLL by decide)
                refine r_lald S hK hPl32 69 (by decide) hF120 (vp_in_nI (show q26 < 256 by omega) (by omega)) dX8_sealsOn_59 ?_
                refine lv_topl (fun v122 e122 => ?_)
                refine lv_ldc2 (v := 31) S.1 S.2.1 S.2.2.2.1 (S.2.2.2.2 (.constantLong RX8 182 (31)) (am_at in_wsX8_sealsOn_0 3 rfl)) dX8_sealsOn_60 ?_
                refine lv_iconst (v := (nI 5)) S.1 S.2.1 dX8_sealsOn_63 (by decide +kernel) ?_
                refine lv_iload_n S.1 S.2.1 dX8_sealsOn_64 rfl (lv_at hl32 0 rfl) ?_
                refine lv_imul S.1 S.2.1 dX8_sealsOn_65 ?_
                refine lv_topi (fun v123 e123 => ?_)
                obtain rfl : v123 = nI (5 * q332) := e123.trans (pk_mul _ _)
                refine lv_lshl S.1 S.2.1 dX8_sealsOn_66 rfl ?_
                refine lv_topl (fun v124 e124 => ?_)
                refine lv_land S.1 S.2.1 dX8_sealsOn_67 ?_
                refine lv_topl (fun v125 e125 => ?_)
                refine lv_lstore (lv' := [(4, .long v125), (3, .int (nI q332)), (2, .int (nI q26)), (0, .ref (ad 58)), (1, .int p1)]) S.1 S.2.1 dX8_sealsOn_68 hl32 (by decide) rfl (fun ls126 hl126 => ?_)
                refine lv_aload_n S.1 S.2.1 dX8_sealsOn_70 rfl (lv_at hl126 3 rfl) ?_
                refine lv_iload_n S.1 S.2.1 dX8_sealsOn_71 rfl (lv_at hl126 1 rfl) ?_
                refine lv_iload_n S.1 S.2.1 dX8_sealsOn_72 rfl (lv_at hl126 4 rfl) ?_
                have ta128 : ((nI q332) : Int32).toInt = ((q332 : Nat) : Int) := (nI_toInt (n := q332) (by omega))
                refine r_cVp (As := [.int (nI q332), .int p1]) (rest := []) S hK hZ hPl32 hSl32 hl126.1 58 (by decide) hF33 (C := RX8) rfl (c_X8_hasWork l D cA ad t hI Fl32 hWl32 (nI q332) p1 (by omega)) (cwV 2 S.2.2.2.2 gX8_sealsOn_X8_hasWork rfl rfl rfl (by decide +kernel) ⟨Nat.le_of_ble_eq_true rfl, Nat.le_of_ble_eq_true rfl⟩) rfl rfl (Nat.le_of_ble_eq_true rfl) ⟨Nat.zero_le _, Nat.zero_le _⟩ dX8_sealsOn_73 (fun r127 hr127 => ?_)
                obtain ⟨hr127, hm127⟩ := hr127
                obtain ⟨b129, hb129, rfl⟩ := hr127
                refine lv_if_eq (tgt := 85) S.1 S.2.1 dX8_sealsOn_76 (by decide) (fun c130 => ?_) (fun c130 => ?_)
                · skip
                  have k131 := ci_eq (nI_toInt (n := b129) (Nat.lt_of_le_of_lt hb129 (by decide))) z_ti c130
                  refine lv_iconst (v := (nI 0)) S.1 S.2.1 dX8_sealsOn_85 (by decide +kernel) ?_
                  refine lv_istore (lv' := [(6, .int (nI 0)), (4, .long v125), (3, .int (nI q332)), (2, .int (nI q26)), (0, .ref (ad 58)), (1, .int p1)]) S.1 S.2.1 dX8_sealsOn_86 hl126 (by decide) rfl (fun ls132 hl132 => ?_)
                  refine lv_aload_n S.1 S.2.1 dX8_sealsOn_88 rfl (lv_at hl132 4 rfl) ?_
                  refine r_get S hK hPl32 58 (by decide) hF33 (C := RX8) (T := TX8) (N := 23) hiX8 rfl 21 (by decide) (am_at in_wsX8_sealsOn_0 0 rfl) (v := .ref (ad 70)) rfl dX8_sealsOn_89 ?_
                  refine lv_iload_n S.1 S.2.1 dX8_sealsOn_92 rfl (lv_at hl132 3 rfl) ?_
                  refine lv_iload S.1 S.2.1 dX8_sealsOn_93 (lv_at hl132 0 rfl) ?_
                  refine lv_ior S.1 S.2.1 dX8_sealsOn_95 ?_
                  refine lv_topi (fun v133 e133 => ?_)
                  obtain rfl : v133 = nI q26 := e133.trans or_z
                  refine lv_dup2_11 S.1 S.2.1 dX8_sealsOn_96 rfl rfl ?_
                  obtain ⟨g135, hF135⟩ := wt_L hWl32 (show (70, 256) ∈ rLL by decide)
                  refine r_lald S hK hPl32 70 (by decide) hF135 (vp_in_nI (show q26 < 256 by omega) (by omega)) dX8_sealsOn_97 ?_
                  refine lv_topl (fun v137 e137 => ?_)
                  refine lv_aload_n S.1 S.2.1 dX8_sealsOn_98 rfl (lv_at hl132 4 rfl) ?_
                  refine lv_lload S.1 S.2.1 dX8_sealsOn_99 (lv_at hl132 1 rfl) ?_
                  refine lv_aload_n S.1 S.2.1 dX8_sealsOn_101 rfl (lv_at hl132 4 rfl) ?_
                  refine r_get S hK hPl32 58 (by decide) hF33 (C := RX8) (T := TX8) (N := 23) hiX8 rfl 4 (by decide) (am_at in_wsX8_sealsOn_0 4 rfl) (v := .ref (ad 62)) rfl dX8_sealsOn_102 ?_
                  refine lv_iconst (v := (nI 5)) S.1 S.2.1 dX8_sealsOn_105 (by decide +kernel) ?_
                  obtain ⟨g138, hF138, hg138⟩ := wt_I hWl32 (show (62, 7) ∈ rLI by decide)
                  refine r_iald S hK hPl32 62 (by decide) hF138 (vp_in_nI (show 5 < 7 by omega) (by omega)) dX8_sealsOn_106 ?_
                  refine lv_topi (fun v140 e140 => ?_)
                  refine lv_iload_n S.1 S.2.1 dX8_sealsOn_107 rfl (lv_at hl132 2 rfl) ?_
                  refine r_cVl (As := [.long v125, .int v140, .int (nI q332)]) (rest := [.long v137, .int (nI q26), .ref (ad 70)]) S hK hZ hPl32 hSl32 hl132.1 58 (by decide) hF33 (C := RX8) rfl (c_X8_goes l D cA ad t hI Fl32 hWl32 v125 v140 (nI q332)) (cwV 3 S.2.2.2.2 gX8_sealsOn_X8_goes rfl rfl rfl (by decide +kernel) ⟨Nat.le_of_ble_eq_true rfl, Nat.le_of_ble_eq_true rfl⟩) rfl rfl (Nat.le_of_ble_eq_true rfl) ⟨Nat.zero_le _, Nat.zero_le _⟩ dX8_sealsOn_108 (fun r141 hr141 => ?_)
                  obtain ⟨hr141, hm141⟩ := hr141
                  refine lv_lor S.1 S.2.1 dX8_sealsOn_111 ?_
                  refine lv_topl (fun v142 e142 => ?_)
                  refine r_last S hI hK hPl32 hSl32 70 (by decide) hF135 (vp_in_nI (show q26 < 256 by omega) (by omega)) dX8_sealsOn_112 (fun F143 H143 locs143 eF143 hP143 hS143 => ?_)
                  have hW143 := hWl32.up eF143 (ok_L (show (70, 256) ∈ rLL by decide) ⟨_, rfl⟩)
                  have hFr143 := hFl32.up eF143 (by simp <;> first | omega | (simp only [isC, isJ] at *; omega))
                  refine lv_iinc (v := (nI (q332 + 1))) (lv' := [(3, .int (nI (q332 + 1))), (6, .int (nI 0)), (4, .long v125), (2, .int (nI q26)), (0, .ref (ad 58)), (1, .int p1)]) S.1 S.2.1 dX8_sealsOn_113 hl132 (k := 2) rfl (nI_add _ 1) (by decide) rfl (fun ls144 hl144 => ?_)
                  refine lv_goto (tgt := 44) S.1 S.2.1 dX8_sealsOn_116 (by decide) ?_
                  exact ih32 (q332 + 1) F143 H143 locs143 (by omega) (by omega) hW143 hFr143 hP143 hS143 ls144 (lv_sub hl144 [0, 3, 4, 5] rfl)
                have k145 := ci_ne (nI_toInt (n := b129) (Nat.lt_of_le_of_lt hb129 (by decide))) z_ti c130
                refine lv_iconst (v := (nI 1)) S.1 S.2.1 dX8_sealsOn_79 (by decide +kernel) ?_
                refine lv_iload_n S.1 S.2.1 dX8_sealsOn_80 rfl (lv_at hl126 1 rfl) ?_
                refine lv_ishl S.1 S.2.1 dX8_sealsOn_81 ?_
                refine lv_topi (fun v146 e146 => ?_)
                refine lv_goto (tgt := 86) S.1 S.2.1 dX8_sealsOn_82 (by decide) ?_
                refine lv_istore (lv' := [(6, .int v146), (4, .long v125), (3, .int (nI q332)), (2, .int (nI q26)), (0, .ref (ad 58)), (1, .int p1)]) S.1 S.2.1 dX8_sealsOn_86 hl126 (by decide) rfl (fun ls147 hl147 => ?_)
                refine lv_aload_n S.1 S.2.1 dX8_sealsOn_88 rfl (lv_at hl147 4 rfl) ?_
                refine r_get S hK hPl32 58 (by decide) hF33 (C := RX8) (T := TX8) (N := 23) hiX8 rfl 21 (by decide) (am_at in_wsX8_sealsOn_0 0 rfl) (v := .ref (ad 70)) rfl dX8_sealsOn_89 ?_
                refine lv_iload_n S.1 S.2.1 dX8_sealsOn_92 rfl (lv_at hl147 3 rfl) ?_
                refine lv_iload S.1 S.2.1 dX8_sealsOn_93 (lv_at hl147 0 rfl) ?_
                refine lv_ior S.1 S.2.1 dX8_sealsOn_95 ?_
                refine lv_topi (fun v148 e148 => ?_)
                obtain ⟨w149, hw149, ew149⟩ := or_t (w := q26) (k := q332) (by omega) (by omega)
                obtain rfl : v148 = nI w149 := by rw [e148, e146]; exact ew149
                refine lv_dup2_11 S.1 S.2.1 dX8_sealsOn_96 rfl rfl ?_
                obtain ⟨g150, hF150⟩ := wt_L hWl32 (show (70, 256) ∈ rLL by decide)
                refine r_lald S hK hPl32 70 (by decide) hF150 (vp_in_nI (show w149 < 256 by omega) (by omega)) dX8_sealsOn_97 ?_
                refine lv_topl (fun v152 e152 => ?_)
                refine lv_aload_n S.1 S.2.1 dX8_sealsOn_98 rfl (lv_at hl147 4 rfl) ?_
                refine lv_lload S.1 S.2.1 dX8_sealsOn_99 (lv_at hl147 1 rfl) ?_
                refine lv_aload_n S.1 S.2.1 dX8_sealsOn_101 rfl (lv_at hl147 4 rfl) ?_
                refine r_get S hK hPl32 58 (by decide) hF33 (C := RX8) (T := TX8) (N := 23) hiX8 rfl 4 (by decide) (am_at in_wsX8_sealsOn_0 4 rfl) (v := .ref (ad 62)) rfl dX8_sealsOn_102 ?_
                refine lv_iconst (v := (nI 5)) S.1 S.2.1 dX8_sealsOn_105 (by decide +kernel) ?_
                obtain ⟨g153, hF153, hg153⟩ := wt_I hWl32 (show (62, 7) ∈ rLI by decide)
                refine r_iald S hK hPl32 62 (by decide) hF153 (vp_in_nI (show 5 < 7 by omega) (by omega)) dX8_sealsOn_106 ?_
                refine lv_topi (fun v155 e155 => ?_)
                refine lv_iload_n S.1 S.2.1 dX8_sealsOn_107 rfl (lv_at hl147 2 rfl) ?_
                refine r_cVl (As := [.long v125, .int v155, .int (nI q332)]) (rest := [.long v152, .int (nI w149), .ref (ad 70)]) S hK hZ hPl32 hSl32 hl147.1 58 (by decide) hF33 (C := RX8) rfl (c_X8_goes l D cA ad t hI Fl32 hWl32 v125 v155 (nI q332)) (cwV 3 S.2.2.2.2 gX8_sealsOn_X8_goes rfl rfl rfl (by decide +kernel) ⟨Nat.le_of_ble_eq_true rfl, Nat.le_of_ble_eq_true rfl⟩) rfl rfl (Nat.le_of_ble_eq_true rfl) ⟨Nat.zero_le _, Nat.zero_le _⟩ dX8_sealsOn_108 (fun r156 hr156 => ?_)
                obtain ⟨hr156, hm156⟩ := hr156
                refine lv_lor S.1 S.2.1 dX8_sealsOn_111 ?_
                refine lv_topl (fun v157 e157 => ?_)
                refine r_last S hI hK hPl32 hSl32 70 (by decide) hF150 (vp_in_nI (show w149 < 256 by omega) (by omega)) dX8_sealsOn_112 (fun F158 H158 locs158 eF158 hP158 hS158 => ?_)
                have hW158 := hWl32.up eF158 (ok_L (show (70, 256) ∈ rLL by decide) ⟨_, rfl⟩)
                have hFr158 := hFl32.up eF158 (by simp <;> first | omega | (simp only [isC, isJ] at *; omega))
                refine lv_iinc (v := (nI (q332 + 1))) (lv' := [(3, .int (nI (q332 + 1))), (6, .int v146), (4, .long v125), (2, .int (nI q26)), (0, .ref (ad 58)), (1, .int p1)]) S.1 S.2.1 dX8_sealsOn_113 hl147 (k := 2) rfl (nI_add _ 1) (by decide) rfl (fun ls159 hl159 => ?_)
                refine lv_goto (tgt := 44) S.1 S.2.1 dX8_sealsOn_116 (by decide) ?_
                exact ih32 (q332 + 1) F158 H158 locs158 (by omega) (by omega) hW158 hFr158 hP158 hS158 ls159 (lv_sub hl159 [0, 3, 4, 5] rfl)
            exact lp32 (8 - (0) + 1) (0) Fl6 Hl6 lol6 (by omega) (by omega) hWl6 hFl6 hPl6 hSl6 ls31 (lv_sub hl31 [0, 1, 2, 3] rfl)
        exact lp6 (256 - (0) + 1) (0) Fl2 Hl2 lol2 (by omega) (by omega) hWl2 hFl2 hPl2 hSl2 ls5 (lv_sub hl5 [0, 1, 2] rfl)
      have k160 := ci_nle (nI_toInt (n := 256) (by decide)) (nI_toInt (n := q22) (by omega)) c3
      refine lv_aload_n S.1 S.2.1 dX8_sealsOn_9 rfl (lv_at hl2 1 rfl) ?_
      obtain ⟨ty161, kn161, no161, en161, at161, sa161, sd161, wr161, pl161, va161, hF161, hb161_1, hb161_2, hb161_3, hb161_4, hb161_5, hb161_6⟩ := wt_m hWl2
      refine r_get S hK hPl2 58 (by decide) hF161 (C := RX8) (T := TX8) (N := 23) hiX8 rfl 21 (by decide) (am_at in_wsX8_sealsOn_0 0 rfl) (v := .ref (ad 70)) rfl dX8_sealsOn_10 ?_
      refine lv_iload_n S.1 S.2.1 dX8_sealsOn_13 rfl (lv_at hl2 0 rfl) ?_
      refine lv_lconst (v := 0) S.1 S.2.1 dX8_sealsOn_14 (by decide +kernel) ?_
      obtain ⟨g162, hF162⟩ := wt_L hWl2 (show (70, 256) ∈ rLL by decide)
      refine r_last S hI hK hPl2 hSl2 70 (by decide) hF162 (vp_in_nI (show q22 < 256 by omega) (by omega)) dX8_sealsOn_15 (fun F163 H163 locs163 eF163 hP163 hS163 => ?_)
      have hW163 := hWl2.up eF163 (ok_L (show (70, 256) ∈ rLL by decide) ⟨_, rfl⟩)
      have hFr163 := hFl2.up eF163 (by simp <;> first | omega | (simp only [isC, isJ] at *; omega))
      refine lv_iinc (v := (nI (q22 + 1))) (lv' := [(2, .int (nI (q22 + 1))), (0, .ref (ad 58)), (1, .int p1)]) S.1 S.2.1 dX8_sealsOn_16 hl2 (k := 0) rfl (nI_add _ 1) (by decide) rfl (fun ls164 hl164 => ?_)
      refine lv_goto (tgt := 2) S.1 S.2.1 dX8_sealsOn_19 (by decide) ?_
      exact ih2 (q22 + 1) F163 H163 locs163 (by omega) (by omega) hW163 hFr163 hP163 hS163 ls164 (lv_sub hl164 [0, 1, 2] rfl)
  exact lp2 (256 - (0) + 1) (0) F s.heap [] (by omega) (by omega) hW hFr hP hS ls1 (lv_sub hl1 [0, 1, 2] rfl)
set_option maxHeartbeats 4000000 in
set_option maxRecDepth 100000 in
theorem c_X8_seals (l : Launch) (D : va_G) (cA ad : Nat → Nat) (t : Nat) (hI : rI ad) (F : Nat → va_E) (hW : WT cA ad F) (p1 : Int32) : MI l D cA ad t yX8_seals wsX8_seals { frames := 4, cells := 0, slots := 0, locals := 105 } [.ref (ad 58), .int p1] F (fun r F' => WT cA ad F' ∧ rFr [69, 70] F F' ∧ (True)) := by
  refine en_I rfl (by decide +kernel) (Nat.le_of_ble_eq_true rfl) ?_
  intro p e s m args below meth c ls0 Q S hK hZ hP hS hl0 hret
  have hl0 : lv_has ls0 4 [(0, .ref (ad 58)), (1, .int p1)] := hl0
  have hFr : rFr [69, 70] F F := rFr.rf
  have hiX8 : ∀ w ∈ u_ws RX8 TX8 23, w ∈ wsX8_seals := in_wsX8_seals_2
  refine lv_iload_n S.1 S.2.1 dX8_seals_0 rfl (lv_at hl0 1 rfl) ?_
  refine lv_iconst (v := (nI 0)) S.1 S.2.1 dX8_seals_1 (by decide +kernel) ?_
  refine lv_iconst (v := (nI 1)) S.1 S.2.1 dX8_seals_2 (by decide +kernel) ?_
  refine lv_aload_n S.1 S.2.1 dX8_seals_3 rfl (lv_at hl0 0 rfl) ?_
  obtain ⟨ty1, kn1, no1, en1, at1, sa1, sd1, wr1, pl1, va1, hF1, hb1_1, hb1_2, hb1_3, hb1_4, hb1_5, hb1_6⟩ := wt_m hW
  refine r_get S hK hP 58 (by decide) hF1 (C := RX8) (T := TX8) (N := 23) hiX8 rfl 2 (by decide) (am_at in_wsX8_seals_0 0 rfl) (v := .ref (ad 60)) rfl dX8_seals_4 ?_
  refine lv_iconst (v := (nI 2)) S.1 S.2.1 dX8_seals_7 (by decide +kernel) ?_
  obtain ⟨g2, hF2, hg2⟩ := wt_I hW (show (60, 52) ∈ rLI by decide)
  refine r_iald S hK hP 60 (by decide) hF2 (vp_in_nI (show 2 < 52 by omega) (by omega)) dX8_seals_8 ?_
  refine lv_topi (fun v4 e4 => ?_)
  obtain ⟨b5, hb5, he5⟩ := (pr_T (by decide) (hg2 2 (by decide))).2.1 rfl
  obtain rfl : v4 = nI b5 := e4.trans he5
  refine lv_ishl S.1 S.2.1 dX8_seals_9 ?_
  refine lv_topi (fun v6 e6 => ?_)
  refine lv_iconst (v := (nI 1)) S.1 S.2.1 dX8_seals_10 (by decide +kernel) ?_
  refine lv_isub S.1 S.2.1 dX8_seals_11 ?_
  refine lv_topi (fun v7 e7 => ?_)
  refine r_cSp (As := [.int p1, .int (nI 0), .int v7]) (rest := []) S hK hZ hP hS hl0.1 (c_X8_in l D cA ad t hI F hW p1 (nI 0) v7) (va_cwS 3 S.2.2.2.2 gX8_seals_X8_in rfl rfl rfl (by decide +kernel) ⟨Nat.le_of_ble_eq_true rfl, Nat.le_of_ble_eq_true rfl⟩) rfl rfl (Nat.le_of_ble_eq_true rfl) ⟨Nat.zero_le _, Nat.zero_le _⟩ dX8_seals_12 (fun r8 hr8 => ?_)
  obtain ⟨hr8, hm8⟩ := hr8
  obtain ⟨⟨b9, hb9, rfl⟩, hx9, hz9⟩ := hr8
  have ta10 : (p1 : Int32).toInt = p1.toInt := rfl
  have ta11 : ((nI 0) : Int32).toInt = ((0 : Nat) : Int) := (nI_toInt (n := 0) (by decide))
  have ta12 : (v7 : Int32).toInt = v7.toInt := rfl
  have hy9 : b9 ≠ 0 → ((0 : Nat) : Int) ≤ p1.toInt ∧ p1.toInt ≤ v7.toInt := fun q => by have h9 := hx9 (nI_ne0 (by omega) (by omega)); omega
  have hu9 : b9 = 0 → p1.toInt < ((0 : Nat) : Int) ∨ v7.toInt < p1.toInt := fun q => by have h9 := hz9 (by rw [q]; rfl); omega
  refine lv_if_ne (tgt := 21) S.1 S.2.1 dX8_seals_15 (by decide) (fun c13 => ?_) (fun c13 => ?_)
  · skip
    have k14 := ci_ne (nI_toInt (n := b9) (Nat.lt_of_le_of_lt hb9 (by decide))) z_ti c13
    refine lv_aload_n S.1 S.2.1 dX8_seals_21 rfl (lv_at hl0 0 rfl) ?_
    refine r_cVp (As := []) (rest := []) S hK hZ hP hS hl0.1 58 (by decide) hF1 (C := RX8) rfl (c_X8_goesOn l D cA ad t hI F hW ) (cwV 0 S.2.2.2.2 gX8_seals_X8_goesOn rfl rfl rfl (by decide +kernel) ⟨Nat.le_of_ble_eq_true rfl, Nat.le_of_ble_eq_true rfl⟩) rfl rfl (Nat.le_of_ble_eq_true rfl) ⟨Nat.zero_le _, Nat.zero_le _⟩ dX8_seals_22 (fun r15 hr15 => ?_)
    obtain ⟨hr15, hm15⟩ := hr15
    obtain ⟨b16, hb16, rfl⟩ := hr15
    refine lv_if_ne (tgt := 31) S.1 S.2.1 dX8_seals_25 (by decide) (fun c17 => ?_) (fun c17 => ?_)
    · skip
      have k18 := ci_ne (nI_toInt (n := b16) (Nat.lt_of_le_of_lt hb16 (by decide))) z_ti c17
      refine lv_iconst (v := (nI 0)) S.1 S.2.1 dX8_seals_31 (by decide +kernel) ?_
      refine lv_istore_n (lv' := [(2, .int (nI 0)), (0, .ref (ad 58)), (1, .int p1)]) S.1 S.2.1 dX8_seals_32 rfl hl0 (by decide) rfl (fun ls19 hl19 => ?_)
      have lp20 : ∀ (n20 : Nat) (q220 : Nat), ∀ (Fl20 : Nat → va_E) (Hl20 : Heap) (lol20 : List Loc), q220 ≤ 256 → 256 - q220 < n20 → WT cA ad Fl20 → rFr [69, 70] F Fl20 → va_P D vwCl (rW ad Fl20) Hl20 → va_S (rA ad) s.heap Hl20 lol20 → ∀ (ls : Array Slot), lv_has ls 4 [(2, .int (nI q220)), (0, .ref (ad 58)), (1, .int p1)] → W p l e { frames := 4, cells := 0, slots := 0, locals := 105 } s m args below meth c Hl20 lol20 0 0 Q (F0 m 33 ls []) := by
        intro n20
        induction n20 with
        | zero =>
          intro q220 Fl20 Hl20 lol20 iv20_0 hm20 hWl20 hFl20 hPl20 hSl20 ls20 hl20
          exact absurd hm20 (Nat.not_lt_zero _)
        | succ n20 ih20 =>
          intro q220 Fl20 Hl20 lol20 iv20_0 hm20 hWl20 hFl20 hPl20 hSl20 ls20 hl20
          refine lv_iload_n S.1 S.2.1 dX8_seals_33 rfl (lv_at hl20 0 rfl) ?_
          refine lv_sipush (v := (nI 256)) S.1 S.2.1 dX8_seals_34 (by decide +kernel) ?_
          refine lv_icmp_ge (tgt := 53) S.1 S.2.1 dX8_seals_37 (by decide) (fun c21 => ?_) (fun c21 => ?_)
          · skip
            have k22 := ci_le (nI_toInt (n := 256) (by decide)) (nI_toInt (n := q220) (by omega)) c21
            refine lv_aload_n S.1 S.2.1 dX8_seals_53 rfl (lv_at hl20 1 rfl) ?_
            obtain ⟨ty23, kn23, no23, en23, at23, sa23, sd23, wr23, pl23, va23, hF23, hb23_1, hb23_2, hb23_3, hb23_4, hb23_5, hb23_6⟩ := wt_m hWl20
            refine r_get S hK hPl20 58 (by decide) hF23 (C := RX8) (T := TX8) (N := 23) hiX8 rfl 20 (by decide) (am_at in_wsX8_seals_0 3 rfl) (v := .ref (ad 69)) rfl dX8_seals_54 ?_
            refine lv_aload_n S.1 S.2.1 dX8_seals_57 rfl (lv_at hl20 1 rfl) ?_
            refine r_get S hK hPl20 58 (by decide) hF23 (C := RX8) (T := TX8) (N := 23) hiX8 rfl 4 (by decide) (am_at in_wsX8_seals_0 4 rfl) (v := .ref (ad 62)) rfl dX8_seals_58 ?_
            refine lv_iconst (v := (nI 4)) S.1 S.2.1 dX8_seals_61 (by decide +kernel) ?_
            obtain ⟨g24, hF24, hg24⟩ := wt_I hWl20 (show (62, 7) ∈ rLI by decide)
            refine r_iald S hK hPl20 62 (by decide) hF24 (vp_in_nI (show 4 < 7 by omega) (by omega)) dX8_seals_62 ?_
            refine lv_topi (fun v26 e26 => ?_)
            obtain ⟨b27, hb27, he27⟩ := (pr_S (hg24 4 (by decide))).2.2 rfl
            obtain rfl : v26 = nI b27 := e26.trans he27
            refine lv_aload_n S.1 S.2.1 dX8_seals_63 rfl (lv_at hl20 1 rfl) ?_
            refine r_get S hK hPl20 58 (by decide) hF23 (C := RX8) (T := TX8) (N := 23) hiX8 rfl 4 (by decide) (am_at in_wsX8_seals_0 4 rfl) (v := .ref (ad 62)) rfl dX8_seals_64 ?_
            refine lv_iconst (v := (nI 0)) S.1 S.2.1 dX8_seals_67 (by decide +kernel) ?_
            refine r_iald S hK hPl20 62 (by decide) hF24 (vp_in_nI (show 0 < 7 by omega) (by omega)) dX8_seals_68 ?_
            refine lv_topi (fun v29 e29 => ?_)
            obtain ⟨b30, hb30, he30⟩ := (pr_S (hg24 0 (by decide))).1 rfl
            obtain rfl : v29 = nI b30 := e29.trans he30
            refine lv_aload_n S.1 S.2.1 dX8_seals_69 rfl (lv_at hl20 1 rfl) ?_
            refine r_get S hK hPl20 58 (by decide) hF23 (C := RX8) (T := TX8) (N := 23) hiX8 rfl 4 (by decide) (am_at in_wsX8_seals_0 4 rfl) (v := .ref (ad 62)) rfl dX8_seals_70 ?_
            refine lv_iconst (v := (nI 2)) S.1 S.2.1 dX8_seals_73 (by decide +kernel) ?_
            refine r_iald S hK hPl20 62 (by decide) hF24 (vp_in_nI (show 2 < 7 by omega) (by omega)) dX8_seals_74 ?_
            refine lv_topi (fun v32 e32 => ?_)
            obtain ⟨b33, hb33, he33⟩ := (pr_S (hg24 2 (by decide))).2.1 rfl
            obtain rfl : v32 = nI b33 := e32.trans he33
            refine r_cSl (As := [.int (nI b30), .int (nI b33)]) (rest := [.int (nI b27), .ref (ad 69)]) S hK hZ hPl20 hSl20 hl20.1 (c_X8_bit l D cA ad t hI Fl20 hWl20 (nI b30) (nI b33)) (va_cwS 2 S.2.2.2.2 gX8_seals_X8_bit rfl rfl rfl (by decide +kernel) ⟨Nat.le_of_ble_eq_true rfl, Nat.le_of_ble_eq_true rfl⟩) rfl rfl (Nat.le_of_ble_eq_true rfl) ⟨Nat.zero_le _, Nat.zero_le _⟩ dX8_seals_75 (fun r34 hr34 => ?_)
            obtain ⟨hr34, hm34⟩ := hr34
            obtain ⟨g35, hF35⟩ := wt_L hWl20 (show (69, 256) ∈ rLL by decide)
            refine r_last S hI hK hPl20 hSl20 69 (by decide) hF35 (vp_in_nI (show b27 < 256 by omega) (by omega)) dX8_seals_78 (fun F36 H36 locs36 eF36 hP36 hS36 => ?_)
            have hW36 := hWl20.up eF36 (ok_L (show (69, 256) ∈ rLL by decide) ⟨_, rfl⟩)
            have hFr36 := hFl20.up eF36 (by simp <;> first | omega | (simp only [isC, isJ] at *; omega))
            refine lv_iconst (v := (nI 0)) S.1 S.2.1 dX8_seals_79 (by decide +kernel) ?_
            refine lv_istore_n (lv' := [(2, .int (nI 0)), (0, .ref (ad 58)), (1, .int p1)]) S.1 S.2.1 dX8_seals_80 rfl hl20 (by decide) rfl (fun ls37 hl37 => ?_)
            have lp38 : ∀ (n38 : Nat) (q238 : Nat), ∀ (Fl38 : Nat → va_E) (Hl38 : Heap) (lol38 : List Loc), q238 ≤ 61 → 61 - q238 < n38 → WT cA ad Fl38 → rFr [69, 70] F Fl38 → va_P D vwCl (rW ad Fl38) Hl38 → va_S (rA ad) s.heap Hl38 lol38 → ∀ (ls : Array Slot), lv_has ls 4 [(2, .int (nI q238)), (0, .ref (ad 58)), (1, .int p1)] → W p l e { frames := 4, cells := 0, slots := 0, locals := 105 } s m args below meth c Hl38 lol38 0 0 Q (F0 m 81 ls []) := by
              intro n38
              induction n38 with
              | zero =>
                intro q238 Fl38 Hl38 lol38 iv38_0 hm38 hWl38 hFl38 hPl38 hSl38 ls38 hl38
                exact absurd hm38 (Nat.not_lt_zero _)
              | succ n38 ih38 =>
                intro q238 Fl38 Hl38 lol38 iv38_0 hm38 hWl38 hFl38 hPl38 hSl38 ls38 hl38
                refine lv_iload_n S.1 S.2.1 dX8_seals_81 rfl (lv_at hl38 0 rfl) ?_
                refine lv_bipush (v := (nI 61)) S.1 S.2.1 dX8_seals_82 (by decide +kernel) ?_
                refine lv_icmp_ge (tgt := 140) S.1 S.2.1 dX8_seals_84 (by decide) (fun c39 => ?_) (fun c39 => ?_)
                · skip
                  have k40 := ci_le (nI_toInt (n := 61) (by decide)) (nI_toInt (n := q238) (by omega)) c39
                  refine lv_iconst (v := (-1)) S.1 S.2.1 dX8_seals_140 (by decide +kernel) ?_
                  exact hret 141 _ _ _ _ _ dX8_seals_141 rfl hPl38 hSl38 ⟨hWl38, hFl38, trivial⟩
                have k41 := ci_nle (nI_toInt (n := 61) (by decide)) (nI_toInt (n := q238) (by omega)) c39
                refine lv_iconst (v := (nI 0)) S.1 S.2.1 dX8_seals_87 (by decide +kernel) ?_
                refine lv_istore_n (lv' := [(3, .int (nI 0)), (2, .int (nI q238)), (0, .ref (ad 58)), (1, .int p1)]) S.1 S.2.1 dX8_seals_88 rfl hl38 (by decide) rfl (fun ls42 hl42 => ?_)
                have lp43 : ∀ (n43 : Nat) (q343 : Nat), q343 ≤ 256 → 256 - q343 < n43 → ∀ (ls : Array Slot), lv_has ls 4 [(3, .int (nI q343)), (2, .int (nI q238)), (0, .ref (ad 58)), (1, .int p1)] → W p l e { frames := 4, cells := 0, slots := 0, locals := 105 } s m args below meth c Hl38 lol38 0 0 Q (F0 m 89 ls []) := by
                  intro n43
                  induction n43 with
                  | zero =>
                    intro q343 iv43_0 hm43 ls43 hl43
                    exact absurd hm43 (Nat.not_lt_zero _)
                  | succ n43 ih43 =>
                    intro q343 iv43_0 hm43 ls43 hl43
                    refine lv_iload_n S.1 S.2.1 dX8_seals_89 rfl (lv_at hl43 0 rfl) ?_
                    refine lv_sipush (v := (nI 256)) S.1 S.2.1 dX8_seals_90 (by decide +kernel) ?_
                    refine lv_icmp_ge (tgt := 122) S.1 S.2.1 dX8_seals_93 (by decide) (fun c44 => ?_) (fun c44 => ?_)
                    · skip
                      have k45 := ci_le (nI_toInt (n := 256) (by decide)) (nI_toInt (n := q343) (by omega)) c44
                      refine lv_aload_n S.1 S.2.1 dX8_seals_122 rfl (lv_at hl43 2 rfl) ?_
                      refine lv_aload_n S.1 S.2.1 dX8_seals_123 rfl (lv_at hl43 2 rfl) ?_
                      obtain ⟨ty46, kn46, no46, en46, at46, sa46, sd46, wr46, pl46, va46, hF46, hb46_1, hb46_2, hb46_3, hb46_4, hb46_5, hb46_6⟩ := wt_m hWl38
                      refine r_get S hK hPl38 58 (by decide) hF46 (C := RX8) (T := TX8) (N := 23) hiX8 rfl 4 (by decide) (am_at in_wsX8_seals_0 4 rfl) (v := .ref (ad 62)) rfl dX8_seals_124 ?_
                      refine lv_iconst (v := (nI 1)) S.1 S.2.1 dX8_seals_127 (by decide +kernel) ?_
                      obtain ⟨g47, hF47, hg47⟩ := wt_I hWl38 (show (62, 7) ∈ rLI by decide)
                      refine r_iald S hK hPl38 62 (by decide) hF47 (vp_in_nI (show 1 < 7 by omega) (by omega)) dX8_seals_128 ?_
                      refine lv_topi (fun v49 e49 => ?_)
                      refine lv_iload_n S.1 S.2.1 dX8_seals_129 rfl (lv_at hl43 1 rfl) ?_
                      refine lv_iadd S.1 S.2.1 dX8_seals_130 ?_
                      refine lv_topi (fun v50 e50 => ?_)
                      refine r_cVv (As := [.int v50]) (rest := []) S hK hZ hPl38 hSl38 hl43.1 58 (by decide) hF46 (C := RX8) rfl (c_X8_sealsOn l D cA ad t hI Fl38 hWl38 v50) (cwV 1 S.2.2.2.2 gX8_seals_X8_sealsOn rfl rfl rfl (by decide +kernel) ⟨Nat.le_of_ble_eq_true rfl, Nat.le_of_ble_eq_true rfl⟩) rfl rfl (Nat.le_of_ble_eq_true rfl) ⟨Nat.zero_le _, Nat.zero_le _⟩ dX8_seals_131 (fun F51 H51 locs51 hr51 hP51 hS51 => ?_)
                      obtain ⟨hW51, hFc51, hr51⟩ := hr51
                      have hFr51 := hFl38.tr hFc51 (by simp <;> first | omega | (simp only [isC, isJ] at *; omega))
                      refine lv_iinc (v := (nI (q238 + 1))) (lv' := [(2, .int (nI (q238 + 1))), (3, .int (nI q343)), (0, .ref (ad 58)), (1, .int p1)]) S.1 S.2.1 dX8_seals_134 hl43 (k := 1) rfl (nI_add _ 1) (by decide) rfl (fun ls52 hl52 => ?_)
                      refine lv_goto (tgt := 81) S.1 S.2.1 dX8_seals_137 (by decide) ?_
                      exact ih38 (q238 + 1) F51 H51 locs51 (by omega) (by omega) hW51 hFr51 hP51 hS51 ls52 (lv_sub hl52 [0, 2, 3] rfl)
                    have k53 := ci_nle (nI_toInt (n := 256) (by decide)) (nI_toInt (n := q343) (by omega)) c44
                    refine lv_aload_n S.1 S.2.1 dX8_seals_96 rfl (lv_at hl43 2 rfl) ?_
                    obtain ⟨ty54, kn54, no54, en54, at54, sa54, sd54, wr54, pl54, va54, hF54, hb54_1, hb54_2, hb54_3, hb54_4, hb54_5, hb54_6⟩ := wt_m hWl38
                    refine r_get S hK hPl38 58 (by decide) hF54 (C := RX8) (T := TX8) (N := 23) hiX8 rfl 20 (by decide) (am_at in_wsX8_seals_0 3 rfl) (v := .ref (ad 69)) rfl dX8_seals_97 ?_
                    refine lv_iload_n S.1 S.2.1 dX8_seals_100 rfl (lv_at hl43 0 rfl) ?_
                    obtain ⟨g55, hF55⟩ := wt_L hWl38 (show (69, 256) ∈ rLL by decide)
                    refine r_lald S hK hPl38 69 (by decide) hF55 (vp_in_nI (show q343 < 256 by omega) (by omega)) dX8_seals_101 ?_
                    refine lv_topl (fun v57 e57 => ?_)
                    refine lv_lconst (v := 0) S.1 S.2.1 dX8_seals_102 (by decide +kernel) ?_
                    refine W.lcmp S.1 S.2.1 dX8_seals_103 ?_
                    refine lv_topi (fun v58 e58 => ?_)
                    refine lv_if_eq (tgt := 116) S.1 S.2.1 dX8_seals_104 (by decide) (fun c59 => ?_) (fun c59 => ?_)
                    · skip
                      have k60 := ci_eq rfl z_ti c59
                      refine lv_iinc (v := (nI (q343 + 1))) (lv' := [(3, .int (nI (q343 + 1))), (2, .int (nI q238)), (0, .ref (ad 58)), (1, .int p1)]) S.1 S.2.1 dX8_seals_116 hl43 (k := 0) rfl (nI_add _ 1) (by decide) rfl (fun ls61 hl61 => ?_)
                      refine lv_goto (tgt := 89) S.1 S.2.1 dX8_seals_119 (by decide) ?_
                      exact ih43 (q343 + 1) (by omega) (by omega) ls61 (lv_sub hl61 [0, 1, 2, 3] rfl)
                    have k62 := ci_ne rfl z_ti c59
                    refine lv_iload_n S.1 S.2.1 dX8_seals_107 rfl (lv_at hl43 0 rfl) ?_
                    refine lv_iload_n S.1 S.2.1 dX8_seals_108 rfl (lv_at hl43 3 rfl) ?_
                    refine lv_iand S.1 S.2.1 dX8_seals_109 ?_
                    refine lv_topi (fun v63 e63 => ?_)
                    refine lv_iload_n S.1 S.2.1 dX8_seals_110 rfl (lv_at hl43 3 rfl) ?_
                    refine lv_icmp_ne (tgt := 116) S.1 S.2.1 dX8_seals_111 (by decide) (fun c64 => ?_) (fun c64 => ?_)
                    · skip
                      have k65 := ci_ne rfl rfl c64
                      refine lv_iinc (v := (nI (q343 + 1))) (lv' := [(3, .int (nI (q343 + 1))), (2, .int (nI q238)), (0, .ref (ad 58)), (1, .int p1)]) S.1 S.2.1 dX8_seals_116 hl43 (k := 0) rfl (nI_add _ 1) (by decide) rfl (fun ls66 hl66 => ?_)
                      refine lv_goto (tgt := 89) S.1 S.2.1 dX8_seals_119 (by decide) ?_
                      exact ih43 (q343 + 1) (by omega) (by omega) ls66 (lv_sub hl66 [0, 1, 2, 3] rfl)
                    have k67 := ci_eq rfl rfl c64
                    refine lv_iload_n S.1 S.2.1 dX8_seals_114 rfl (lv_at hl43 1 rfl) ?_
                    exact hret 115 _ _ _ _ _ dX8_seals_115 rfl hPl38 hSl38 ⟨hWl38, hFl38, trivial⟩
                exact lp43 (256 - (0) + 1) (0) (by omega) (by omega) ls42 (lv_sub hl42 [0, 1, 2, 3] rfl)
            exact lp38 (61 - (0) + 1) (0) F36 H36 locs36 (by omega) (by omega) hW36 hFr36 hP36 hS36 ls37 (lv_sub hl37 [0, 1, 2] rfl)
          have k68 := ci_nle (nI_toInt (n := 256) (by decide)) (nI_toInt (n := q220) (by omega)) c21
          refine lv_aload_n S.1 S.2.1 dX8_seals_40 rfl (lv_at hl20 1 rfl) ?_
          obtain ⟨ty69, kn69, no69, en69, at69, sa69, sd69, wr69, pl69, va69, hF69, hb69_1, hb69_2, hb69_3, hb69_4, hb69_5, hb69_6⟩ := wt_m hWl20
          refine r_get S hK hPl20 58 (by decide) hF69 (C := RX8) (T := TX8) (N := 23) hiX8 rfl 20 (by decide) (am_at in_wsX8_seals_0 3 rfl) (v := .ref (ad 69)) rfl dX8_seals_41 ?_
          refine lv_iload_n S.1 S.2.1 dX8_seals_44 rfl (lv_at hl20 0 rfl) ?_
          refine lv_lconst (v := 0) S.1 S.2.1 dX8_seals_45 (by decide +kernel) ?_
          obtain ⟨g70, hF70⟩ := wt_L hWl20 (show (69, 256) ∈ rLL by decide)
          refine r_last S hI hK hPl20 hSl20 69 (by decide) hF70 (vp_in_nI (show q220 < 256 by omega) (by omega)) dX8_seals_46 (fun F71 H71 locs71 eF71 hP71 hS71 => ?_)
          have hW71 := hWl20.up eF71 (ok_L (show (69, 256) ∈ rLL by decide) ⟨_, rfl⟩)
          have hFr71 := hFl20.up eF71 (by simp <;> first | omega | (simp only [isC, isJ] at *; omega))
          refine lv_iinc (v := (nI (q220 + 1))) (lv' := [(2, .int (nI (q220 + 1))), (0, .ref (ad 58)), (1, .int p1)]) S.1 S.2.1 dX8_seals_47 hl20 (k := 0) rfl (nI_add _ 1) (by decide) rfl (fun ls72 hl72 => ?_)
          refine lv_goto (tgt := 33) S.1 S.2.1 dX8_seals_50 (by decide) ?_
          exact ih20 (q220 + 1) F71 H71 locs71 (by omega) (by omega) hW71 hFr71 hP71 hS71 ls72 (lv_sub hl72 [0, 1, 2] rfl)
      exact lp20 (256 - (0) + 1) (0) F s.heap [] (by omega) (by omega) hW hFr hP hS ls19 (lv_sub hl19 [0, 1, 2] rfl)
    have k73 := ci_eq (nI_toInt (n := b16) (Nat.lt_of_le_of_lt hb16 (by decide))) z_ti c17
    refine lv_ldc (v := (-1000000003)) S.1 S.2.1 S.2.2.2.1 (S.2.2.2.2 (.constant RX8 139 (-1000000003)) (am_at in_wsX8_seals_0 2 rfl)) dX8_seals_28 ?_
    exact hret 30 _ _ _ _ _ dX8_seals_30 rfl hP hS ⟨hW, hFr, trivial⟩
  have k74 := ci_eq (nI_toInt (n := b9) (Nat.lt_of_le_of_lt hb9 (by decide))) z_ti c13
  refine lv_ldc (v := (-1000000001)) S.1 S.2.1 S.2.2.2.1 (S.2.2.2.2 (.constant RX8 126 (-1000000001)) (am_at in_wsX8_seals_0 1 rfl)) dX8_seals_18 ?_
  exact hret 20 _ _ _ _ _ dX8_seals_20 rfl hP hS ⟨hW, hFr, trivial⟩
noncomputable def m_X8_two_L47_28_b (k0 : SS → Int32 → Int64 → Int64 → Int32 → Int32) (σ : SS) (a0 : Int32) (a1 : Int64) (a2 : Int64) (a3 : Int32) : Int32 :=
  if (nI 25) ≤ a0 then
    ((-1) : Int32)
  else
    if ((m_X8_towns σ a2) &&& (m_X8_towns σ a1)) = (0 : Int32) then
      k0 σ (a0 + Int32.ofInt (1)) (m_X8_goes σ a1 (σ 62 (rl (nI 5))) ((-1) : Int32)) (m_X8_goes σ a2 (σ 62 (rl (nI 5))) ((-1) : Int32)) a3
    else
      a0
noncomputable def m_X8_two_L47_28 : Nat → SS → Int32 → Int64 → Int64 → Int32 → Int32
  | 0 => fun σ _ _ _ _ => 0
  | n + 1 => m_X8_two_L47_28_b (m_X8_two_L47_28 n)
noncomputable def m_X8_two (σ : SS) (a0 : Int32) : Int32 :=
  if (m_X8_isTown σ a0) = (0 : Int32) then
    ((-1000000001) : Int32)
  else
    if (m_X8_goesOn σ) = (0 : Int32) then
      ((-1000000003) : Int32)
    else
      m_X8_two_L47_28 2000 σ (nI 0) (m_X8_bit σ a0 (nI 0)) (m_X8_bit σ (σ 62 (rl (nI 0))) (σ 62 (rl (nI 2)))) a0
set_option maxHeartbeats 4000000 in
set_option maxRecDepth 100000 in
theorem c_X8_two (l : Launch) (D : va_G) (cA ad : Nat → Nat) (t : Nat) (hI : rI ad) (F : Nat → va_E) (hW : WT cA ad F) (p1 : Int32) : MP l D cA ad t yX8_two wsX8_two { frames := 3, cells := 0, slots := 0, locals := 78 } [.ref (ad 58), .int p1] F (fun r => (True) ∧ m_X8_two (AB ad F) p1 = r) := by
  refine en_P rfl (by decide +kernel) (Nat.le_of_ble_eq_true rfl) ?_
  intro p e s m args below meth c ls0 Q S hK hZ hP hS hl0 hret
  have hl0 : lv_has ls0 7 [(0, .ref (ad 58)), (1, .int p1)] := hl0
  have hiX8 : ∀ w ∈ u_ws RX8 TX8 23, w ∈ wsX8_two := in_wsX8_two_2
  obtain ⟨M, hM⟩ : ∃ M, M = m_X8_two (AB ad F) p1 := ⟨_, rfl⟩
  refine lv_aload_n S.1 S.2.1 dX8_two_0 rfl (lv_at hl0 0 rfl) ?_
  refine lv_iload_n S.1 S.2.1 dX8_two_1 rfl (lv_at hl0 1 rfl) ?_
  obtain ⟨ty2, kn2, no2, en2, at2, sa2, sd2, wr2, pl2, va2, hF2, hb2_1, hb2_2, hb2_3, hb2_4, hb2_5, hb2_6⟩ := wt_m hW
  refine r_cVp (As := [.int p1]) (rest := []) S hK hZ hP hS hl0.1 58 (by decide) hF2 (C := RX8) rfl (c_X8_isTown l D cA ad t hI F hW p1) (cwV 1 S.2.2.2.2 gX8_two_X8_isTown rfl rfl rfl (by decide +kernel) ⟨Nat.le_of_ble_eq_true rfl, Nat.le_of_ble_eq_true rfl⟩) rfl rfl (Nat.le_of_ble_eq_true rfl) ⟨Nat.zero_le _, Nat.zero_le _⟩ dX8_two_2 (fun r1 hr1 => ?_)
  obtain ⟨hr1, hm1⟩ := hr1
  obtain ⟨⟨b3, hb3, rfl⟩, hx3⟩ := hr1
  have hx3 : b3 ≠ 0 → 0 ≤ p1.toInt ∧ p1.toInt ≤ _ := fun q => hx3 (nI_ne0 (by omega) (by omega))
  have m4 : (m_X8_isTown (AB ad F) p1) = (nI b3) := (congr (Eq.refl (m_X8_isTown (AB ad F))) (Eq.refl (p1 : Int32))).trans hm1
  refine lv_if_ne (tgt := 11) S.1 S.2.1 dX8_two_5 (by decide) (fun c5 => ?_) (fun c5 => ?_)
  · skip
    have k6 := ci_ne (nI_toInt (n := b3) (Nat.lt_of_le_of_lt hb3 (by decide))) z_ti c5
    refine lv_aload_n S.1 S.2.1 dX8_two_11 rfl (lv_at hl0 0 rfl) ?_
    refine r_cVp (As := []) (rest := []) S hK hZ hP hS hl0.1 58 (by decide) hF2 (C := RX8) rfl (c_X8_goesOn l D cA ad t hI F hW ) (cwV 0 S.2.2.2.2 gX8_two_X8_goesOn rfl rfl rfl (by decide +kernel) ⟨Nat.le_of_ble_eq_true rfl, Nat.le_of_ble_eq_true rfl⟩) rfl rfl (Nat.le_of_ble_eq_true rfl) ⟨Nat.zero_le _, Nat.zero_le _⟩ dX8_two_12 (fun r7 hr7 => ?_)
    obtain ⟨hr7, hm7⟩ := hr7
    obtain ⟨b8, hb8, rfl⟩ := hr7
    have m9 : (m_X8_goesOn (AB ad F)) = (nI b8) := (Eq.refl (m_X8_goesOn (AB ad F))).trans hm7
    refine lv_if_ne (tgt := 21) S.1 S.2.1 dX8_two_15 (by decide) (fun c10 => ?_) (fun c10 => ?_)
    · skip
      have k11 := ci_ne (nI_toInt (n := b8) (Nat.lt_of_le_of_lt hb8 (by decide))) z_ti c10
      refine lv_aload_n S.1 S.2.1 dX8_two_21 rfl (lv_at hl0 0 rfl) ?_
      refine r_get S hK hP 58 (by decide) hF2 (C := RX8) (T := TX8) (N := 23) hiX8 rfl 4 (by decide) (am_at in_wsX8_two_0 2 rfl) (v := .ref (ad 62)) rfl dX8_two_22 ?_
      refine lv_iconst (v := (nI 0)) S.1 S.2.1 dX8_two_25 (by decide +kernel) ?_
      obtain ⟨g12, hF12, hg12⟩ := wt_I hW (show (62, 7) ∈ rLI by decide)
      refine r_iald S hK hP 62 (by decide) hF12 (vp_in_nI (show 0 < 7 by omega) (by omega)) dX8_two_26 ?_
      refine lv_topi (fun v14 e14 => ?_)
      obtain ⟨b15, hb15, he15⟩ := (pr_S (hg12 0 (by decide))).1 rfl
      obtain rfl : v14 = nI b15 := e14.trans he15
      have m16 : ((AB ad F) 62 (rl (nI 0))) = (nI b15) := (ab_cg rfl rfl).trans ((AB_g hF12).trans e14.symm)
      refine lv_aload_n S.1 S.2.1 dX8_two_27 rfl (lv_at hl0 0 rfl) ?_
      refine r_get S hK hP 58 (by decide) hF2 (C := RX8) (T := TX8) (N := 23) hiX8 rfl 4 (by decide) (am_at in_wsX8_two_0 2 rfl) (v := .ref (ad 62)) rfl dX8_two_28 ?_
      refine lv_iconst (v := (nI 2)) S.1 S.2.1 dX8_two_31 (by decide +kernel) ?_
      refine r_iald S hK hP 62 (by decide) hF12 (vp_in_nI (show 2 < 7 by omega) (by omega)) dX8_two_32 ?_
      refine lv_topi (fun v18 e18 => ?_)
      obtain ⟨b19, hb19, he19⟩ := (pr_S (hg12 2 (by decide))).2.1 rfl
      obtain rfl : v18 = nI b19 := e18.trans he19
      have m20 : ((AB ad F) 62 (rl (nI 2))) = (nI b19) := (ab_cg rfl rfl).trans ((AB_g hF12).trans e18.symm)
      refine r_cSl (As := [.int (nI b15), .int (nI b19)]) (rest := []) S hK hZ hP hS hl0.1 (c_X8_bit l D cA ad t hI F hW (nI b15) (nI b19)) (va_cwS 2 S.2.2.2.2 gX8_two_X8_bit rfl rfl rfl (by decide +kernel) ⟨Nat.le_of_ble_eq_true rfl, Nat.le_of_ble_eq_true rfl⟩) rfl rfl (Nat.le_of_ble_eq_true rfl) ⟨Nat.zero_le _, Nat.zero_le _⟩ dX8_two_33 (fun r21 hr21 => ?_)
      obtain ⟨hr21, hm21⟩ := hr21
      have m22 : (m_X8_bit (AB ad F) ((AB ad F) 62 (rl (nI 0))) ((AB ad F) 62 (rl (nI 2)))) = r21 := (congr (congr (Eq.refl (m_X8_bit (AB ad F))) m16) m20).trans hm21
      refine lv_lstore_n (lv' := [(2, .long r21), (0, .ref (ad 58)), (1, .int p1)]) S.1 S.2.1 dX8_two_36 rfl hl0 (by decide) rfl (fun ls23 hl23 => ?_)
      refine lv_iload_n S.1 S.2.1 dX8_two_37 rfl (lv_at hl23 2 rfl) ?_
      refine lv_iconst (v := (nI 0)) S.1 S.2.1 dX8_two_38 (by decide +kernel) ?_
      refine r_cSl (As := [.int p1, .int (nI 0)]) (rest := []) S hK hZ hP hS hl23.1 (c_X8_bit l D cA ad t hI F hW p1 (nI 0)) (va_cwS 2 S.2.2.2.2 gX8_two_X8_bit rfl rfl rfl (by decide +kernel) ⟨Nat.le_of_ble_eq_true rfl, Nat.le_of_ble_eq_true rfl⟩) rfl rfl (Nat.le_of_ble_eq_true rfl) ⟨Nat.zero_le _, Nat.zero_le _⟩ dX8_two_39 (fun r24 hr24 => ?_)
      obtain ⟨hr24, hm24⟩ := hr24
      have m25 : (m_X8_bit (AB ad F) p1 (nI 0)) = r24 := (congr (congr (Eq.refl (m_X8_bit (AB ad F))) (Eq.refl (p1 : Int32))) (Eq.refl ((nI 0) : Int32))).trans hm24
      refine lv_lstore (lv' := [(4, .long r24), (2, .long r21), (0, .ref (ad 58)), (1, .int p1)]) S.1 S.2.1 dX8_two_42 hl23 (by decide) rfl (fun ls26 hl26 => ?_)
      refine lv_iconst (v := (nI 0)) S.1 S.2.1 dX8_two_44 (by decide +kernel) ?_
      refine lv_istore (lv' := [(6, .int (nI 0)), (4, .long r24), (2, .long r21), (0, .ref (ad 58)), (1, .int p1)]) S.1 S.2.1 dX8_two_45 hl26 (by decide) rfl (fun ls27 hl27 => ?_)
      have lp28 : ∀ (n28 : Nat) (q628 : Nat) (x28_4 : Int64) (x28_2 : Int64), q628 ≤ 25 → 25 - q628 < n28 → M = m_X8_two_L47_28 n28 (AB ad F) (nI q628) x28_4 x28_2 p1 → ∀ (ls : Array Slot), lv_has ls 7 [(6, .int (nI q628)), (4, .long x28_4), (2, .long x28_2), (0, .ref (ad 58)), (1, .int p1)] → W p l e { frames := 3, cells := 0, slots := 0, locals := 78 } s m args below meth c s.heap [] 0 0 Q (F0 m 47 ls []) := by
        intro n28
        induction n28 with
        | zero =>
          intro q628 x28_4 x28_2 iv28_0 hm28 hEl28 ls28 hl28
          exact absurd hm28 (Nat.not_lt_zero _)
        | succ n28 ih28 =>
          intro q628 x28_4 x28_2 iv28_0 hm28 hEl28 ls28 hl28
          have hE29 : M = m_X8_two_L47_28_b (m_X8_two_L47_28 n28) (AB ad F) (nI q628) x28_4 x28_2 p1 := hEl28
          refine lv_iload S.1 S.2.1 dX8_two_47 (lv_at hl28 0 rfl) ?_
          refine lv_bipush (v := (nI 25)) S.1 S.2.1 dX8_two_49 (by decide +kernel) ?_
          refine lv_icmp_ge (tgt := 104) S.1 S.2.1 dX8_two_51 (by decide) (fun c30 => ?_) (fun c30 => ?_)
          · skip
            have k31 := ci_le (nI_toInt (n := 25) (by decide)) (nI_toInt (n := q628) (by omega)) c30
            refine lv_iconst (v := (-1)) S.1 S.2.1 dX8_two_104 (by decide +kernel) ?_
            have hE32 : M = (-1) := hE29.trans ((show m_X8_two_L47_28_b (m_X8_two_L47_28 n28) (AB ad F) (nI q628) x28_4 x28_2 p1 = ((-1) : Int32) from by unfold m_X8_two_L47_28_b; rw [if_pos (le_cg rfl rfl c30)]).trans rfl)
            exact hret 105 _ _ dX8_two_105 rfl (⟨trivial, hM.symm.trans hE32⟩)
          have k33 := ci_nle (nI_toInt (n := 25) (by decide)) (nI_toInt (n := q628) (by omega)) c30
          refine lv_lload_n S.1 S.2.1 dX8_two_54 rfl (lv_at hl28 2 rfl) ?_
          refine r_cSp (As := [.long x28_2]) (rest := []) S hK hZ hP hS hl28.1 (c_X8_towns l D cA ad t hI F hW x28_2) (va_cwS 1 S.2.2.2.2 gX8_two_X8_towns rfl rfl rfl (by decide +kernel) ⟨Nat.le_of_ble_eq_true rfl, Nat.le_of_ble_eq_true rfl⟩) rfl rfl (Nat.le_of_ble_eq_true rfl) ⟨Nat.zero_le _, Nat.zero_le _⟩ dX8_two_55 (fun r34 hr34 => ?_)
          obtain ⟨hr34, hm34⟩ := hr34
          have m35 : (m_X8_towns (AB ad F) x28_2) = r34 := (congr (Eq.refl (m_X8_towns (AB ad F))) (Eq.refl (x28_2 : Int64))).trans hm34
          refine lv_lload S.1 S.2.1 dX8_two_58 (lv_at hl28 1 rfl) ?_
          refine r_cSp (As := [.long x28_4]) (rest := [.int r34]) S hK hZ hP hS hl28.1 (c_X8_towns l D cA ad t hI F hW x28_4) (va_cwS 1 S.2.2.2.2 gX8_two_X8_towns rfl rfl rfl (by decide +kernel) ⟨Nat.le_of_ble_eq_true rfl, Nat.le_of_ble_eq_true rfl⟩) rfl rfl (Nat.le_of_ble_eq_true rfl) ⟨Nat.zero_le _, Nat.zero_le _⟩ dX8_two_60 (fun r36 hr36 => ?_)
          obtain ⟨hr36, hm36⟩ := hr36
          have m37 : (m_X8_towns (AB ad F) x28_4) = r36 := (congr (Eq.refl (m_X8_towns (AB ad F))) (Eq.refl (x28_4 : Int64))).trans hm36
          refine lv_iand S.1 S.2.1 dX8_two_63 ?_
          refine lv_topi (fun v38 e38 => ?_)
          have m39 : ((m_X8_towns (AB ad F) x28_2) &&& (m_X8_towns (AB ad F) x28_4)) = v38 := cg2 (fun (x : Int32) (y : Int32) => x &&& y) m35 m37 e38
          refine lv_if_eq (tgt := 70) S.1 S.2.1 dX8_two_64 (by decide) (fun c40 => ?_) (fun c40 => ?_)
          · skip
            have k41 := ci_eq rfl z_ti c40
            refine lv_aload_n S.1 S.2.1 dX8_two_70 rfl (lv_at hl28 3 rfl) ?_
            refine lv_lload_n S.1 S.2.1 dX8_two_71 rfl (lv_at hl28 2 rfl) ?_
            refine lv_aload_n S.1 S.2.1 dX8_two_72 rfl (lv_at hl28 3 rfl) ?_
            refine r_get S hK hP 58 (by decide) hF2 (C := RX8) (T := TX8) (N := 23) hiX8 rfl 4 (by decide) (am_at in_wsX8_two_0 2 rfl) (v := .ref (ad 62)) rfl dX8_two_73 ?_
            refine lv_iconst (v := (nI 5)) S.1 S.2.1 dX8_two_76 (by decide +kernel) ?_
            refine r_iald S hK hP 62 (by decide) hF12 (vp_in_nI (show 5 < 7 by omega) (by omega)) dX8_two_77 ?_
            refine lv_topi (fun v43 e43 => ?_)
            have m44 : ((AB ad F) 62 (rl (nI 5))) = v43 := (ab_cg rfl rfl).trans ((AB_g hF12).trans e43.symm)
            refine lv_iconst (v := (-1)) S.1 S.2.1 dX8_two_78 (by decide +kernel) ?_
            refine r_cVl (As := [.long x28_2, .int v43, .int (-1)]) (rest := []) S hK hZ hP hS hl28.1 58 (by decide) hF2 (C := RX8) rfl (c_X8_goes l D cA ad t hI F hW x28_2 v43 (-1)) (cwV 3 S.2.2.2.2 gX8_two_X8_goes rfl rfl rfl (by decide +kernel) ⟨Nat.le_of_ble_eq_true rfl, Nat.le_of_ble_eq_true rfl⟩) rfl rfl (Nat.le_of_ble_eq_true rfl) ⟨Nat.zero_le _, Nat.zero_le _⟩ dX8_two_79 (fun r45 hr45 => ?_)
            obtain ⟨hr45, hm45⟩ := hr45
            have m46 : (m_X8_goes (AB ad F) x28_2 ((AB ad F) 62 (rl (nI 5))) ((-1) : Int32)) = r45 := (congr (congr (congr (Eq.refl (m_X8_goes (AB ad F))) (Eq.refl (x28_2 : Int64))) m44) (Eq.refl ((-1) : Int32))).trans hm45
            refine lv_lstore_n (lv' := [(2, .long r45), (6, .int (nI q628)), (4, .long x28_4), (0, .ref (ad 58)), (1, .int p1)]) S.1 S.2.1 dX8_two_82 rfl hl28 (by decide) rfl (fun ls47 hl47 => ?_)
            refine lv_aload_n S.1 S.2.1 dX8_two_83 rfl (lv_at hl47 3 rfl) ?_
            refine lv_lload S.1 S.2.1 dX8_two_84 (lv_at hl47 2 rfl) ?_
            refine lv_aload_n S.1 S.2.1 dX8_two_86 rfl (lv_at hl47 3 rfl) ?_
            refine r_get S hK hP 58 (by decide) hF2 (C := RX8) (T := TX8) (N := 23) hiX8 rfl 4 (by decide) (am_at in_wsX8_two_0 2 rfl) (v := .ref (ad 62)) rfl dX8_two_87 ?_
            refine lv_iconst (v := (nI 5)) S.1 S.2.1 dX8_two_90 (by decide +kernel) ?_
            refine r_iald S hK hP 62 (by decide) hF12 (vp_in_nI (show 5 < 7 by omega) (by omega)) dX8_two_91 ?_
            refine lv_topi (fun v49 e49 => ?_)
            have m50 : ((AB ad F) 62 (rl (nI 5))) = v49 := (ab_cg rfl rfl).trans ((AB_g hF12).trans e49.symm)
            refine lv_iconst (v := (-1)) S.1 S.2.1 dX8_two_92 (by decide +kernel) ?_
            refine r_cVl (As := [.long x28_4, .int v49, .int (-1)]) (rest := []) S hK hZ hP hS hl47.1 58 (by decide) hF2 (C := RX8) rfl (c_X8_goes l D cA ad t hI F hW x28_4 v49 (-1)) (cwV 3 S.2.2.2.2 gX8_two_X8_goes rfl rfl rfl (by decide +kernel) ⟨Nat.le_of_ble_eq_true rfl, Nat.le_of_ble_eq_true rfl⟩) rfl rfl (Nat.le_of_ble_eq_true rfl) ⟨Nat.zero_le _, Nat.zero_le _⟩ dX8_two_93 (fun r51 hr51 => ?_)
            obtain ⟨hr51, hm51⟩ := hr51
            have m52 : (m_X8_goes (AB ad F) x28_4 ((AB ad F) 62 (rl (nI 5))) ((-1) : Int32)) = r51 := (congr (congr (congr (Eq.refl (m_X8_goes (AB ad F))) (Eq.refl (x28_4 : Int64))) m50) (Eq.refl ((-1) : Int32))).trans hm51
            refine lv_lstore (lv' := [(4, .long r51), (2, .long r45), (6, .int (nI q628)), (0, .ref (ad 58)), (1, .int p1)]) S.1 S.2.1 dX8_two_96 hl47 (by decide) rfl (fun ls53 hl53 => ?_)
            have m55 : ((nI q628) + Int32.ofInt (1)) = (nI (q628 + 1)) := (congrArg (fun q : Int32 => q + Int32.ofInt (1)) rfl).trans (nI_add _ 1)
            refine lv_iinc (v := (nI (q628 + 1))) (lv' := [(6, .int (nI (q628 + 1))), (4, .long r51), (2, .long r45), (0, .ref (ad 58)), (1, .int p1)]) S.1 S.2.1 dX8_two_98 hl53 (k := 2) rfl (nI_add _ 1) (by decide) rfl (fun ls54 hl54 => ?_)
            refine lv_goto (tgt := 47) S.1 S.2.1 dX8_two_101 (by decide) ?_
            have hE56 : M = (m_X8_two_L47_28 n28) (AB ad F) (nI (q628 + 1)) r51 r45 p1 := hE29.trans ((show m_X8_two_L47_28_b (m_X8_two_L47_28 n28) (AB ad F) (nI q628) x28_4 x28_2 p1 = (m_X8_two_L47_28 n28) (AB ad F) ((nI q628) + Int32.ofInt (1)) (m_X8_goes (AB ad F) x28_4 ((AB ad F) 62 (rl (nI 5))) ((-1) : Int32)) (m_X8_goes (AB ad F) x28_2 ((AB ad F) 62 (rl (nI 5))) ((-1) : Int32)) p1 from by unfold m_X8_two_L47_28_b; rw [if_neg (nle_cg rfl rfl c30), if_pos (eq_cg m39 rfl c40)]).trans (congr (congr (congr (congr (congrArg ((m_X8_two_L47_28 n28)) (rfl : AB ad F = AB ad F)) m55) m52) m46) (Eq.refl (p1 : Int32))))
            exact ih28 (q628 + 1) (r51) (r45) (by omega) (by omega) hE56 ls54 (lv_sub hl54 [0, 1, 2, 3, 4] rfl)
          have k57 := ci_ne rfl z_ti c40
          refine lv_iload S.1 S.2.1 dX8_two_67 (lv_at hl28 0 rfl) ?_
          have hE58 : M = (nI q628) := hE29.trans ((show m_X8_two_L47_28_b (m_X8_two_L47_28 n28) (AB ad F) (nI q628) x28_4 x28_2 p1 = (nI q628) from by unfold m_X8_two_L47_28_b; rw [if_neg (nle_cg rfl rfl c30), if_neg (neq_cg m39 rfl c40)]).trans rfl)
          exact hret 69 _ _ dX8_two_69 rfl (⟨trivial, hM.symm.trans hE58⟩)
      have hE59 : M = m_X8_two_L47_28 2000 (AB ad F) (nI 0) r24 r21 p1 := hM.trans ((show m_X8_two (AB ad F) p1 = m_X8_two_L47_28 2000 (AB ad F) (nI 0) (m_X8_bit (AB ad F) p1 (nI 0)) (m_X8_bit (AB ad F) ((AB ad F) 62 (rl (nI 0))) ((AB ad F) 62 (rl (nI 2)))) p1 from by unfold m_X8_two; rw [if_neg (neq_cg m4 rfl c5), if_neg (neq_cg m9 rfl c10)]).trans (congr (congr (congr (congr (congrArg (m_X8_two_L47_28 2000) (rfl : AB ad F = AB ad F)) (Eq.refl ((nI 0) : Int32))) m25) m22) (Eq.refl (p1 : Int32))))
      exact lp28 2000 (0) (r24) (r21) (by omega) (by omega) hE59 ls27 (lv_sub hl27 [0, 1, 2, 3, 4] rfl)
    have k60 := ci_eq (nI_toInt (n := b8) (Nat.lt_of_le_of_lt hb8 (by decide))) z_ti c10
    refine lv_ldc (v := (-1000000003)) S.1 S.2.1 S.2.2.2.1 (S.2.2.2.2 (.constant RX8 139 (-1000000003)) (am_at in_wsX8_two_0 1 rfl)) dX8_two_18 ?_
    have hE61 : M = (-1000000003) := hM.trans ((show m_X8_two (AB ad F) p1 = ((-1000000003) : Int32) from by unfold m_X8_two; rw [if_neg (neq_cg m4 rfl c5), if_pos (eq_cg m9 rfl c10)]).trans rfl)
    exact hret 20 _ _ dX8_two_20 rfl (⟨trivial, hM.symm.trans hE61⟩)
  have k62 := ci_eq (nI_toInt (n := b3) (Nat.lt_of_le_of_lt hb3 (by decide))) z_ti c5
  refine lv_ldc (v := (-1000000001)) S.1 S.2.1 S.2.2.2.1 (S.2.2.2.2 (.constant RX8 126 (-1000000001)) (am_at in_wsX8_two_0 0 rfl)) dX8_two_8 ?_
  have hE63 : M = (-1000000001) := hM.trans ((show m_X8_two (AB ad F) p1 = ((-1000000001) : Int32) from by unfold m_X8_two; rw [if_pos (eq_cg m4 rfl c5)]).trans rfl)
  exact hret 10 _ _ dX8_two_10 rfl (⟨trivial, hM.symm.trans hE63⟩)
noncomputable def m_X8_idle_L6_3_b (k0 : SS → Int32 → Int32 → Int32) (σ : SS) (a0 : Int32) (a1 : Int32) : Int32 :=
  if (σ 60 (rl (nI 2))) ≤ a0 then
    a1
  else
    if (m_X8_isBanned σ a0) = (0 : Int32) then
      k0 σ (a0 + Int32.ofInt (1)) (a1 &&& ((σ 60 (rl ((nI 12) + a0))) ^^^ ((-1) : Int32)))
    else
      k0 σ (a0 + Int32.ofInt (1)) (a1 &&& (nI 4095))
noncomputable def m_X8_idle_L6_3 : Nat → SS → Int32 → Int32 → Int32
  | 0 => fun σ _ _ => 0
  | n + 1 => m_X8_idle_L6_3_b (m_X8_idle_L6_3 n)
noncomputable def m_X8_idle (σ : SS) : Int32 :=
  m_X8_idle_L6_3 2000 σ (nI 0) (nI 4095)
set_option maxHeartbeats 4000000 in
set_option maxRecDepth 100000 in
theorem c_X8_idle (l : Launch) (D : va_G) (cA ad : Nat → Nat) (t : Nat) (hI : rI ad) (F : Nat → va_E) (hW : WT cA ad F) : MP l D cA ad t yX8_idle wsX8_idle { frames := 1, cells := 0, slots := 0, locals := 21 } [.ref (ad 58)] F (fun r => (True) ∧ m_X8_idle (AB ad F) = r) := by
  refine en_P rfl (by decide +kernel) (Nat.le_of_ble_eq_true rfl) ?_
  intro p e s m args below meth c ls0 Q S hK hZ hP hS hl0 hret
  have hl0 : lv_has ls0 3 [(0, .ref (ad 58))] := hl0
  have hiX8 : ∀ w ∈ u_ws RX8 TX8 23, w ∈ wsX8_idle := in_wsX8_idle_1
  obtain ⟨M, hM⟩ : ∃ M, M = m_X8_idle (AB ad F) := ⟨_, rfl⟩
  refine lv_sipush (v := (nI 4095)) S.1 S.2.1 dX8_idle_0 (by decide +kernel) ?_
  refine lv_istore_n (lv' := [(1, .int (nI 4095)), (0, .ref (ad 58))]) S.1 S.2.1 dX8_idle_3 rfl hl0 (by decide) rfl (fun ls1 hl1 => ?_)
  refine lv_iconst (v := (nI 0)) S.1 S.2.1 dX8_idle_4 (by decide +kernel) ?_
  refine lv_istore_n (lv' := [(2, .int (nI 0)), (1, .int (nI 4095)), (0, .ref (ad 58))]) S.1 S.2.1 dX8_idle_5 rfl hl1 (by decide) rfl (fun ls2 hl2 => ?_)
  have lp3 : ∀ (n3 : Nat) (q23 : Nat) (x3_1 : Int32), q23 ≤ 8 → 8 - q23 < n3 → M = m_X8_idle_L6_3 n3 (AB ad F) (nI q23) x3_1 → ∀ (ls : Array Slot), lv_has ls 3 [(2, .int (nI q23)), (1, .int x3_1), (0, .ref (ad 58))] → W p l e { frames := 1, cells := 0, slots := 0, locals := 21 } s m args below meth c s.heap [] 0 0 Q (F0 m 6 ls []) := by
    intro n3
    induction n3 with
    | zero =>
      intro q23 x3_1 iv3_0 hm3 hEl3 ls3 hl3
      exact absurd hm3 (Nat.not_lt_zero _)
    | succ n3 ih3 =>
      intro q23 x3_1 iv3_0 hm3 hEl3 ls3 hl3
      have hE4 : M = m_X8_idle_L6_3_b (m_X8_idle_L6_3 n3) (AB ad F) (nI q23) x3_1 := hEl3
      refine lv_iload_n S.1 S.2.1 dX8_idle_6 rfl (lv_at hl3 0 rfl) ?_
      refine lv_aload_n S.1 S.2.1 dX8_idle_7 rfl (lv_at hl3 2 rfl) ?_
      obtain ⟨ty5, kn5, no5, en5, at5, sa5, sd5, wr5, pl5, va5, hF5, hb5_1, hb5_2, hb5_3, hb5_4, hb5_5, hb5_6⟩ := wt_m hW
      refine r_get S hK hP 58 (by decide) hF5 (C := RX8) (T := TX8) (N := 23) hiX8 rfl 2 (by decide) (am_at in_wsX8_idle_0 0 rfl) (v := .ref (ad 60)) rfl dX8_idle_8 ?_
      refine lv_iconst (v := (nI 2)) S.1 S.2.1 dX8_idle_11 (by decide +kernel) ?_
      obtain ⟨g6, hF6, hg6⟩ := wt_I hW (show (60, 52) ∈ rLI by decide)
      refine r_iald S hK hP 60 (by decide) hF6 (vp_in_nI (show 2 < 52 by omega) (by omega)) dX8_idle_12 ?_
      refine lv_topi (fun v8 e8 => ?_)
      obtain ⟨b9, hb9, he9⟩ := (pr_T (by decide) (hg6 2 (by decide))).2.1 rfl
      obtain rfl : v8 = nI b9 := e8.trans he9
      have m10 : ((AB ad F) 60 (rl (nI 2))) = (nI b9) := (ab_cg rfl rfl).trans ((AB_g hF6).trans e8.symm)
      refine lv_icmp_ge (tgt := 50) S.1 S.2.1 dX8_idle_13 (by decide) (fun c11 => ?_) (fun c11 => ?_)
      · skip
        have k12 := ci_le (nI_toInt (n := b9) (Nat.lt_of_le_of_lt hb9 (by decide))) (nI_toInt (n := q23) (by omega)) c11
        refine lv_iload_n S.1 S.2.1 dX8_idle_50 rfl (lv_at hl3 1 rfl) ?_
        have hE13 : M = x3_1 := hE4.trans ((show m_X8_idle_L6_3_b (m_X8_idle_L6_3 n3) (AB ad F) (nI q23) x3_1 = x3_1 from by unfold m_X8_idle_L6_3_b; rw [if_pos (le_cg m10 rfl c11)]).trans rfl)
        exact hret 51 _ _ dX8_idle_51 rfl (⟨trivial, hM.symm.trans hE13⟩)
      have k14 := ci_nle (nI_toInt (n := b9) (Nat.lt_of_le_of_lt hb9 (by decide))) (nI_toInt (n := q23) (by omega)) c11
      refine lv_iload_n S.1 S.2.1 dX8_idle_16 rfl (lv_at hl3 1 rfl) ?_
      refine lv_aload_n S.1 S.2.1 dX8_idle_17 rfl (lv_at hl3 2 rfl) ?_
      refine lv_iload_n S.1 S.2.1 dX8_idle_18 rfl (lv_at hl3 0 rfl) ?_
      refine r_cVp (As := [.int (nI q23)]) (rest := [.int x3_1]) S hK hZ hP hS hl3.1 58 (by decide) hF5 (C := RX8) rfl (c_X8_isBanned l D cA ad t hI F hW (q23) (by omega)) (cwV 1 S.2.2.2.2 gX8_idle_X8_isBanned rfl rfl rfl (by decide +kernel) ⟨Nat.le_of_ble_eq_true rfl, Nat.le_of_ble_eq_true rfl⟩) rfl rfl (Nat.le_of_ble_eq_true rfl) ⟨Nat.zero_le _, Nat.zero_le _⟩ dX8_idle_19 (fun r15 hr15 => ?_)
      obtain ⟨hr15, hm15⟩ := hr15
      obtain ⟨b16, hb16, rfl⟩ := hr15
      have m17 : (m_X8_isBanned (AB ad F) (nI q23)) = (nI b16) := (congr (Eq.refl (m_X8_isBanned (AB ad F))) (Eq.refl ((nI q23) : Int32))).trans hm15
      refine lv_if_eq (tgt := 31) S.1 S.2.1 dX8_idle_22 (by decide) (fun c18 => ?_) (fun c18 => ?_)
      · skip
        have k19 := ci_eq (nI_toInt (n := b16) (Nat.lt_of_le_of_lt hb16 (by decide))) z_ti c18
        refine lv_aload_n S.1 S.2.1 dX8_idle_31 rfl (lv_at hl3 2 rfl) ?_
        refine r_get S hK hP 58 (by decide) hF5 (C := RX8) (T := TX8) (N := 23) hiX8 rfl 2 (by decide) (am_at in_wsX8_idle_0 0 rfl) (v := .ref (ad 60)) rfl dX8_idle_32 ?_
        refine lv_bipush (v := (nI 12)) S.1 S.2.1 dX8_idle_35 (by decide +kernel) ?_
        refine lv_iload_n S.1 S.2.1 dX8_idle_37 rfl (lv_at hl3 0 rfl) ?_
        refine lv_iadd S.1 S.2.1 dX8_idle_38 ?_
        refine lv_topi (fun v20 e20 => ?_)
        obtain rfl : v20 = nI (12 + q23) := e20.trans (nI_add _ _)
        have m21 : ((nI 12) + (nI q23)) = (nI (12 + q23)) := cg2 (fun (x : Int32) (y : Int32) => x + y) (Eq.refl ((nI 12) : Int32)) (Eq.refl ((nI q23) : Int32)) e20
        refine r_iald S hK hP 60 (by decide) hF6 (vp_in_nI (show 12 + q23 < 52 by omega) (by omega)) dX8_idle_39 ?_
        refine lv_topi (fun v23 e23 => ?_)
        have m24 : ((AB ad F) 60 (rl ((nI 12) + (nI q23)))) = v23 := (ab_cg rfl m21).trans ((AB_g hF6).trans e23.symm)
        refine lv_iconst (v := (-1)) S.1 S.2.1 dX8_idle_40 (by decide +kernel) ?_
        refine lv_ixor S.1 S.2.1 dX8_idle_41 ?_
        refine lv_topi (fun v25 e25 => ?_)
        have m26 : (((AB ad F) 60 (rl ((nI 12) + (nI q23)))) ^^^ ((-1) : Int32)) = v25 := cg2 (fun (x : Int32) (y : Int32) => x ^^^ y) m24 (Eq.refl ((-1) : Int32)) e25
        refine lv_iand S.1 S.2.1 dX8_idle_42 ?_
        refine lv_topi (fun v27 e27 => ?_)
        have m28 : (x3_1 &&& (((AB ad F) 60 (rl ((nI 12) + (nI q23)))) ^^^ ((-1) : Int32))) = v27 := cg2 (fun (x : Int32) (y : Int32) => x &&& y) (Eq.refl (x3_1 : Int32)) m26 e27
        refine lv_istore_n (lv' := [(1, .int v27), (2, .int (nI q23)), (0, .ref (ad 58))]) S.1 S.2.1 dX8_idle_43 rfl hl3 (by decide) rfl (fun ls29 hl29 => ?_)
        have m31 : ((nI q23) + Int32.ofInt (1)) = (nI (q23 + 1)) := (congrArg (fun q : Int32 => q + Int32.ofInt (1)) rfl).trans (nI_add _ 1)
        refine lv_iinc (v := (nI (q23 + 1))) (lv' := [(2, .int (nI (q23 + 1))), (1, .int v27), (0, .ref (ad 58))]) S.1 S.2.1 dX8_idle_44 hl29 (k := 1) rfl (nI_add _ 1) (by decide) rfl (fun ls30 hl30 => ?_)
        refine lv_goto (tgt := 6) S.1 S.2.1 dX8_idle_47 (by decide) ?_
        have hE32 : M = (m_X8_idle_L6_3 n3) (AB ad F) (nI (q23 + 1)) v27 := hE4.trans ((show m_X8_idle_L6_3_b (m_X8_idle_L6_3 n3) (AB ad F) (nI q23) x3_1 = (m_X8_idle_L6_3 n3) (AB ad F) ((nI q23) + Int32.ofInt (1)) (x3_1 &&& (((AB ad F) 60 (rl ((nI 12) + (nI q23)))) ^^^ ((-1) : Int32))) from by unfold m_X8_idle_L6_3_b; rw [if_neg (nle_cg m10 rfl c11), if_pos (eq_cg m17 rfl c18)]).trans (congr (congr (congrArg ((m_X8_idle_L6_3 n3)) (rfl : AB ad F = AB ad F)) m31) m28))
        exact ih3 (q23 + 1) (v27) (by omega) (by omega) hE32 ls30 (lv_sub hl30 [0, 1, 2] rfl)
      have k33 := ci_ne (nI_toInt (n := b16) (Nat.lt_of_le_of_lt hb16 (by decide))) z_ti c18
      refine lv_sipush (v := (nI 4095)) S.1 S.2.1 dX8_idle_25 (by decide +kernel) ?_
      refine lv_goto (tgt := 42) S.1 S.2.1 dX8_idle_28 (by decide) ?_
      refine lv_iand S.1 S.2.1 dX8_idle_42 ?_
      refine lv_topi (fun v34 e34 => ?_)
      have m35 : (x3_1 &&& (nI 4095)) = v34 := cg2 (fun (x : Int32) (y : Int32) => x &&& y) (Eq.refl (x3_1 : Int32)) (Eq.refl ((nI 4095) : Int32)) e34
      refine lv_istore_n (lv' := [(1, .int v34), (2, .int (nI q23)), (0, .ref (ad 58))]) S.1 S.2.1 dX8_idle_43 rfl hl3 (by decide) rfl (fun ls36 hl36 => ?_)
      have m38 : ((nI q23) + Int32.ofInt (1)) = (nI (q23 + 1)) := (congrArg (fun q : Int32 => q + Int32.ofInt (1)) rfl).trans (nI_add _ 1)
      refine lv_iinc (v := (nI (q23 + 1))) (lv' := [(2, .int (nI (q23 + 1))), (1, .int v34), (0, .ref (ad 58))]) S.1 S.2.1 dX8_idle_44 hl36 (k := 1) rfl (nI_add _ 1) (by decide) rfl (fun ls37 hl37 => ?_)
      refine lv_goto (tgt := 6) S.1 S.2.1 dX8_idle_47 (by decide) ?_
      have hE39 : M = (m_X8_idle_L6_3 n3) (AB ad F) (nI (q23 + 1)) v34 := hE4.trans ((show m_X8_idle_L6_3_b (m_X8_idle_L6_3 n3) (AB ad F) (nI q23) x3_1 = (m_X8_idle_L6_3 n3) (AB ad F) ((nI q23) + Int32.ofInt (1)) (x3_1 &&& (nI 4095)) from by unfold m_X8_idle_L6_3_b; rw [if_neg (nle_cg m10 rfl c11), if_neg (neq_cg m17 rfl c18)]).trans (congr (congr (congrArg ((m_X8_idle_L6_3 n3)) (rfl : AB ad F = AB ad F)) m38) m35))
      exact ih3 (q23 + 1) (v34) (by omega) (by omega) hE39 ls37 (lv_sub hl37 [0, 1, 2] rfl)
  have hE40 : M = m_X8_idle_L6_3 2000 (AB ad F) (nI 0) (nI 4095) := hM.trans ((show m_X8_idle (AB ad F) = m_X8_idle_L6_3 2000 (AB ad F) (nI 0) (nI 4095) from rfl).trans (congr (congr (congrArg (m_X8_idle_L6_3 2000) (rfl : AB ad F = AB ad F)) (Eq.refl ((nI 0) : Int32))) (Eq.refl ((nI 4095) : Int32))))
  exact lp3 2000 (0) ((nI 4095)) (by omega) (by omega) hE40 ls2 (lv_sub hl2 [0, 1, 2] rfl)
noncomputable def m_X8_stranded_L4_3_b (k0 : SS → Int32 → Int32 → Int32) (σ : SS) (a0 : Int32) (a1 : Int32) : Int32 :=
  if (σ 60 (rl (nI 2))) ≤ a0 then
    a1
  else
    if (m_X8_walks σ a0 (σ 62 (rl (nI 5)))) = (0 : Int32) then
      k0 σ (a0 + Int32.ofInt (1)) (a1 ||| ((nI 1) <<< (a0 &&& 31)))
    else
      k0 σ (a0 + Int32.ofInt (1)) (a1 ||| (nI 0))
noncomputable def m_X8_stranded_L4_3 : Nat → SS → Int32 → Int32 → Int32
  | 0 => fun σ _ _ => 0
  | n + 1 => m_X8_stranded_L4_3_b (m_X8_stranded_L4_3 n)
noncomputable def m_X8_stranded (σ : SS) : Int32 :=
  m_X8_stranded_L4_3 2000 σ (nI 0) (nI 0)
set_option maxHeartbeats 4000000 in
set_option maxRecDepth 100000 in
theorem c_X8_stranded (l : Launch) (D : va_G) (cA ad : Nat → Nat) (t : Nat) (hI : rI ad) (F : Nat → va_E) (hW : WT cA ad F) : MP l D cA ad t yX8_stranded wsX8_stranded { frames := 2, cells := 0, slots := 0, locals := 48 } [.ref (ad 58)] F (fun r => (True) ∧ m_X8_stranded (AB ad F) = r) := by
  refine en_P rfl (by decide +kernel) (Nat.le_of_ble_eq_true rfl) ?_
  intro p e s m args below meth c ls0 Q S hK hZ hP hS hl0 hret
  have hl0 : lv_has ls0 3 [(0, .ref (ad 58))] := hl0
  have hiX8 : ∀ w ∈ u_ws RX8 TX8 23, w ∈ wsX8_stranded := in_wsX8_stranded_1
  obtain ⟨M, hM⟩ : ∃ M, M = m_X8_stranded (AB ad F) := ⟨_, rfl⟩
  refine lv_iconst (v := (nI 0)) S.1 S.2.1 dX8_stranded_0 (by decide +kernel) ?_
  refine lv_istore_n (lv' := [(1, .int (nI 0)), (0, .ref (ad 58))]) S.1 S.2.1 dX8_stranded_1 rfl hl0 (by decide) rfl (fun ls1 hl1 => ?_)
  refine lv_iconst (v := (nI 0)) S.1 S.2.1 dX8_stranded_2 (by decide +kernel) ?_
  refine lv_istore_n (lv' := [(2, .int (nI 0)), (1, .int (nI 0)), (0, .ref (ad 58))]) S.1 S.2.1 dX8_stranded_3 rfl hl1 (by decide) rfl (fun ls2 hl2 => ?_)
  have lp3 : ∀ (n3 : Nat) (q23 : Nat) (x3_1 : Int32), q23 ≤ 8 → 8 - q23 < n3 → M = m_X8_stranded_L4_3 n3 (AB ad F) (nI q23) x3_1 → ∀ (ls : Array Slot), lv_has ls 3 [(2, .int (nI q23)), (1, .int x3_1), (0, .ref (ad 58))] → W p l e { frames := 2, cells := 0, slots := 0, locals := 48 } s m args below meth c s.heap [] 0 0 Q (F0 m 4 ls []) := by
    intro n3
    induction n3 with
    | zero =>
      intro q23 x3_1 iv3_0 hm3 hEl3 ls3 hl3
      exact absurd hm3 (Nat.not_lt_zero _)
    | succ n3 ih3 =>
      intro q23 x3_1 iv3_0 hm3 hEl3 ls3 hl3
      have hE4 : M = m_X8_stranded_L4_3_b (m_X8_stranded_L4_3 n3) (AB ad F) (nI q23) x3_1 := hEl3
      refine lv_iload_n S.1 S.2.1 dX8_stranded_4 rfl (lv_at hl3 0 rfl) ?_
      refine lv_aload_n S.1 S.2.1 dX8_stranded_5 rfl (lv_at hl3 2 rfl) ?_
      obtain ⟨ty5, kn5, no5, en5, at5, sa5, sd5, wr5, pl5, va5, hF5, hb5_1, hb5_2, hb5_3, hb5_4, hb5_5, hb5_6⟩ := wt_m hW
      refine r_get S hK hP 58 (by decide) hF5 (C := RX8) (T := TX8) (N := 23) hiX8 rfl 2 (by decide) (am_at in_wsX8_stranded_0 0 rfl) (v := .ref (ad 60)) rfl dX8_stranded_6 ?_
      refine lv_iconst (v := (nI 2)) S.1 S.2.1 dX8_stranded_9 (by decide +kernel) ?_
      obtain ⟨g6, hF6, hg6⟩ := wt_I hW (show (60, 52) ∈ rLI by decide)
      refine r_iald S hK hP 60 (by decide) hF6 (vp_in_nI (show 2 < 52 by omega) (by omega)) dX8_stranded_10 ?_
      refine lv_topi (fun v8 e8 => ?_)
      obtain ⟨b9, hb9, he9⟩ := (pr_T (by decide) (hg6 2 (by decide))).2.1 rfl
      obtain rfl : v8 = nI b9 := e8.trans he9
      have m10 : ((AB ad F) 60 (rl (nI 2))) = (nI b9) := (ab_cg rfl rfl).trans ((AB_g hF6).trans e8.symm)
      refine lv_icmp_ge (tgt := 44) S.1 S.2.1 dX8_stranded_11 (by decide) (fun c11 => ?_) (fun c11 => ?_)
      · skip
        have k12 := ci_le (nI_toInt (n := b9) (Nat.lt_of_le_of_lt hb9 (by decide))) (nI_toInt (n := q23) (by omega)) c11
        refine lv_iload_n S.1 S.2.1 dX8_stranded_44 rfl (lv_at hl3 1 rfl) ?_
        have hE13 : M = x3_1 := hE4.trans ((show m_X8_stranded_L4_3_b (m_X8_stranded_L4_3 n3) (AB ad F) (nI q23) x3_1 = x3_1 from by unfold m_X8_stranded_L4_3_b; rw [if_pos (le_cg m10 rfl c11)]).trans rfl)
        exact hret 45 _ _ dX8_stranded_45 rfl (⟨trivial, hM.symm.trans hE13⟩)
      have k14 := ci_nle (nI_toInt (n := b9) (Nat.lt_of_le_of_lt hb9 (by decide))) (nI_toInt (n := q23) (by omega)) c11
      refine lv_iload_n S.1 S.2.1 dX8_stranded_14 rfl (lv_at hl3 1 rfl) ?_
      refine lv_aload_n S.1 S.2.1 dX8_stranded_15 rfl (lv_at hl3 2 rfl) ?_
      refine lv_iload_n S.1 S.2.1 dX8_stranded_16 rfl (lv_at hl3 0 rfl) ?_
      refine lv_aload_n S.1 S.2.1 dX8_stranded_17 rfl (lv_at hl3 2 rfl) ?_
      refine r_get S hK hP 58 (by decide) hF5 (C := RX8) (T := TX8) (N := 23) hiX8 rfl 4 (by decide) (am_at in_wsX8_stranded_0 1 rfl) (v := .ref (ad 62)) rfl dX8_stranded_18 ?_
      refine lv_iconst (v := (nI 5)) S.1 S.2.1 dX8_stranded_21 (by decide +kernel) ?_
      obtain ⟨g15, hF15, hg15⟩ := wt_I hW (show (62, 7) ∈ rLI by decide)
      refine r_iald S hK hP 62 (by decide) hF15 (vp_in_nI (show 5 < 7 by omega) (by omega)) dX8_stranded_22 ?_
      refine lv_topi (fun v17 e17 => ?_)
      have m18 : ((AB ad F) 62 (rl (nI 5))) = v17 := (ab_cg rfl rfl).trans ((AB_g hF15).trans e17.symm)
      refine r_cVp (As := [.int (nI q23), .int v17]) (rest := [.int x3_1]) S hK hZ hP hS hl3.1 58 (by decide) hF5 (C := RX8) rfl (c_X8_walks l D cA ad t hI F hW (nI q23) v17) (cwV 2 S.2.2.2.2 gX8_stranded_X8_walks rfl rfl rfl (by decide +kernel) ⟨Nat.le_of_ble_eq_true rfl, Nat.le_of_ble_eq_true rfl⟩) rfl rfl (Nat.le_of_ble_eq_true rfl) ⟨Nat.zero_le _, Nat.zero_le _⟩ dX8_stranded_23 (fun r19 hr19 => ?_)
      obtain ⟨hr19, hm19⟩ := hr19
      have m20 : (m_X8_walks (AB ad F) (nI q23) ((AB ad F) 62 (rl (nI 5)))) = r19 := (congr (congr (Eq.refl (m_X8_walks (AB ad F))) (Eq.refl ((nI q23) : Int32))) m18).trans hm19
      refine lv_if_ne (tgt := 35) S.1 S.2.1 dX8_stranded_26 (by decide) (fun c21 => ?_) (fun c21 => ?_)
      · skip
        have k22 := ci_ne rfl z_ti c21
        refine lv_iconst (v := (nI 0)) S.1 S.2.1 dX8_stranded_35 (by decide +kernel) ?_
        refine lv_ior S.1 S.2.1 dX8_stranded_36 ?_
        refine lv_topi (fun v23 e23 => ?_)
        have m24 : (x3_1 ||| (nI 0)) = v23 := cg2 (fun (x : Int32) (y : Int32) => x ||| y) (Eq.refl (x3_1 : Int32)) (Eq.refl ((nI 0) : Int32)) e23
        refine lv_istore_n (lv' := [(1, .int v23), (2, .int (nI q23)), (0, .ref (ad 58))]) S.1 S.2.1 dX8_stranded_37 rfl hl3 (by decide) rfl (fun ls25 hl25 => ?_)
        have m27 : ((nI q23) + Int32.ofInt (1)) = (nI (q23 + 1)) := (congrArg (fun q : Int32 => q + Int32.ofInt (1)) rfl).trans (nI_add _ 1)
        refine lv_iinc (v := (nI (q23 + 1))) (lv' := [(2, .int (nI (q23 + 1))), (1, .int v23), (0, .ref (ad 58))]) S.1 S.2.1 dX8_stranded_38 hl25 (k := 1) rfl (nI_add _ 1) (by decide) rfl (fun ls26 hl26 => ?_)
        refine lv_goto (tgt := 4) S.1 S.2.1 dX8_stranded_41 (by decide) ?_
        have hE28 : M = (m_X8_stranded_L4_3 n3) (AB ad F) (nI (q23 + 1)) v23 := hE4.trans ((show m_X8_stranded_L4_3_b (m_X8_stranded_L4_3 n3) (AB ad F) (nI q23) x3_1 = (m_X8_stranded_L4_3 n3) (AB ad F) ((nI q23) + Int32.ofInt (1)) (x3_1 ||| (nI 0)) from by unfold m_X8_stranded_L4_3_b; rw [if_neg (nle_cg m10 rfl c11), if_neg (neq_cg m20 rfl c21)]).trans (congr (congr (congrArg ((m_X8_stranded_L4_3 n3)) (rfl : AB ad F = AB ad F)) m27) m24))
        exact ih3 (q23 + 1) (v23) (by omega) (by omega) hE28 ls26 (lv_sub hl26 [0, 1, 2] rfl)
      have k29 := ci_eq rfl z_ti c21
      refine lv_iconst (v := (nI 1)) S.1 S.2.1 dX8_stranded_29 (by decide +kernel) ?_
      refine lv_iload_n S.1 S.2.1 dX8_stranded_30 rfl (lv_at hl3 0 rfl) ?_
      refine lv_ishl S.1 S.2.1 dX8_stranded_31 ?_
      refine lv_topi (fun v30 e30 => ?_)
      have m31 : ((nI 1) <<< ((nI q23) &&& 31)) = v30 := cg2 (fun (x : Int32) (y : Int32) => x <<< (y &&& 31)) (Eq.refl ((nI 1) : Int32)) (Eq.refl ((nI q23) : Int32)) e30
      refine lv_goto (tgt := 36) S.1 S.2.1 dX8_stranded_32 (by decide) ?_
      refine lv_ior S.1 S.2.1 dX8_stranded_36 ?_
      refine lv_topi (fun v32 e32 => ?_)
      have m33 : (x3_1 ||| ((nI 1) <<< ((nI q23) &&& 31))) = v32 := cg2 (fun (x : Int32) (y : Int32) => x ||| y) (Eq.refl (x3_1 : Int32)) m31 e32
      refine lv_istore_n (lv' := [(1, .int v32), (2, .int (nI q23)), (0, .ref (ad 58))]) S.1 S.2.1 dX8_stranded_37 rfl hl3 (by decide) rfl (fun ls34 hl34 => ?_)
      have m36 : ((nI q23) + Int32.ofInt (1)) = (nI (q23 + 1)) := (congrArg (fun q : Int32 => q + Int32.ofInt (1)) rfl).trans (nI_add _ 1)
      refine lv_iinc (v := (nI (q23 + 1))) (lv' := [(2, .int (nI (q23 + 1))), (1, .int v32), (0, .ref (ad 58))]) S.1 S.2.1 dX8_stranded_38 hl34 (k := 1) rfl (nI_add _ 1) (by decide) rfl (fun ls35 hl35 => ?_)
      refine lv_goto (tgt := 4) S.1 S.2.1 dX8_stranded_41 (by decide) ?_
      have hE37 : M = (m_X8_stranded_L4_3 n3) (AB ad F) (nI (q23 + 1)) v32 := hE4.trans ((show m_X8_stranded_L4_3_b (m_X8_stranded_L4_3 n3) (AB ad F) (nI q23) x3_1 = (m_X8_stranded_L4_3 n3) (AB ad F) ((nI q23) + Int32.ofInt (1)) (x3_1 ||| ((nI 1) <<< ((nI q23) &&& 31))) from by unfold m_X8_stranded_L4_3_b; rw [if_neg (nle_cg m10 rfl c11), if_pos (eq_cg m20 rfl c21)]).trans (congr (congr (congrArg ((m_X8_stranded_L4_3 n3)) (rfl : AB ad F = AB ad F)) m36) m33))
      exact ih3 (q23 + 1) (v32) (by omega) (by omega) hE37 ls35 (lv_sub hl35 [0, 1, 2] rfl)
  have hE38 : M = m_X8_stranded_L4_3 2000 (AB ad F) (nI 0) (nI 0) := hM.trans ((show m_X8_stranded (AB ad F) = m_X8_stranded_L4_3 2000 (AB ad F) (nI 0) (nI 0) from rfl).trans (congr (congr (congrArg (m_X8_stranded_L4_3 2000) (rfl : AB ad F = AB ad F)) (Eq.refl ((nI 0) : Int32))) (Eq.refl ((nI 0) : Int32))))
  exact lp3 2000 (0) ((nI 0)) (by omega) (by omega) hE38 ls2 (lv_sub hl2 [0, 1, 2] rfl)
set_option maxHeartbeats 4000000 in
set_option maxRecDepth 100000 in
theorem c_X8_snow (l : Launch) (D : va_G) (cA ad : Nat → Nat) (t : Nat) (hI : rI ad) (F : Nat → va_E) (hW : WT cA ad F) (p1 : Int32) (p2 : Int32) : MP l D cA ad t yX8_snow wsX8_snow { frames := 1, cells := 0, slots := 0, locals := 22 } [.ref (ad 58), .int p1, .int p2] F (fun r => r = snR p1 p2) := by
  refine en_P rfl (by decide +kernel) (Nat.le_of_ble_eq_true rfl) ?_
  intro p e s m args below meth c ls0 Q S hK hZ hP hS hl0 hret
  have hl0 : lv_has ls0 6 [(0, .ref (ad 58)), (1, .int p1), (2, .int p2)] := hl0
  refine lv_iload_n S.1 S.2.1 dX8_snow_0 rfl (lv_at hl0 1 rfl) ?_
  refine lv_iconst (v := (nI 0)) S.1 S.2.1 dX8_snow_1 (by decide +kernel) ?_
  refine lv_bipush (v := (nI 60)) S.1 S.2.1 dX8_snow_2 (by decide +kernel) ?_
  refine r_cSp (As := [.int p1, .int (nI 0), .int (nI 60)]) (rest := []) S hK hZ hP hS hl0.1 (c_X8_in l D cA ad t hI F hW p1 (nI 0) (nI 60)) (va_cwS 3 S.2.2.2.2 gX8_snow_X8_in rfl rfl rfl (by decide +kernel) ⟨Nat.le_of_ble_eq_true rfl, Nat.le_of_ble_eq_true rfl⟩) rfl rfl (Nat.le_of_ble_eq_true rfl) ⟨Nat.zero_le _, Nat.zero_le _⟩ dX8_snow_4 (fun r1 hr1 => ?_)
  obtain ⟨hr1, hm1⟩ := hr1
  obtain ⟨⟨b2, hb2, rfl⟩, hx2, hz2⟩ := hr1
  have ta3 : (p1 : Int32).toInt = p1.toInt := rfl
  have ta4 : ((nI 0) : Int32).toInt = ((0 : Nat) : Int) := (nI_toInt (n := 0) (by decide))
  have ta5 : ((nI 60) : Int32).toInt = ((60 : Nat) : Int) := (nI_toInt (n := 60) (by decide))
  have hy2 : b2 ≠ 0 → ((0 : Nat) : Int) ≤ p1.toInt ∧ p1.toInt ≤ ((60 : Nat) : Int) := fun q => by have h9 := hx2 (nI_ne0 (by omega) (by omega)); omega
  have hu2 : b2 = 0 → p1.toInt < ((0 : Nat) : Int) ∨ ((60 : Nat) : Int) < p1.toInt := fun q => by have h9 := hz2 (by rw [q]; rfl); omega
  refine lv_if_eq (tgt := 20) S.1 S.2.1 dX8_snow_7 (by decide) (fun c6 => ?_) (fun c6 => ?_)
  · skip
    have k7 := ci_eq (nI_toInt (n := b2) (Nat.lt_of_le_of_lt hb2 (by decide))) z_ti c6
    refine lv_ldc (v := (-1000000002)) S.1 S.2.1 S.2.2.2.1 (S.2.2.2.2 (.constant RX8 59 (-1000000002)) (am_at in_wsX8_snow_0 0 rfl)) dX8_snow_20 ?_
    exact hret 22 _ _ dX8_snow_22 rfl (by unfold snR; rw [if_pos (by omega)])
  have k8 := ci_ne (nI_toInt (n := b2) (Nat.lt_of_le_of_lt hb2 (by decide))) z_ti c6
  refine lv_iload_n S.1 S.2.1 dX8_snow_10 rfl (lv_at hl0 2 rfl) ?_
  refine lv_iconst (v := (nI 0)) S.1 S.2.1 dX8_snow_11 (by decide +kernel) ?_
  refine lv_bipush (v := (nI 100)) S.1 S.2.1 dX8_snow_12 (by decide +kernel) ?_
  refine r_cSp (As := [.int p2, .int (nI 0), .int (nI 100)]) (rest := []) S hK hZ hP hS hl0.1 (c_X8_in l D cA ad t hI F hW p2 (nI 0) (nI 100)) (va_cwS 3 S.2.2.2.2 gX8_snow_X8_in rfl rfl rfl (by decide +kernel) ⟨Nat.le_of_ble_eq_true rfl, Nat.le_of_ble_eq_true rfl⟩) rfl rfl (Nat.le_of_ble_eq_true rfl) ⟨Nat.zero_le _, Nat.zero_le _⟩ dX8_snow_14 (fun r9 hr9 => ?_)
  obtain ⟨hr9, hm9⟩ := hr9
  obtain ⟨⟨b10, hb10, rfl⟩, hx10, hz10⟩ := hr9
  have ta11 : (p2 : Int32).toInt = p2.toInt := rfl
  have ta12 : ((nI 0) : Int32).toInt = ((0 : Nat) : Int) := (nI_toInt (n := 0) (by decide))
  have ta13 : ((nI 100) : Int32).toInt = ((100 : Nat) : Int) := (nI_toInt (n := 100) (by decide))
  have hy10 : b10 ≠ 0 → ((0 : Nat) : Int) ≤ p2.toInt ∧ p2.toInt ≤ ((100 : Nat) : Int) := fun q => by have h9 := hx10 (nI_ne0 (by omega) (by omega)); omega
  have hu10 : b10 = 0 → p2.toInt < ((0 : Nat) : Int) ∨ ((100 : Nat) : Int) < p2.toInt := fun q => by have h9 := hz10 (by rw [q]; rfl); omega
  refine lv_if_ne (tgt := 23) S.1 S.2.1 dX8_snow_17 (by decide) (fun c14 => ?_) (fun c14 => ?_)
  · skip
    have k15 := ci_ne (nI_toInt (n := b10) (Nat.lt_of_le_of_lt hb10 (by decide))) z_ti c14
    obtain ⟨j16, hj16, rfl⟩ := nI_of_le (x := p1) (B := 60) (by omega) (by omega)
    have kj16 := nI_toInt (n := j16) (Nat.lt_of_le_of_lt hj16 (by decide))
    refine lv_ldc2 (v := 1000000000) S.1 S.2.1 S.2.2.2.1 (S.2.2.2.2 (.constantLong RX8 205 (1000000000)) (am_at in_wsX8_snow_0 1 rfl)) dX8_snow_23 ?_
    refine lv_lstore_n (lv' := [(3, .long (1000000000)), (0, .ref (ad 58)), (1, .int (nI j16)), (2, .int p2)]) S.1 S.2.1 dX8_snow_26 rfl hl0 (by decide) rfl (fun ls17 hl17 => ?_)
    refine lv_iconst (v := (nI 0)) S.1 S.2.1 dX8_snow_27 (by decide +kernel) ?_
    refine lv_istore (lv' := [(5, .int (nI 0)), (3, .long (1000000000)), (0, .ref (ad 58)), (1, .int (nI j16)), (2, .int p2)]) S.1 S.2.1 dX8_snow_28 hl17 (by decide) rfl (fun ls18 hl18 => ?_)
    have lp19 : ∀ (n19 : Nat) (q519 : Nat) (x19_3 : Int64), q519 ≤ j16 → x19_3 = snS p2 q519 → j16 - q519 < n19 → ∀ (ls : Array Slot), lv_has ls 6 [(5, .int (nI q519)), (3, .long x19_3), (0, .ref (ad 58)), (1, .int (nI j16)), (2, .int p2)] → W p l e { frames := 1, cells := 0, slots := 0, locals := 22 } s m args below meth c s.heap [] 0 0 Q (F0 m 30 ls []) := by
      intro n19
      induction n19 with
      | zero =>
        intro q519 x19_3 iv19_0 ix19_o hm19 ls19 hl19
        exact absurd hm19 (Nat.not_lt_zero _)
      | succ n19 ih19 =>
        intro q519 x19_3 iv19_0 ix19_o hm19 ls19 hl19
        refine lv_iload S.1 S.2.1 dX8_snow_30 (lv_at hl19 0 rfl) ?_
        refine lv_iload_n S.1 S.2.1 dX8_snow_32 rfl (lv_at hl19 3 rfl) ?_
        refine lv_icmp_ge (tgt := 54) S.1 S.2.1 dX8_snow_33 (by decide) (fun c20 => ?_) (fun c20 => ?_)
        · skip
          have k21 := ci_le (nI_toInt (n := j16) (Nat.lt_of_le_of_lt hj16 (by decide))) (nI_toInt (n := q519) (by omega)) c20
          refine lv_lload_n S.1 S.2.1 dX8_snow_54 rfl (lv_at hl19 1 rfl) ?_
          refine lv_l2i S.1 S.2.1 dX8_snow_55 rfl ?_
          refine lv_topi (fun v22 e22 => ?_)
          exact hret 56 _ _ dX8_snow_56 rfl (by rw [e22, ix19_o, show q519 = j16 by omega]; unfold snR; rw [if_neg (by omega), nI_clamp (by omega)])
        have k23 := ci_nle (nI_toInt (n := j16) (Nat.lt_of_le_of_lt hj16 (by decide))) (nI_toInt (n := q519) (by omega)) c20
        refine lv_lload_n S.1 S.2.1 dX8_snow_36 rfl (lv_at hl19 1 rfl) ?_
        refine lv_bipush (v := (nI 100)) S.1 S.2.1 dX8_snow_37 (by decide +kernel) ?_
        refine lv_iload_n S.1 S.2.1 dX8_snow_39 rfl (lv_at hl19 4 rfl) ?_
        refine lv_isub S.1 S.2.1 dX8_snow_40 ?_
        refine lv_topi (fun v24 e24 => ?_)
        refine lv_i2l S.1 S.2.1 dX8_snow_41 rfl ?_
        refine lv_topl (fun v25 e25 => ?_)
        refine lv_lmul S.1 S.2.1 dX8_snow_42 ?_
        refine lv_topl (fun v26 e26 => ?_)
        refine lv_ldc2 (v := 100) S.1 S.2.1 S.2.2.2.1 (S.2.2.2.2 (.constantLong RX8 207 (100)) (am_at in_wsX8_snow_0 2 rfl)) dX8_snow_43 ?_
        refine lv_ldiv S.1 S.2.1 dX8_snow_46 (by decide +kernel) ?_
        refine lv_topl (fun v27 e27 => ?_)
        refine lv_lstore_n (lv' := [(3, .long v27), (5, .int (nI q519)), (0, .ref (ad 58)), (1, .int (nI j16)), (2, .int p2)]) S.1 S.2.1 dX8_snow_47 rfl hl19 (by decide) rfl (fun ls28 hl28 => ?_)
        refine lv_iinc (v := (nI (q519 + 1))) (lv' := [(5, .int (nI (q519 + 1))), (3, .long v27), (0, .ref (ad 58)), (1, .int (nI j16)), (2, .int p2)]) S.1 S.2.1 dX8_snow_48 hl28 (k := 1) rfl (nI_add _ 1) (by decide) rfl (fun ls29 hl29 => ?_)
        refine lv_goto (tgt := 30) S.1 S.2.1 dX8_snow_51 (by decide) ?_
        exact ih19 (q519 + 1) (v27) (by omega) (by rw [e27, e26, e25, e24, ix19_o]; rfl) (by omega) ls29 (lv_sub hl29 [0, 1, 2, 3, 4] rfl)
    exact lp19 (j16 - (0) + 1) (0) ((1000000000)) (by omega) (rfl) (by omega) ls18 (lv_sub hl18 [0, 1, 2, 3, 4] rfl)
  have k30 := ci_eq (nI_toInt (n := b10) (Nat.lt_of_le_of_lt hb10 (by decide))) z_ti c14
  refine lv_ldc (v := (-1000000002)) S.1 S.2.1 S.2.2.2.1 (S.2.2.2.2 (.constant RX8 59 (-1000000002)) (am_at in_wsX8_snow_0 0 rfl)) dX8_snow_20 ?_
  exact hret 22 _ _ dX8_snow_22 rfl (by unfold snR; rw [if_pos (by omega)])
noncomputable def m_X8_seal_35 (σ : SS) (a0 : Int32) (a1 : Int32) : Int32 × SS :=
  ((σ 58 11), σ)
noncomputable def m_X8_seal_28 (σ : SS) (a0 : Int32) (a1 : Int32) : Int32 × SS :=
  m_X8_seal_35 (st σ 58 11 ((σ 58 11) + (nI 1))) a0 a1
noncomputable def m_X8_seal (σ : SS) (a0 : Int32) (a1 : Int32) : Int32 × SS :=
  if (m_X8_isTown σ a0) = (0 : Int32) then
    (((-1000000001) : Int32), σ)
  else
    if (m_X8_in σ a1 (nI 0) (nI 47)) = (0 : Int32) then
      (((-1000000002) : Int32), σ)
    else
      if (σ 58 11) = (nI 8) then
        (((-1000000004) : Int32), σ)
      else
        m_X8_seal_28 (st σ 66 (rl (σ 58 11)) (((nI 48) * a0) + a1)) a0 a1
set_option maxHeartbeats 4000000 in
set_option maxRecDepth 100000 in
theorem c_X8_seal (l : Launch) (D : va_G) (cA ad : Nat → Nat) (t : Nat) (hI : rI ad) (F : Nat → va_E) (hW : WT cA ad F) (p1 : Int32) (p2 : Int32) : MI l D cA ad t yX8_seal wsX8_seal { frames := 2, cells := 0, slots := 0, locals := 43 } [.ref (ad 58), .int p1, .int p2] F (fun r F' => WT cA ad F' ∧ rFr [58, 66] F F' ∧ ((fN (F' 58) 1 = fN (F 58) 1) ∧ m_X8_seal (AB ad F) p1 p2 = (r, AB ad F'))) := by
  refine en_I rfl (by decide +kernel) (Nat.le_of_ble_eq_true rfl) ?_
  intro p e s m args below meth c ls0 Q S hK hZ hP hS hl0 hret
  have hl0 : lv_has ls0 3 [(0, .ref (ad 58)), (1, .int p1), (2, .int p2)] := hl0
  have hFr : rFr [58, 66] F F := rFr.rf
  have hiX8 : ∀ w ∈ u_ws RX8 TX8 23, w ∈ wsX8_seal := in_wsX8_seal_1
  obtain ⟨M, hM⟩ : ∃ M, M = m_X8_seal (AB ad F) p1 p2 := ⟨_, rfl⟩
  obtain ⟨ty1, kn1, no1, en1, at1, sa1, sd1, wr1, pl1, va1, hF1, hb1_1, hb1_2, hb1_3, hb1_4, hb1_5, hb1_6⟩ := wt_m hW
  have hA2 := fN_of (k := 14) (a := at1) hF1 rfl (Nat.lt_of_le_of_lt hb1_5 (by decide))
  have hL2 := fN_of (k := 1) (a := ty1) hF1 rfl (Nat.lt_of_le_of_lt hb1_1 (by decide))
  refine lv_aload_n S.1 S.2.1 dX8_seal_0 rfl (lv_at hl0 0 rfl) ?_
  refine lv_iload_n S.1 S.2.1 dX8_seal_1 rfl (lv_at hl0 1 rfl) ?_
  refine r_cVp (As := [.int p1]) (rest := []) S hK hZ hP hS hl0.1 58 (by decide) hF1 (C := RX8) rfl (c_X8_isTown l D cA ad t hI F hW p1) (cwV 1 S.2.2.2.2 gX8_seal_X8_isTown rfl rfl rfl (by decide +kernel) ⟨Nat.le_of_ble_eq_true rfl, Nat.le_of_ble_eq_true rfl⟩) rfl rfl (Nat.le_of_ble_eq_true rfl) ⟨Nat.zero_le _, Nat.zero_le _⟩ dX8_seal_2 (fun r3 hr3 => ?_)
  obtain ⟨hr3, hm3⟩ := hr3
  obtain ⟨⟨b4, hb4, rfl⟩, hx4⟩ := hr3
  have hx4 : b4 ≠ 0 → 0 ≤ p1.toInt ∧ p1.toInt ≤ _ := fun q => hx4 (nI_ne0 (by omega) (by omega))
  have m5 : (m_X8_isTown (AB ad F) p1) = (nI b4) := (congr (Eq.refl (m_X8_isTown (AB ad F))) (Eq.refl (p1 : Int32))).trans hm3
  refine lv_if_ne (tgt := 11) S.1 S.2.1 dX8_seal_5 (by decide) (fun c6 => ?_) (fun c6 => ?_)
  · skip
    have k7 := ci_ne (nI_toInt (n := b4) (Nat.lt_of_le_of_lt hb4 (by decide))) z_ti c6
    obtain ⟨j8, hj8, rfl⟩ := nI_of_le (x := p1) (B := 7) (by omega) (by omega)
    have kj8 := nI_toInt (n := j8) (Nat.lt_of_le_of_lt hj8 (by decide))
    refine lv_iload_n S.1 S.2.1 dX8_seal_11 rfl (lv_at hl0 2 rfl) ?_
    refine lv_iconst (v := (nI 0)) S.1 S.2.1 dX8_seal_12 (by decide +kernel) ?_
    refine lv_bipush (v := (nI 47)) S.1 S.2.1 dX8_seal_13 (by decide +kernel) ?_
    refine r_cSp (As := [.int p2, .int (nI 0), .int (nI 47)]) (rest := []) S hK hZ hP hS hl0.1 (c_X8_in l D cA ad t hI F hW p2 (nI 0) (nI 47)) (va_cwS 3 S.2.2.2.2 gX8_seal_X8_in rfl rfl rfl (by decide +kernel) ⟨Nat.le_of_ble_eq_true rfl, Nat.le_of_ble_eq_true rfl⟩) rfl rfl (Nat.le_of_ble_eq_true rfl) ⟨Nat.zero_le _, Nat.zero_le _⟩ dX8_seal_15 (fun r9 hr9 => ?_)
    obtain ⟨hr9, hm9⟩ := hr9
    obtain ⟨⟨b10, hb10, rfl⟩, hx10, hz10⟩ := hr9
    have ta11 : (p2 : Int32).toInt = p2.toInt := rfl
    have ta12 : ((nI 0) : Int32).toInt = ((0 : Nat) : Int) := (nI_toInt (n := 0) (by decide))
    have ta13 : ((nI 47) : Int32).toInt = ((47 : Nat) : Int) := (nI_toInt (n := 47) (by decide))
    have hy10 : b10 ≠ 0 → ((0 : Nat) : Int) ≤ p2.toInt ∧ p2.toInt ≤ ((47 : Nat) : Int) := fun q => by have h9 := hx10 (nI_ne0 (by omega) (by omega)); omega
    have hu10 : b10 = 0 → p2.toInt < ((0 : Nat) : Int) ∨ ((47 : Nat) : Int) < p2.toInt := fun q => by have h9 := hz10 (by rw [q]; rfl); omega
    have m14 : (m_X8_in (AB ad F) p2 (nI 0) (nI 47)) = (nI b10) := (congr (congr (congr (Eq.refl (m_X8_in (AB ad F))) (Eq.refl (p2 : Int32))) (Eq.refl ((nI 0) : Int32))) (Eq.refl ((nI 47) : Int32))).trans hm9
    refine lv_if_ne (tgt := 24) S.1 S.2.1 dX8_seal_18 (by decide) (fun c15 => ?_) (fun c15 => ?_)
    · skip
      have k16 := ci_ne (nI_toInt (n := b10) (Nat.lt_of_le_of_lt hb10 (by decide))) z_ti c15
      obtain ⟨j17, hj17, rfl⟩ := nI_of_le (x := p2) (B := 47) (by omega) (by omega)
      have kj17 := nI_toInt (n := j17) (Nat.lt_of_le_of_lt hj17 (by decide))
      refine lv_aload_n S.1 S.2.1 dX8_seal_24 rfl (lv_at hl0 0 rfl) ?_
      refine r_get S hK hP 58 (by decide) hF1 (C := RX8) (T := TX8) (N := 23) hiX8 rfl 11 (by decide) (am_at in_wsX8_seal_0 2 rfl) (v := .int (nI no1)) rfl dX8_seal_25 ?_
      have m18 : ((AB ad F) 58 11) = (nI no1) := AB_f hF1 rfl
      refine lv_bipush (v := (nI 8)) S.1 S.2.1 dX8_seal_28 (by decide +kernel) ?_
      refine lv_icmp_ne (tgt := 36) S.1 S.2.1 dX8_seal_30 (by decide) (fun c19 => ?_) (fun c19 => ?_)
      · skip
        have k20 := ci_ne (nI_toInt (n := no1) (by omega)) (nI_toInt (n := 8) (by decide)) c19
        refine lv_aload_n S.1 S.2.1 dX8_seal_36 rfl (lv_at hl0 0 rfl) ?_
        refine r_get S hK hP 58 (by decide) hF1 (C := RX8) (T := TX8) (N := 23) hiX8 rfl 10 (by decide) (am_at in_wsX8_seal_0 4 rfl) (v := .ref (ad 66)) rfl dX8_seal_37 ?_
        refine lv_aload_n S.1 S.2.1 dX8_seal_40 rfl (lv_at hl0 0 rfl) ?_
        refine r_get S hK hP 58 (by decide) hF1 (C := RX8) (T := TX8) (N := 23) hiX8 rfl 11 (by decide) (am_at in_wsX8_seal_0 2 rfl) (v := .int (nI no1)) rfl dX8_seal_41 ?_
        have m21 : ((AB ad F) 58 11) = (nI no1) := AB_f hF1 rfl
        refine lv_bipush (v := (nI 48)) S.1 S.2.1 dX8_seal_44 (by decide +kernel) ?_
        refine lv_iload_n S.1 S.2.1 dX8_seal_46 rfl (lv_at hl0 1 rfl) ?_
        refine lv_imul S.1 S.2.1 dX8_seal_47 ?_
        refine lv_topi (fun v22 e22 => ?_)
        obtain rfl : v22 = nI (48 * j8) := e22.trans (pk_mul _ _)
        have m23 : ((nI 48) * (nI j8)) = (nI (48 * j8)) := cg2 (fun (x : Int32) (y : Int32) => x * y) (Eq.refl ((nI 48) : Int32)) (Eq.refl ((nI j8) : Int32)) e22
        refine lv_iload_n S.1 S.2.1 dX8_seal_48 rfl (lv_at hl0 2 rfl) ?_
        refine lv_iadd S.1 S.2.1 dX8_seal_49 ?_
        refine lv_topi (fun v24 e24 => ?_)
        obtain rfl : v24 = nI ((48 * j8) + j17) := e24.trans (nI_add _ _)
        have m25 : (((nI 48) * (nI j8)) + (nI j17)) = (nI ((48 * j8) + j17)) := cg2 (fun (x : Int32) (y : Int32) => x + y) m23 (Eq.refl ((nI j17) : Int32)) e24
        obtain ⟨g26, hF26, hg26⟩ := wt_I hW (show (66, 8) ∈ rLI by decide)
        refine r_iast S hI hK hP hS 66 (by decide) hF26 (vp_in_nI (show no1 < 8 by omega) (by omega)) dX8_seal_50 (fun F27 H27 locs27 eF27 hP27 hS27 => ?_)
        have hW27 := hW.up eF27 (ok_I (show (66, 8) ∈ rLI by decide) (okI_up hg26 (by rw [nI_clamp (by omega)]; exact to_N (⟨(48 * j8) + j17, by omega, rfl⟩))))
        have hFr27 := hFr.up eF27 (by simp <;> first | omega | (simp only [isC, isJ] at *; omega))
        have hE29 : M = m_X8_seal_28 (AB ad F27) (nI j8) (nI j17) := hM.trans ((show m_X8_seal (AB ad F) (nI j8) (nI j17) = m_X8_seal_28 (st (AB ad F) 66 (rl ((AB ad F) 58 11)) (((nI 48) * (nI j8)) + (nI j17))) (nI j8) (nI j17) from by unfold m_X8_seal; rw [if_neg (neq_cg m5 rfl c6), if_neg (neq_cg m14 rfl c15), if_neg (neq_cg m18 rfl c19)]).trans (congr (congr (congrArg (m_X8_seal_28) ((st_cg rfl (congrArg rl m21) m25).trans (AB_ast hF26 eF27).symm)) (Eq.refl ((nI j8) : Int32))) (Eq.refl ((nI j17) : Int32))))
        refine lv_aload_n S.1 S.2.1 dX8_seal_51 rfl (lv_at hl0 0 rfl) ?_
        refine lv_dup S.1 S.2.1 dX8_seal_52 rfl ?_
        have hF30 := (show F27 58 = F 58 by rw [eF27]; exact va_up_ne _ _ (by decide)).trans hF1
        refine r_get S hK hP27 58 (by decide) hF30 (C := RX8) (T := TX8) (N := 23) hiX8 rfl 11 (by decide) (am_at in_wsX8_seal_0 2 rfl) (v := .int (nI no1)) rfl dX8_seal_53 ?_
        have m31 : ((AB ad F27) 58 11) = (nI no1) := AB_f hF30 rfl
        refine lv_iconst (v := (nI 1)) S.1 S.2.1 dX8_seal_56 (by decide +kernel) ?_
        refine lv_iadd S.1 S.2.1 dX8_seal_57 ?_
        refine lv_topi (fun v32 e32 => ?_)
        obtain rfl : v32 = nI (no1 + 1) := e32.trans (nI_add _ _)
        have m33 : (((AB ad F27) 58 11) + (nI 1)) = (nI (no1 + 1)) := cg2 (fun (x : Int32) (y : Int32) => x + y) m31 (Eq.refl ((nI 1) : Int32)) e32
        refine r_put S hI hK hP27 hS27 58 (by decide) hF30 (C := RX8) (T := TX8) (N := 23) hiX8 tyX8_ok nmX8 rfl 11 (by decide) (am_at in_wsX8_seal_0 2 rfl) rfl rfl rfl (Nat.le_of_ble_eq_true rfl) dX8_seal_58 (fun F34 H34 locs34 eF34 hP34 hS34 => ?_)
        have hF34 : F34 58 = .inr (8, [.ref (ad 59), .int (nI ty1), .ref (ad 60), .ref (ad 61), .ref (ad 62), .ref (ad 63), .int (nI kn1), .ref (ad 64), .ref (ad 65), .int sd1, .ref (ad 66), .int (nI (no1 + 1)), .ref (ad 67), .int (nI en1), .int (nI at1), .int wr1, .int pl1, .int va1, .int (nI sa1), .ref (ad 68), .ref (ad 69), .ref (ad 70), .ref (ad 71)]) := by rw [eF34]; exact va_up_self _ _ _
        have hW34 := hW27.up eF34 (ok_m ⟨ty1, kn1, no1 + 1, en1, at1, sa1, sd1, wr1, pl1, va1, rfl, by omega, by omega, by omega, by omega, by omega, by omega⟩)
        have hFr34 := hFr27.up eF34 (by simp <;> first | omega | (simp only [isC, isJ] at *; omega))
        have hE36 : M = m_X8_seal_35 (AB ad F34) (nI j8) (nI j17) := hE29.trans ((show m_X8_seal_28 (AB ad F27) (nI j8) (nI j17) = m_X8_seal_35 (st (AB ad F27) 58 11 (((AB ad F27) 58 11) + (nI 1))) (nI j8) (nI j17) from rfl).trans (congr (congr (congrArg (m_X8_seal_35) ((st_cg rfl rfl m33).trans (AB_put hF30 (Nat.le_of_ble_eq_true rfl) eF34).symm)) (Eq.refl ((nI j8) : Int32))) (Eq.refl ((nI j17) : Int32))))
        refine lv_aload_n S.1 S.2.1 dX8_seal_61 rfl (lv_at hl0 0 rfl) ?_
        refine r_get S hK hP34 58 (by decide) hF34 (C := RX8) (T := TX8) (N := 23) hiX8 rfl 11 (by decide) (am_at in_wsX8_seal_0 2 rfl) (v := .int (nI (no1 + 1))) rfl dX8_seal_62 ?_
        have m37 : ((AB ad F34) 58 11) = (nI (no1 + 1)) := AB_f hF34 rfl
        have hA38 := fN_of (k := 14) (a := at1) hF34 rfl (Nat.lt_of_le_of_lt hb1_5 (by decide))
        have hL38 := fN_of (k := 1) (a := ty1) hF34 rfl (Nat.lt_of_le_of_lt hb1_1 (by decide))
        have hE39 : M = ((nI (no1 + 1)), AB ad F34) := hE36.trans ((show m_X8_seal_35 (AB ad F34) (nI j8) (nI j17) = (((AB ad F34) 58 11), (AB ad F34)) from rfl).trans (congrArg (fun q => (q, AB ad F34)) m37))
        exact hret 65 _ _ _ _ _ dX8_seal_65 rfl hP34 hS34 ⟨hW34, hFr34, ⟨by omega, hM.symm.trans hE39⟩⟩
      have k40 := ci_eq (nI_toInt (n := no1) (by omega)) (nI_toInt (n := 8) (by decide)) c19
      refine lv_ldc (v := (-1000000004)) S.1 S.2.1 S.2.2.2.1 (S.2.2.2.2 (.constant RX8 63 (-1000000004)) (am_at in_wsX8_seal_0 3 rfl)) dX8_seal_33 ?_
      have hA41 := fN_of (k := 14) (a := at1) hF1 rfl (Nat.lt_of_le_of_lt hb1_5 (by decide))
      have hL41 := fN_of (k := 1) (a := ty1) hF1 rfl (Nat.lt_of_le_of_lt hb1_1 (by decide))
      have hE42 : M = ((-1000000004), AB ad F) := hM.trans ((show m_X8_seal (AB ad F) (nI j8) (nI j17) = (((-1000000004) : Int32), (AB ad F)) from by unfold m_X8_seal; rw [if_neg (neq_cg m5 rfl c6), if_neg (neq_cg m14 rfl c15), if_pos (eq_cg m18 rfl c19)]).trans (congrArg (fun q => (q, AB ad F)) rfl))
      exact hret 35 _ _ _ _ _ dX8_seal_35 rfl hP hS ⟨hW, hFr, ⟨by omega, hM.symm.trans hE42⟩⟩
    have k43 := ci_eq (nI_toInt (n := b10) (Nat.lt_of_le_of_lt hb10 (by decide))) z_ti c15
    refine lv_ldc (v := (-1000000002)) S.1 S.2.1 S.2.2.2.1 (S.2.2.2.2 (.constant RX8 59 (-1000000002)) (am_at in_wsX8_seal_0 1 rfl)) dX8_seal_21 ?_
    have hA44 := fN_of (k := 14) (a := at1) hF1 rfl (Nat.lt_of_le_of_lt hb1_5 (by decide))
    have hL44 := fN_of (k := 1) (a := ty1) hF1 rfl (Nat.lt_of_le_of_lt hb1_1 (by decide))
    have hE45 : M = ((-1000000002), AB ad F) := hM.trans ((show m_X8_seal (AB ad F) (nI j8) p2 = (((-1000000002) : Int32), (AB ad F)) from by unfold m_X8_seal; rw [if_neg (neq_cg m5 rfl c6), if_pos (eq_cg m14 rfl c15)]).trans (congrArg (fun q => (q, AB ad F)) rfl))
    exact hret 23 _ _ _ _ _ dX8_seal_23 rfl hP hS ⟨hW, hFr, ⟨by omega, hM.symm.trans hE45⟩⟩
  have k46 := ci_eq (nI_toInt (n := b4) (Nat.lt_of_le_of_lt hb4 (by decide))) z_ti c6
  refine lv_ldc (v := (-1000000001)) S.1 S.2.1 S.2.2.2.1 (S.2.2.2.2 (.constant RX8 126 (-1000000001)) (am_at in_wsX8_seal_0 0 rfl)) dX8_seal_8 ?_
  have hA47 := fN_of (k := 14) (a := at1) hF1 rfl (Nat.lt_of_le_of_lt hb1_5 (by decide))
  have hL47 := fN_of (k := 1) (a := ty1) hF1 rfl (Nat.lt_of_le_of_lt hb1_1 (by decide))
  have hE48 : M = ((-1000000001), AB ad F) := hM.trans ((show m_X8_seal (AB ad F) p1 p2 = (((-1000000001) : Int32), (AB ad F)) from by unfold m_X8_seal; rw [if_pos (eq_cg m5 rfl c6)]).trans (congrArg (fun q => (q, AB ad F)) rfl))
  exact hret 10 _ _ _ _ _ dX8_seal_10 rfl hP hS ⟨hW, hFr, ⟨by omega, hM.symm.trans hE48⟩⟩
noncomputable def m_X8_onlyIn_L5_3_b (k0 : SS → Int32 → Int32 → Int32 → Int32 → Int32) (σ : SS) (a0 : Int32) (a1 : Int32) (a2 : Int32) (a3 : Int32) : Int32 :=
  if (σ 58 11) ≤ a0 then
    a1
  else
    if a0 = a3 then
      k0 σ (a0 + Int32.ofInt (1)) a1 a2 a3
    else
      if (irm (σ 66 (rl a0)) (nI 48)) = a2 then
        if (m_X8_hasWork σ ((σ 66 (rl a0)) / (nI 48)) a2) = (0 : Int32) then
          k0 σ (a0 + Int32.ofInt (1)) ((-2) : Int32) a2 a3
        else
          if a1 = ((-1) : Int32) then
            k0 σ (a0 + Int32.ofInt (1)) ((σ 66 (rl a0)) / (nI 48)) a2 a3
          else
            if a1 = ((σ 66 (rl a0)) / (nI 48)) then
              k0 σ (a0 + Int32.ofInt (1)) ((σ 66 (rl a0)) / (nI 48)) a2 a3
            else
              k0 σ (a0 + Int32.ofInt (1)) ((-2) : Int32) a2 a3
      else
        k0 σ (a0 + Int32.ofInt (1)) a1 a2 a3
noncomputable def m_X8_onlyIn_L5_3 : Nat → SS → Int32 → Int32 → Int32 → Int32 → Int32
  | 0 => fun σ _ _ _ _ => 0
  | n + 1 => m_X8_onlyIn_L5_3_b (m_X8_onlyIn_L5_3 n)
noncomputable def m_X8_onlyIn (σ : SS) (a0 : Int32) (a1 : Int32) : Int32 :=
  m_X8_onlyIn_L5_3 2000 σ (nI 0) ((-1) : Int32) a0 a1
set_option maxHeartbeats 4000000 in
set_option maxRecDepth 100000 in
theorem c_X8_onlyIn (l : Launch) (D : va_G) (cA ad : Nat → Nat) (t : Nat) (hI : rI ad) (F : Nat → va_E) (hW : WT cA ad F) (p1 : Int32) (p2 : Int32) : MP l D cA ad t yX8_onlyIn wsX8_onlyIn { frames := 1, cells := 0, slots := 0, locals := 22 } [.ref (ad 58), .int p1, .int p2] F (fun r => (True) ∧ m_X8_onlyIn (AB ad F) p1 p2 = r) := by
  refine en_P rfl (by decide +kernel) (Nat.le_of_ble_eq_true rfl) ?_
  intro p e s m args below meth c ls0 Q S hK hZ hP hS hl0 hret
  have hl0 : lv_has ls0 6 [(0, .ref (ad 58)), (1, .int p1), (2, .int p2)] := hl0
  have hiX8 : ∀ w ∈ u_ws RX8 TX8 23, w ∈ wsX8_onlyIn := in_wsX8_onlyIn_1
  obtain ⟨M, hM⟩ : ∃ M, M = m_X8_onlyIn (AB ad F) p1 p2 := ⟨_, rfl⟩
  refine lv_iconst (v := (-1)) S.1 S.2.1 dX8_onlyIn_0 (by decide +kernel) ?_
  refine lv_istore_n (lv' := [(3, .int (-1)), (0, .ref (ad 58)), (1, .int p1), (2, .int p2)]) S.1 S.2.1 dX8_onlyIn_1 rfl hl0 (by decide) rfl (fun ls1 hl1 => ?_)
  refine lv_iconst (v := (nI 0)) S.1 S.2.1 dX8_onlyIn_2 (by decide +kernel) ?_
  refine lv_istore (lv' := [(4, .int (nI 0)), (3, .int (-1)), (0, .ref (ad 58)), (1, .int p1), (2, .int p2)]) S.1 S.2.1 dX8_onlyIn_3 hl1 (by decide) rfl (fun ls2 hl2 => ?_)
  have lp3 : ∀ (n3 : Nat) (q43 : Nat) (x3_3 : Int32), q43 ≤ 8 → 8 - q43 < n3 → M = m_X8_onlyIn_L5_3 n3 (AB ad F) (nI q43) x3_3 p1 p2 → ∀ (ls : Array Slot), lv_has ls 6 [(4, .int (nI q43)), (3, .int x3_3), (0, .ref (ad 58)), (1, .int p1), (2, .int p2)] → W p l e { frames := 1, cells := 0, slots := 0, locals := 22 } s m args below meth c s.heap [] 0 0 Q (F0 m 5 ls []) := by
    intro n3
    induction n3 with
    | zero =>
      intro q43 x3_3 iv3_0 hm3 hEl3 ls3 hl3
      exact absurd hm3 (Nat.not_lt_zero _)
    | succ n3 ih3 =>
      intro q43 x3_3 iv3_0 hm3 hEl3 ls3 hl3
      have hE4 : M = m_X8_onlyIn_L5_3_b (m_X8_onlyIn_L5_3 n3) (AB ad F) (nI q43) x3_3 p1 p2 := hEl3
      refine lv_iload S.1 S.2.1 dX8_onlyIn_5 (lv_at hl3 0 rfl) ?_
      refine lv_aload_n S.1 S.2.1 dX8_onlyIn_7 rfl (lv_at hl3 2 rfl) ?_
      obtain ⟨ty5, kn5, no5, en5, at5, sa5, sd5, wr5, pl5, va5, hF5, hb5_1, hb5_2, hb5_3, hb5_4, hb5_5, hb5_6⟩ := wt_m hW
      refine r_get S hK hP 58 (by decide) hF5 (C := RX8) (T := TX8) (N := 23) hiX8 rfl 11 (by decide) (am_at in_wsX8_onlyIn_0 0 rfl) (v := .int (nI no5)) rfl dX8_onlyIn_8 ?_
      have m6 : ((AB ad F) 58 11) = (nI no5) := AB_f hF5 rfl
      refine lv_icmp_ge (tgt := 81) S.1 S.2.1 dX8_onlyIn_11 (by decide) (fun c7 => ?_) (fun c7 => ?_)
      · skip
        have k8 := ci_le (nI_toInt (n := no5) (by omega)) (nI_toInt (n := q43) (by omega)) c7
        refine lv_iload_n S.1 S.2.1 dX8_onlyIn_81 rfl (lv_at hl3 1 rfl) ?_
        have hE9 : M = x3_3 := hE4.trans ((show m_X8_onlyIn_L5_3_b (m_X8_onlyIn_L5_3 n3) (AB ad F) (nI q43) x3_3 p1 p2 = x3_3 from by unfold m_X8_onlyIn_L5_3_b; rw [if_pos (le_cg m6 rfl c7)]).trans rfl)
        exact hret 82 _ _ dX8_onlyIn_82 rfl (⟨trivial, hM.symm.trans hE9⟩)
      have k10 := ci_nle (nI_toInt (n := no5) (by omega)) (nI_toInt (n := q43) (by omega)) c7
      refine lv_aload_n S.1 S.2.1 dX8_onlyIn_14 rfl (lv_at hl3 2 rfl) ?_
      refine r_get S hK hP 58 (by decide) hF5 (C := RX8) (T := TX8) (N := 23) hiX8 rfl 10 (by decide) (am_at in_wsX8_onlyIn_0 1 rfl) (v := .ref (ad 66)) rfl dX8_onlyIn_15 ?_
      refine lv_iload S.1 S.2.1 dX8_onlyIn_18 (lv_at hl3 0 rfl) ?_
      obtain ⟨g11, hF11, hg11⟩ := wt_I hW (show (66, 8) ∈ rLI by decide)
      refine r_iald S hK hP 66 (by decide) hF11 (vp_in_nI (show q43 < 8 by omega) (by omega)) dX8_onlyIn_20 ?_
      refine lv_topi (fun v13 e13 => ?_)
      obtain ⟨b14, hb14, he14⟩ := pr_N (hg11 (q43) (by omega))
      obtain rfl : v13 = nI b14 := by rw [e13, nI_clamp (by omega)]; exact he14
      have m15 : ((AB ad F) 66 (rl (nI q43))) = (nI b14) := (ab_cg rfl rfl).trans ((AB_g hF11).trans e13.symm)
      refine lv_bipush (v := (nI 48)) S.1 S.2.1 dX8_onlyIn_21 (by decide +kernel) ?_
      refine lv_idiv S.1 S.2.1 dX8_onlyIn_23 (by decide +kernel) ?_
      refine lv_topi (fun v16 e16 => ?_)
      obtain rfl : v16 = nI (b14 / 48) := e16.trans (pk_div (by omega) (by omega) (by omega))
      have m17 : (((AB ad F) 66 (rl (nI q43))) / (nI 48)) = (nI (b14 / 48)) := cg2 (fun (x : Int32) (y : Int32) => x / y) m15 (Eq.refl ((nI 48) : Int32)) e16
      refine lv_istore (lv' := [(5, .int (nI (b14 / 48))), (4, .int (nI q43)), (3, .int x3_3), (0, .ref (ad 58)), (1, .int p1), (2, .int p2)]) S.1 S.2.1 dX8_onlyIn_24 hl3 (by decide) rfl (fun ls18 hl18 => ?_)
      refine lv_iload S.1 S.2.1 dX8_onlyIn_26 (lv_at hl18 1 rfl) ?_
      refine lv_iload_n S.1 S.2.1 dX8_onlyIn_28 rfl (lv_at hl18 5 rfl) ?_
      refine lv_icmp_eq (tgt := 75) S.1 S.2.1 dX8_onlyIn_29 (by decide) (fun c19 => ?_) (fun c19 => ?_)
      · skip
        have k20 := ci_eq (nI_toInt (n := q43) (by omega)) rfl c19
        have m22 : ((nI q43) + Int32.ofInt (1)) = (nI (q43 + 1)) := (congrArg (fun q : Int32 => q + Int32.ofInt (1)) rfl).trans (nI_add _ 1)
        refine lv_iinc (v := (nI (q43 + 1))) (lv' := [(4, .int (nI (q43 + 1))), (5, .int (nI (b14 / 48))), (3, .int x3_3), (0, .ref (ad 58)), (1, .int p1), (2, .int p2)]) S.1 S.2.1 dX8_onlyIn_75 hl18 (k := 1) rfl (nI_add _ 1) (by decide) rfl (fun ls21 hl21 => ?_)
        refine lv_goto (tgt := 5) S.1 S.2.1 dX8_onlyIn_78 (by decide) ?_
        have hE23 : M = (m_X8_onlyIn_L5_3 n3) (AB ad F) (nI (q43 + 1)) x3_3 p1 p2 := hE4.trans ((show m_X8_onlyIn_L5_3_b (m_X8_onlyIn_L5_3 n3) (AB ad F) (nI q43) x3_3 p1 p2 = (m_X8_onlyIn_L5_3 n3) (AB ad F) ((nI q43) + Int32.ofInt (1)) x3_3 p1 p2 from by unfold m_X8_onlyIn_L5_3_b; rw [if_neg (nle_cg m6 rfl c7), if_pos (eq_cg rfl rfl c19)]).trans (congr (congr (congr (congr (congrArg ((m_X8_onlyIn_L5_3 n3)) (rfl : AB ad F = AB ad F)) m22) (Eq.refl (x3_3 : Int32))) (Eq.refl (p1 : Int32))) (Eq.refl (p2 : Int32))))
        exact ih3 (q43 + 1) (x3_3) (by omega) (by omega) hE23 ls21 (lv_sub hl21 [0, 2, 3, 4, 5] rfl)
      have k24 := ci_ne (nI_toInt (n := q43) (by omega)) rfl c19
      refine lv_aload_n S.1 S.2.1 dX8_onlyIn_32 rfl (lv_at hl18 3 rfl) ?_
      refine r_get S hK hP 58 (by decide) hF5 (C := RX8) (T := TX8) (N := 23) hiX8 rfl 10 (by decide) (am_at in_wsX8_onlyIn_0 1 rfl) (v := .ref (ad 66)) rfl dX8_onlyIn_33 ?_
      refine lv_iload S.1 S.2.1 dX8_onlyIn_36 (lv_at hl18 1 rfl) ?_
      refine r_iald S hK hP 66 (by decide) hF11 (vp_in_nI (show q43 < 8 by omega) (by omega)) dX8_onlyIn_38 ?_
      refine lv_topi (fun v26 e26 => ?_)
      obtain ⟨b27, hb27, he27⟩ := pr_N (hg11 (q43) (by omega))
      obtain rfl : v26 = nI b27 := by rw [e26, nI_clamp (by omega)]; exact he27
      have m28 : ((AB ad F) 66 (rl (nI q43))) = (nI b27) := (ab_cg rfl rfl).trans ((AB_g hF11).trans e26.symm)
      refine lv_bipush (v := (nI 48)) S.1 S.2.1 dX8_onlyIn_39 (by decide +kernel) ?_
      refine lv_irem S.1 S.2.1 dX8_onlyIn_41 (by decide +kernel) ?_
      refine lv_topi (fun v29 e29 => ?_)
      obtain rfl : v29 = nI (b27 % 48) := e29.trans (pk_rem (by omega) (by omega) (by omega))
      have m30 : (irm ((AB ad F) 66 (rl (nI q43))) (nI 48)) = (nI (b27 % 48)) := cg2 (fun (x : Int32) (y : Int32) => irm x y) m28 (Eq.refl ((nI 48) : Int32)) e29
      refine lv_iload_n S.1 S.2.1 dX8_onlyIn_42 rfl (lv_at hl18 4 rfl) ?_
      refine lv_icmp_ne (tgt := 75) S.1 S.2.1 dX8_onlyIn_43 (by decide) (fun c31 => ?_) (fun c31 => ?_)
      · skip
        have k32 := ci_ne (nI_toInt (n := b27 % 48) (by omega)) rfl c31
        have m34 : ((nI q43) + Int32.ofInt (1)) = (nI (q43 + 1)) := (congrArg (fun q : Int32 => q + Int32.ofInt (1)) rfl).trans (nI_add _ 1)
        refine lv_iinc (v := (nI (q43 + 1))) (lv' := [(4, .int (nI (q43 + 1))), (5, .int (nI (b14 / 48))), (3, .int x3_3), (0, .ref (ad 58)), (1, .int p1), (2, .int p2)]) S.1 S.2.1 dX8_onlyIn_75 hl18 (k := 1) rfl (nI_add _ 1) (by decide) rfl (fun ls33 hl33 => ?_)
        refine lv_goto (tgt := 5) S.1 S.2.1 dX8_onlyIn_78 (by decide) ?_
        have hE35 : M = (m_X8_onlyIn_L5_3 n3) (AB ad F) (nI (q43 + 1)) x3_3 p1 p2 := hE4.trans ((show m_X8_onlyIn_L5_3_b (m_X8_onlyIn_L5_3 n3) (AB ad F) (nI q43) x3_3 p1 p2 = (m_X8_onlyIn_L5_3 n3) (AB ad F) ((nI q43) + Int32.ofInt (1)) x3_3 p1 p2 from by unfold m_X8_onlyIn_L5_3_b; rw [if_neg (nle_cg m6 rfl c7), if_neg (neq_cg rfl rfl c19), if_neg (neq_cg m30 rfl c31)]).trans (congr (congr (congr (congr (congrArg ((m_X8_onlyIn_L5_3 n3)) (rfl : AB ad F = AB ad F)) m34) (Eq.refl (x3_3 : Int32))) (Eq.refl (p1 : Int32))) (Eq.refl (p2 : Int32))))
        exact ih3 (q43 + 1) (x3_3) (by omega) (by omega) hE35 ls33 (lv_sub hl33 [0, 2, 3, 4, 5] rfl)
      have k36 := ci_eq (nI_toInt (n := b27 % 48) (by omega)) rfl c31
      refine lv_aload_n S.1 S.2.1 dX8_onlyIn_46 rfl (lv_at hl18 3 rfl) ?_
      refine lv_iload S.1 S.2.1 dX8_onlyIn_47 (lv_at hl18 0 rfl) ?_
      refine lv_iload_n S.1 S.2.1 dX8_onlyIn_49 rfl (lv_at hl18 4 rfl) ?_
      have ta38 : ((nI (b14 / 48)) : Int32).toInt = ((b14 / 48 : Nat) : Int) := (nI_toInt (n := b14 / 48) (by omega))
      refine r_cVp (As := [.int (nI (b14 / 48)), .int p1]) (rest := []) S hK hZ hP hS hl18.1 58 (by decide) hF5 (C := RX8) rfl (c_X8_hasWork l D cA ad t hI F hW (nI (b14 / 48)) p1 (by omega)) (cwV 2 S.2.2.2.2 gX8_onlyIn_X8_hasWork rfl rfl rfl (by decide +kernel) ⟨Nat.le_of_ble_eq_true rfl, Nat.le_of_ble_eq_true rfl⟩) rfl rfl (Nat.le_of_ble_eq_true rfl) ⟨Nat.zero_le _, Nat.zero_le _⟩ dX8_onlyIn_50 (fun r37 hr37 => ?_)
      obtain ⟨hr37, hm37⟩ := hr37
      obtain ⟨b39, hb39, rfl⟩ := hr37
      have m40 : (m_X8_hasWork (AB ad F) (((AB ad F) 66 (rl (nI q43))) / (nI 48)) p1) = (nI b39) := (congr (congr (Eq.refl (m_X8_hasWork (AB ad F))) m17) (Eq.refl (p1 : Int32))).trans hm37
      refine lv_if_eq (tgt := 67) S.1 S.2.1 dX8_onlyIn_53 (by decide) (fun c41 => ?_) (fun c41 => ?_)
      · skip
        have k42 := ci_eq (nI_toInt (n := b39) (Nat.lt_of_le_of_lt hb39 (by decide))) z_ti c41
        refine lv_bipush (v := (-2)) S.1 S.2.1 dX8_onlyIn_67 (by decide +kernel) ?_
        refine lv_goto (tgt := 74) S.1 S.2.1 dX8_onlyIn_69 (by decide) ?_
        refine lv_istore_n (lv' := [(3, .int (-2)), (5, .int (nI (b14 / 48))), (4, .int (nI q43)), (0, .ref (ad 58)), (1, .int p1), (2, .int p2)]) S.1 S.2.1 dX8_onlyIn_74 rfl hl18 (by decide) rfl (fun ls43 hl43 => ?_)
        have m45 : ((nI q43) + Int32.ofInt (1)) = (nI (q43 + 1)) := (congrArg (fun q : Int32 => q + Int32.ofInt (1)) rfl).trans (nI_add _ 1)
        refine lv_iinc (v := (nI (q43 + 1))) (lv' := [(4, .int (nI (q43 + 1))), (3, .int (-2)), (5, .int (nI (b14 / 48))), (0, .ref (ad 58)), (1, .int p1), (2, .int p2)]) S.1 S.2.1 dX8_onlyIn_75 hl43 (k := 2) rfl (nI_add _ 1) (by decide) rfl (fun ls44 hl44 => ?_)
        refine lv_goto (tgt := 5) S.1 S.2.1 dX8_onlyIn_78 (by decide) ?_
        have hE46 : M = (m_X8_onlyIn_L5_3 n3) (AB ad F) (nI (q43 + 1)) (-2) p1 p2 := hE4.trans ((show m_X8_onlyIn_L5_3_b (m_X8_onlyIn_L5_3 n3) (AB ad F) (nI q43) x3_3 p1 p2 = (m_X8_onlyIn_L5_3 n3) (AB ad F) ((nI q43) + Int32.ofInt (1)) ((-2) : Int32) p1 p2 from by unfold m_X8_onlyIn_L5_3_b; rw [if_neg (nle_cg m6 rfl c7), if_neg (neq_cg rfl rfl c19), if_pos (eq_cg m30 rfl c31), if_pos (eq_cg m40 rfl c41)]).trans (congr (congr (congr (congr (congrArg ((m_X8_onlyIn_L5_3 n3)) (rfl : AB ad F = AB ad F)) m45) (Eq.refl ((-2) : Int32))) (Eq.refl (p1 : Int32))) (Eq.refl (p2 : Int32))))
        exact ih3 (q43 + 1) ((-2)) (by omega) (by omega) hE46 ls44 (lv_sub hl44 [0, 1, 3, 4, 5] rfl)
      have k47 := ci_ne (nI_toInt (n := b39) (Nat.lt_of_le_of_lt hb39 (by decide))) z_ti c41
      refine lv_iload_n S.1 S.2.1 dX8_onlyIn_56 rfl (lv_at hl18 2 rfl) ?_
      refine lv_iconst (v := (-1)) S.1 S.2.1 dX8_onlyIn_57 (by decide +kernel) ?_
      refine lv_icmp_eq (tgt := 72) S.1 S.2.1 dX8_onlyIn_58 (by decide) (fun c48 => ?_) (fun c48 => ?_)
      · skip
        have k49 := ci_eq rfl (show ((-1) : Int32).toInt = -1 by decide +kernel) c48
        refine lv_iload S.1 S.2.1 dX8_onlyIn_72 (lv_at hl18 0 rfl) ?_
        refine lv_istore_n (lv' := [(3, .int (nI (b14 / 48))), (5, .int (nI (b14 / 48))), (4, .int (nI q43)), (0, .ref (ad 58)), (1, .int p1), (2, .int p2)]) S.1 S.2.1 dX8_onlyIn_74 rfl hl18 (by decide) rfl (fun ls50 hl50 => ?_)
        have m52 : ((nI q43) + Int32.ofInt (1)) = (nI (q43 + 1)) := (congrArg (fun q : Int32 => q + Int32.ofInt (1)) rfl).trans (nI_add _ 1)
        refine lv_iinc (v := (nI (q43 + 1))) (lv' := [(4, .int (nI (q43 + 1))), (3, .int (nI (b14 / 48))), (5, .int (nI (b14 / 48))), (0, .ref (ad 58)), (1, .int p1), (2, .int p2)]) S.1 S.2.1 dX8_onlyIn_75 hl50 (k := 2) rfl (nI_add _ 1) (by decide) rfl (fun ls51 hl51 => ?_)
        refine lv_goto (tgt := 5) S.1 S.2.1 dX8_onlyIn_78 (by decide) ?_
        have hE53 : M = (m_X8_onlyIn_L5_3 n3) (AB ad F) (nI (q43 + 1)) (nI (b14 / 48)) p1 p2 := hE4.trans ((show m_X8_onlyIn_L5_3_b (m_X8_onlyIn_L5_3 n3) (AB ad F) (nI q43) x3_3 p1 p2 = (m_X8_onlyIn_L5_3 n3) (AB ad F) ((nI q43) + Int32.ofInt (1)) (((AB ad F) 66 (rl (nI q43))) / (nI 48)) p1 p2 from by unfold m_X8_onlyIn_L5_3_b; rw [if_neg (nle_cg m6 rfl c7), if_neg (neq_cg rfl rfl c19), if_pos (eq_cg m30 rfl c31), if_neg (neq_cg m40 rfl c41), if_pos (eq_cg rfl rfl c48)]).trans (congr (congr (congr (congr (congrArg ((m_X8_onlyIn_L5_3 n3)) (rfl : AB ad F = AB ad F)) m52) m17) (Eq.refl (p1 : Int32))) (Eq.refl (p2 : Int32))))
        exact ih3 (q43 + 1) ((nI (b14 / 48))) (by omega) (by omega) hE53 ls51 (lv_sub hl51 [0, 1, 3, 4, 5] rfl)
      have k54 := ci_ne rfl (show ((-1) : Int32).toInt = -1 by decide +kernel) c48
      refine lv_iload_n S.1 S.2.1 dX8_onlyIn_61 rfl (lv_at hl18 2 rfl) ?_
      refine lv_iload S.1 S.2.1 dX8_onlyIn_62 (lv_at hl18 0 rfl) ?_
      refine lv_icmp_eq (tgt := 72) S.1 S.2.1 dX8_onlyIn_64 (by decide) (fun c55 => ?_) (fun c55 => ?_)
      · skip
        have k56 := ci_eq rfl (nI_toInt (n := b14 / 48) (by omega)) c55
        refine lv_iload S.1 S.2.1 dX8_onlyIn_72 (lv_at hl18 0 rfl) ?_
        refine lv_istore_n (lv' := [(3, .int (nI (b14 / 48))), (5, .int (nI (b14 / 48))), (4, .int (nI q43)), (0, .ref (ad 58)), (1, .int p1), (2, .int p2)]) S.1 S.2.1 dX8_onlyIn_74 rfl hl18 (by decide) rfl (fun ls57 hl57 => ?_)
        have m59 : ((nI q43) + Int32.ofInt (1)) = (nI (q43 + 1)) := (congrArg (fun q : Int32 => q + Int32.ofInt (1)) rfl).trans (nI_add _ 1)
        refine lv_iinc (v := (nI (q43 + 1))) (lv' := [(4, .int (nI (q43 + 1))), (3, .int (nI (b14 / 48))), (5, .int (nI (b14 / 48))), (0, .ref (ad 58)), (1, .int p1), (2, .int p2)]) S.1 S.2.1 dX8_onlyIn_75 hl57 (k := 2) rfl (nI_add _ 1) (by decide) rfl (fun ls58 hl58 => ?_)
        refine lv_goto (tgt := 5) S.1 S.2.1 dX8_onlyIn_78 (by decide) ?_
        have hE60 : M = (m_X8_onlyIn_L5_3 n3) (AB ad F) (nI (q43 + 1)) (nI (b14 / 48)) p1 p2 := hE4.trans ((show m_X8_onlyIn_L5_3_b (m_X8_onlyIn_L5_3 n3) (AB ad F) (nI q43) x3_3 p1 p2 = (m_X8_onlyIn_L5_3 n3) (AB ad F) ((nI q43) + Int32.ofInt (1)) (((AB ad F) 66 (rl (nI q43))) / (nI 48)) p1 p2 from by unfold m_X8_onlyIn_L5_3_b; rw [if_neg (nle_cg m6 rfl c7), if_neg (neq_cg rfl rfl c19), if_pos (eq_cg m30 rfl c31), if_neg (neq_cg m40 rfl c41), if_neg (neq_cg rfl rfl c48), if_pos (eq_cg rfl m17 c55)]).trans (congr (congr (congr (congr (congrArg ((m_X8_onlyIn_L5_3 n3)) (rfl : AB ad F = AB ad F)) m59) m17) (Eq.refl (p1 : Int32))) (Eq.refl (p2 : Int32))))
        exact ih3 (q43 + 1) ((nI (b14 / 48))) (by omega) (by omega) hE60 ls58 (lv_sub hl58 [0, 1, 3, 4, 5] rfl)
      have k61 := ci_ne rfl (nI_toInt (n := b14 / 48) (by omega)) c55
      refine lv_bipush (v := (-2)) S.1 S.2.1 dX8_onlyIn_67 (by decide +kernel) ?_
      refine lv_goto (tgt := 74) S.1 S.2.1 dX8_onlyIn_69 (by decide) ?_
      refine lv_istore_n (lv' := [(3, .int (-2)), (5, .int (nI (b14 / 48))), (4, .int (nI q43)), (0, .ref (ad 58)), (1, .int p1), (2, .int p2)]) S.1 S.2.1 dX8_onlyIn_74 rfl hl18 (by decide) rfl (fun ls62 hl62 => ?_)
      have m64 : ((nI q43) + Int32.ofInt (1)) = (nI (q43 + 1)) := (congrArg (fun q : Int32 => q + Int32.ofInt (1)) rfl).trans (nI_add _ 1)
      refine lv_iinc (v := (nI (q43 + 1))) (lv' := [(4, .int (nI (q43 + 1))), (3, .int (-2)), (5, .int (nI (b14 / 48))), (0, .ref (ad 58)), (1, .int p1), (2, .int p2)]) S.1 S.2.1 dX8_onlyIn_75 hl62 (k := 2) rfl (nI_add _ 1) (by decide) rfl (fun ls63 hl63 => ?_)
      refine lv_goto (tgt := 5) S.1 S.2.1 dX8_onlyIn_78 (by decide) ?_
      have hE65 : M = (m_X8_onlyIn_L5_3 n3) (AB ad F) (nI (q43 + 1)) (-2) p1 p2 := hE4.trans ((show m_X8_onlyIn_L5_3_b (m_X8_onlyIn_L5_3 n3) (AB ad F) (nI q43) x3_3 p1 p2 = (m_X8_onlyIn_L5_3 n3) (AB ad F) ((nI q43) + Int32.ofInt (1)) ((-2) : Int32) p1 p2 from by unfold m_X8_onlyIn_L5_3_b; rw [if_neg (nle_cg m6 rfl c7), if_neg (neq_cg rfl rfl c19), if_pos (eq_cg m30 rfl c31), if_neg (neq_cg m40 rfl c41), if_neg (neq_cg rfl rfl c48), if_neg (neq_cg rfl m17 c55)]).trans (congr (congr (congr (congr (congrArg ((m_X8_onlyIn_L5_3 n3)) (rfl : AB ad F = AB ad F)) m64) (Eq.refl ((-2) : Int32))) (Eq.refl (p1 : Int32))) (Eq.refl (p2 : Int32))))
      exact ih3 (q43 + 1) ((-2)) (by omega) (by omega) hE65 ls63 (lv_sub hl63 [0, 1, 3, 4, 5] rfl)
  have hE66 : M = m_X8_onlyIn_L5_3 2000 (AB ad F) (nI 0) (-1) p1 p2 := hM.trans ((show m_X8_onlyIn (AB ad F) p1 p2 = m_X8_onlyIn_L5_3 2000 (AB ad F) (nI 0) ((-1) : Int32) p1 p2 from rfl).trans (congr (congr (congr (congr (congrArg (m_X8_onlyIn_L5_3 2000) (rfl : AB ad F = AB ad F)) (Eq.refl ((nI 0) : Int32))) (Eq.refl ((-1) : Int32))) (Eq.refl (p1 : Int32))) (Eq.refl (p2 : Int32))))
  exact lp3 2000 (0) ((-1)) (by omega) (by omega) hE66 ls2 (lv_sub hl2 [0, 1, 2, 3, 4] rfl)
set_option maxHeartbeats 4000000 in
set_option maxRecDepth 100000 in
theorem c_X8_fitsBut (l : Launch) (D : va_G) (cA ad : Nat → Nat) (t : Nat) (hI : rI ad) (F : Nat → va_E) (hW : WT cA ad F) (p1 : Int32) : MI l D cA ad t yX8_fitsBut wsX8_fitsBut { frames := 3, cells := 0, slots := 0, locals := 78 } [.ref (ad 58), .int p1] F (fun r F' => WT cA ad F' ∧ rFr [71] F F' ∧ (le32 1 r)) := by
  refine en_I rfl (by decide +kernel) (Nat.le_of_ble_eq_true rfl) ?_
  intro p e s m args below meth c ls0 Q S hK hZ hP hS hl0 hret
  have hl0 : lv_has ls0 3 [(0, .ref (ad 58)), (1, .int p1)] := hl0
  have hFr : rFr [71] F F := rFr.rf
  have hiX8 : ∀ w ∈ u_ws RX8 TX8 23, w ∈ wsX8_fitsBut := in_wsX8_fitsBut_2
  refine lv_aload_n S.1 S.2.1 dX8_fitsBut_0 rfl (lv_at hl0 0 rfl) ?_
  obtain ⟨ty1, kn1, no1, en1, at1, sa1, sd1, wr1, pl1, va1, hF1, hb1_1, hb1_2, hb1_3, hb1_4, hb1_5, hb1_6⟩ := wt_m hW
  refine r_get S hK hP 58 (by decide) hF1 (C := RX8) (T := TX8) (N := 23) hiX8 rfl 22 (by decide) (am_at in_wsX8_fitsBut_0 0 rfl) (v := .ref (ad 71)) rfl dX8_fitsBut_1 ?_
  refine lv_iconst (v := (nI 0)) S.1 S.2.1 dX8_fitsBut_4 (by decide +kernel) ?_
  refine lv_aload_n S.1 S.2.1 dX8_fitsBut_5 rfl (lv_at hl0 0 rfl) ?_
  refine r_get S hK hP 58 (by decide) hF1 (C := RX8) (T := TX8) (N := 23) hiX8 rfl 2 (by decide) (am_at in_wsX8_fitsBut_0 1 rfl) (v := .ref (ad 60)) rfl dX8_fitsBut_6 ?_
  refine lv_iconst (v := (nI 2)) S.1 S.2.1 dX8_fitsBut_9 (by decide +kernel) ?_
  obtain ⟨g2, hF2, hg2⟩ := wt_I hW (show (60, 52) ∈ rLI by decide)
  refine r_iald S hK hP 60 (by decide) hF2 (vp_in_nI (show 2 < 52 by omega) (by omega)) dX8_fitsBut_10 ?_
  refine lv_topi (fun v4 e4 => ?_)
  obtain ⟨b5, hb5, he5⟩ := (pr_T (by decide) (hg2 2 (by decide))).2.1 rfl
  obtain rfl : v4 = nI b5 := e4.trans he5
  refine lv_if_ne (tgt := 18) S.1 S.2.1 dX8_fitsBut_11 (by decide) (fun c6 => ?_) (fun c6 => ?_)
  · skip
    have k7 := ci_ne (nI_toInt (n := b5) (Nat.lt_of_le_of_lt hb5 (by decide))) z_ti c6
    refine lv_iconst (v := (nI 0)) S.1 S.2.1 dX8_fitsBut_18 (by decide +kernel) ?_
    refine lv_iconst (v := (nI 0)) S.1 S.2.1 dX8_fitsBut_19 (by decide +kernel) ?_
    refine r_cSl (As := [.int (nI 0), .int (nI 0)]) (rest := [.int (nI 0), .ref (ad 71)]) S hK hZ hP hS hl0.1 (c_X8_bit l D cA ad t hI F hW (nI 0) (nI 0)) (va_cwS 2 S.2.2.2.2 gX8_fitsBut_X8_bit rfl rfl rfl (by decide +kernel) ⟨Nat.le_of_ble_eq_true rfl, Nat.le_of_ble_eq_true rfl⟩) rfl rfl (Nat.le_of_ble_eq_true rfl) ⟨Nat.zero_le _, Nat.zero_le _⟩ dX8_fitsBut_20 (fun r8 hr8 => ?_)
    obtain ⟨hr8, hm8⟩ := hr8
    obtain ⟨g9, hF9⟩ := wt_L hW (show (71, 49) ∈ rLL by decide)
    refine r_last S hI hK hP hS 71 (by decide) hF9 (vp_in_nI (show 0 < 49 by omega) (by omega)) dX8_fitsBut_23 (fun F10 H10 locs10 eF10 hP10 hS10 => ?_)
    have hW10 := hW.up eF10 (ok_L (show (71, 49) ∈ rLL by decide) ⟨_, rfl⟩)
    have hFr10 := hFr.up eF10 (by simp <;> first | omega | (simp only [isC, isJ] at *; omega))
    refine lv_iconst (v := (nI 0)) S.1 S.2.1 dX8_fitsBut_24 (by decide +kernel) ?_
    refine lv_istore_n (lv' := [(2, .int (nI 0)), (0, .ref (ad 58)), (1, .int p1)]) S.1 S.2.1 dX8_fitsBut_25 rfl hl0 (by decide) rfl (fun ls11 hl11 => ?_)
    have lp12 : ∀ (n12 : Nat) (q212 : Nat), ∀ (Fl12 : Nat → va_E) (Hl12 : Heap) (lol12 : List Loc), q212 ≤ 48 → 48 - q212 < n12 → WT cA ad Fl12 → rFr [71] F Fl12 → va_P D vwCl (rW ad Fl12) Hl12 → va_S (rA ad) s.heap Hl12 lol12 → ∀ (ls : Array Slot), lv_has ls 3 [(2, .int (nI q212)), (0, .ref (ad 58)), (1, .int p1)] → W p l e { frames := 3, cells := 0, slots := 0, locals := 78 } s m args below meth c Hl12 lol12 0 0 Q (F0 m 26 ls []) := by
      intro n12
      induction n12 with
      | zero =>
        intro q212 Fl12 Hl12 lol12 iv12_0 hm12 hWl12 hFl12 hPl12 hSl12 ls12 hl12
        exact absurd hm12 (Nat.not_lt_zero _)
      | succ n12 ih12 =>
        intro q212 Fl12 Hl12 lol12 iv12_0 hm12 hWl12 hFl12 hPl12 hSl12 ls12 hl12
        refine lv_iload_n S.1 S.2.1 dX8_fitsBut_26 rfl (lv_at hl12 0 rfl) ?_
        refine lv_bipush (v := (nI 48)) S.1 S.2.1 dX8_fitsBut_27 (by decide +kernel) ?_
        refine lv_icmp_ge (tgt := 63) S.1 S.2.1 dX8_fitsBut_29 (by decide) (fun c13 => ?_) (fun c13 => ?_)
        · skip
          have k14 := ci_le (nI_toInt (n := 48) (by decide)) (nI_toInt (n := q212) (by omega)) c13
          refine lv_aload_n S.1 S.2.1 dX8_fitsBut_63 rfl (lv_at hl12 1 rfl) ?_
          obtain ⟨ty15, kn15, no15, en15, at15, sa15, sd15, wr15, pl15, va15, hF15, hb15_1, hb15_2, hb15_3, hb15_4, hb15_5, hb15_6⟩ := wt_m hWl12
          refine r_get S hK hPl12 58 (by decide) hF15 (C := RX8) (T := TX8) (N := 23) hiX8 rfl 22 (by decide) (am_at in_wsX8_fitsBut_0 0 rfl) (v := .ref (ad 71)) rfl dX8_fitsBut_64 ?_
          refine lv_bipush (v := (nI 48)) S.1 S.2.1 dX8_fitsBut_67 (by decide +kernel) ?_
          obtain ⟨g16, hF16⟩ := wt_L hWl12 (show (71, 49) ∈ rLL by decide)
          refine r_lald S hK hPl12 71 (by decide) hF16 (vp_in_nI (show 48 < 49 by omega) (by omega)) dX8_fitsBut_69 ?_
          refine lv_topl (fun v18 e18 => ?_)
          refine lv_lconst (v := 0) S.1 S.2.1 dX8_fitsBut_70 (by decide +kernel) ?_
          refine W.lcmp S.1 S.2.1 dX8_fitsBut_71 ?_
          refine lv_topi (fun v19 e19 => ?_)
          refine lv_if_eq (tgt := 79) S.1 S.2.1 dX8_fitsBut_72 (by decide) (fun c20 => ?_) (fun c20 => ?_)
          · skip
            have k21 := ci_eq rfl z_ti c20
            refine lv_iconst (v := (nI 0)) S.1 S.2.1 dX8_fitsBut_79 (by decide +kernel) ?_
            exact hret 80 _ _ _ _ _ dX8_fitsBut_80 rfl hPl12 hSl12 ⟨hWl12, hFl12, ⟨0, by omega, rfl⟩⟩
          have k22 := ci_ne rfl z_ti c20
          refine lv_iconst (v := (nI 1)) S.1 S.2.1 dX8_fitsBut_75 (by decide +kernel) ?_
          refine lv_goto (tgt := 80) S.1 S.2.1 dX8_fitsBut_76 (by decide) ?_
          exact hret 80 _ _ _ _ _ dX8_fitsBut_80 rfl hPl12 hSl12 ⟨hWl12, hFl12, ⟨1, by omega, rfl⟩⟩
        have k23 := ci_nle (nI_toInt (n := 48) (by decide)) (nI_toInt (n := q212) (by omega)) c13
        refine lv_aload_n S.1 S.2.1 dX8_fitsBut_32 rfl (lv_at hl12 1 rfl) ?_
        obtain ⟨ty24, kn24, no24, en24, at24, sa24, sd24, wr24, pl24, va24, hF24, hb24_1, hb24_2, hb24_3, hb24_4, hb24_5, hb24_6⟩ := wt_m hWl12
        refine r_get S hK hPl12 58 (by decide) hF24 (C := RX8) (T := TX8) (N := 23) hiX8 rfl 22 (by decide) (am_at in_wsX8_fitsBut_0 0 rfl) (v := .ref (ad 71)) rfl dX8_fitsBut_33 ?_
        refine lv_iload_n S.1 S.2.1 dX8_fitsBut_36 rfl (lv_at hl12 0 rfl) ?_
        refine lv_iconst (v := (nI 1)) S.1 S.2.1 dX8_fitsBut_37 (by decide +kernel) ?_
        refine lv_iadd S.1 S.2.1 dX8_fitsBut_38 ?_
        refine lv_topi (fun v25 e25 => ?_)
        obtain rfl : v25 = nI (q212 + 1) := e25.trans (nI_add _ _)
        refine lv_aload_n S.1 S.2.1 dX8_fitsBut_39 rfl (lv_at hl12 1 rfl) ?_
        refine lv_aload_n S.1 S.2.1 dX8_fitsBut_40 rfl (lv_at hl12 1 rfl) ?_
        refine r_get S hK hPl12 58 (by decide) hF24 (C := RX8) (T := TX8) (N := 23) hiX8 rfl 22 (by decide) (am_at in_wsX8_fitsBut_0 0 rfl) (v := .ref (ad 71)) rfl dX8_fitsBut_41 ?_
        refine lv_iload_n S.1 S.2.1 dX8_fitsBut_44 rfl (lv_at hl12 0 rfl) ?_
        obtain ⟨g26, hF26⟩ := wt_L hWl12 (show (71, 49) ∈ rLL by decide)
        refine r_lald S hK hPl12 71 (by decide) hF26 (vp_in_nI (show q212 < 49 by omega) (by omega)) dX8_fitsBut_45 ?_
        refine lv_topl (fun v28 e28 => ?_)
        refine lv_iconst (v := (nI 0)) S.1 S.2.1 dX8_fitsBut_46 (by decide +kernel) ?_
        refine lv_aload_n S.1 S.2.1 dX8_fitsBut_47 rfl (lv_at hl12 1 rfl) ?_
        refine lv_iload_n S.1 S.2.1 dX8_fitsBut_48 rfl (lv_at hl12 0 rfl) ?_
        refine lv_iload_n S.1 S.2.1 dX8_fitsBut_49 rfl (lv_at hl12 2 rfl) ?_
        refine r_cVp (As := [.int (nI q212), .int p1]) (rest := [.int (nI 0), .long v28, .ref (ad 58), .int (nI (q212 + 1)), .ref (ad 71)]) S hK hZ hPl12 hSl12 hl12.1 58 (by decide) hF24 (C := RX8) rfl (c_X8_onlyIn l D cA ad t hI Fl12 hWl12 (nI q212) p1) (cwV 2 S.2.2.2.2 gX8_fitsBut_X8_onlyIn rfl rfl rfl (by decide +kernel) ⟨Nat.le_of_ble_eq_true rfl, Nat.le_of_ble_eq_true rfl⟩) rfl rfl (Nat.le_of_ble_eq_true rfl) ⟨Nat.zero_le _, Nat.zero_le _⟩ dX8_fitsBut_50 (fun r29 hr29 => ?_)
        obtain ⟨hr29, hm29⟩ := hr29
        refine r_cVl (As := [.long v28, .int (nI 0), .int r29]) (rest := [.int (nI (q212 + 1)), .ref (ad 71)]) S hK hZ hPl12 hSl12 hl12.1 58 (by decide) hF24 (C := RX8) rfl (c_X8_goes l D cA ad t hI Fl12 hWl12 v28 (nI 0) r29) (cwV 3 S.2.2.2.2 gX8_fitsBut_X8_goes rfl rfl rfl (by decide +kernel) ⟨Nat.le_of_ble_eq_true rfl, Nat.le_of_ble_eq_true rfl⟩) rfl rfl (Nat.le_of_ble_eq_true rfl) ⟨Nat.zero_le _, Nat.zero_le _⟩ dX8_fitsBut_53 (fun r30 hr30 => ?_)
        obtain ⟨hr30, hm30⟩ := hr30
        refine r_last S hI hK hPl12 hSl12 71 (by decide) hF26 (vp_in_nI (show q212 + 1 < 49 by omega) (by omega)) dX8_fitsBut_56 (fun F31 H31 locs31 eF31 hP31 hS31 => ?_)
        have hW31 := hWl12.up eF31 (ok_L (show (71, 49) ∈ rLL by decide) ⟨_, rfl⟩)
        have hFr31 := hFl12.up eF31 (by simp <;> first | omega | (simp only [isC, isJ] at *; omega))
        refine lv_iinc (v := (nI (q212 + 1))) (lv' := [(2, .int (nI (q212 + 1))), (0, .ref (ad 58)), (1, .int p1)]) S.1 S.2.1 dX8_fitsBut_57 hl12 (k := 0) rfl (nI_add _ 1) (by decide) rfl (fun ls32 hl32 => ?_)
        refine lv_goto (tgt := 26) S.1 S.2.1 dX8_fitsBut_60 (by decide) ?_
        exact ih12 (q212 + 1) F31 H31 locs31 (by omega) (by omega) hW31 hFr31 hP31 hS31 ls32 (lv_sub hl32 [0, 1, 2] rfl)
    exact lp12 (48 - (0) + 1) (0) F10 H10 locs10 (by omega) (by omega) hW10 hFr10 hP10 hS10 ls11 (lv_sub hl11 [0, 1, 2] rfl)
  have k33 := ci_eq (nI_toInt (n := b5) (Nat.lt_of_le_of_lt hb5 (by decide))) z_ti c6
  refine lv_lconst (v := 0) S.1 S.2.1 dX8_fitsBut_14 (by decide +kernel) ?_
  refine lv_goto (tgt := 23) S.1 S.2.1 dX8_fitsBut_15 (by decide) ?_
  obtain ⟨g34, hF34⟩ := wt_L hW (show (71, 49) ∈ rLL by decide)
  refine r_last S hI hK hP hS 71 (by decide) hF34 (vp_in_nI (show 0 < 49 by omega) (by omega)) dX8_fitsBut_23 (fun F35 H35 locs35 eF35 hP35 hS35 => ?_)
  have hW35 := hW.up eF35 (ok_L (show (71, 49) ∈ rLL by decide) ⟨_, rfl⟩)
  have hFr35 := hFr.up eF35 (by simp <;> first | omega | (simp only [isC, isJ] at *; omega))
  refine lv_iconst (v := (nI 0)) S.1 S.2.1 dX8_fitsBut_24 (by decide +kernel) ?_
  refine lv_istore_n (lv' := [(2, .int (nI 0)), (0, .ref (ad 58)), (1, .int p1)]) S.1 S.2.1 dX8_fitsBut_25 rfl hl0 (by decide) rfl (fun ls36 hl36 => ?_)
  have lp37 : ∀ (n37 : Nat) (q237 : Nat), ∀ (Fl37 : Nat → va_E) (Hl37 : Heap) (lol37 : List Loc), q237 ≤ 48 → 48 - q237 < n37 → WT cA ad Fl37 → rFr [71] F Fl37 → va_P D vwCl (rW ad Fl37) Hl37 → va_S (rA ad) s.heap Hl37 lol37 → ∀ (ls : Array Slot), lv_has ls 3 [(2, .int (nI q237)), (0, .ref (ad 58)), (1, .int p1)] → W p l e { frames := 3, cells := 0, slots := 0, locals := 78 } s m args below meth c Hl37 lol37 0 0 Q (F0 m 26 ls []) := by
    intro n37
    induction n37 with
    | zero =>
      intro q237 Fl37 Hl37 lol37 iv37_0 hm37 hWl37 hFl37 hPl37 hSl37 ls37 hl37
      exact absurd hm37 (Nat.not_lt_zero _)
    | succ n37 ih37 =>
      intro q237 Fl37 Hl37 lol37 iv37_0 hm37 hWl37 hFl37 hPl37 hSl37 ls37 hl37
      refine lv_iload_n S.1 S.2.1 dX8_fitsBut_26 rfl (lv_at hl37 0 rfl) ?_
      refine lv_bipush (v := (nI 48)) S.1 S.2.1 dX8_fitsBut_27 (by decide +kernel) ?_
      refine lv_icmp_ge (tgt := 63) S.1 S.2.1 dX8_fitsBut_29 (by decide) (fun c38 => ?_) (fun c38 => ?_)
      · skip
        have k39 := ci_le (nI_toInt (n := 48) (by decide)) (nI_toInt (n := q237) (by omega)) c38
        refine lv_aload_n S.1 S.2.1 dX8_fitsBut_63 rfl (lv_at hl37 1 rfl) ?_
        obtain ⟨ty40, kn40, no40, en40, at40, sa40, sd40, wr40, pl40, va40, hF40, hb40_1, hb40_2, hb40_3, hb40_4, hb40_5, hb40_6⟩ := wt_m hWl37
        refine r_get S hK hPl37 58 (by decide) hF40 (C := RX8) (T := TX8) (N := 23) hiX8 rfl 22 (by decide) (am_at in_wsX8_fitsBut_0 0 rfl) (v := .ref (ad 71)) rfl dX8_fitsBut_64 ?_
        refine lv_bipush (v := (nI 48)) S.1 S.2.1 dX8_fitsBut_67 (by decide +kernel) ?_
        obtain ⟨g41, hF41⟩ := wt_L hWl37 (show (71, 49) ∈ rLL by decide)
        refine r_lald S hK hPl37 71 (by decide) hF41 (vp_in_nI (show 48 < 49 by omega) (by omega)) dX8_fitsBut_69 ?_
        refine lv_topl (fun v43 e43 => ?_)
        refine lv_lconst (v := 0) S.1 S.2.1 dX8_fitsBut_70 (by decide +kernel) ?_
        refine W.lcmp S.1 S.2.1 dX8_fitsBut_71 ?_
        refine lv_topi (fun v44 e44 => ?_)
        refine lv_if_eq (tgt := 79) S.1 S.2.1 dX8_fitsBut_72 (by decide) (fun c45 => ?_) (fun c45 => ?_)
        · skip
          have k46 := ci_eq rfl z_ti c45
          refine lv_iconst (v := (nI 0)) S.1 S.2.1 dX8_fitsBut_79 (by decide +kernel) ?_
          exact hret 80 _ _ _ _ _ dX8_fitsBut_80 rfl hPl37 hSl37 ⟨hWl37, hFl37, ⟨0, by omega, rfl⟩⟩
        have k47 := ci_ne rfl z_ti c45
        refine lv_iconst (v := (nI 1)) S.1 S.2.1 dX8_fitsBut_75 (by decide +kernel) ?_
        refine lv_goto (tgt := 80) S.1 S.2.1 dX8_fitsBut_76 (by decide) ?_
        exact hret 80 _ _ _ _ _ dX8_fitsBut_80 rfl hPl37 hSl37 ⟨hWl37, hFl37, ⟨1, by omega, rfl⟩⟩
      have k48 := ci_nle (nI_toInt (n := 48) (by decide)) (nI_toInt (n := q237) (by omega)) c38
      refine lv_aload_n S.1 S.2.1 dX8_fitsBut_32 rfl (lv_at hl37 1 rfl) ?_
      obtain ⟨ty49, kn49, no49, en49, at49, sa49, sd49, wr49, pl49, va49, hF49, hb49_1, hb49_2, hb49_3, hb49_4, hb49_5, hb49_6⟩ := wt_m hWl37
      refine r_get S hK hPl37 58 (by decide) hF49 (C := RX8) (T := TX8) (N := 23) hiX8 rfl 22 (by decide) (am_at in_wsX8_fitsBut_0 0 rfl) (v := .ref (ad 71)) rfl dX8_fitsBut_33 ?_
      refine lv_iload_n S.1 S.2.1 dX8_fitsBut_36 rfl (lv_at hl37 0 rfl) ?_
      refine lv_iconst (v := (nI 1)) S.1 S.2.1 dX8_fitsBut_37 (by decide +kernel) ?_
      refine lv_iadd S.1 S.2.1 dX8_fitsBut_38 ?_
      refine lv_topi (fun v50 e50 => ?_)
      obtain rfl : v50 = nI (q237 + 1) := e50.trans (nI_add _ _)
      refine lv_aload_n S.1 S.2.1 dX8_fitsBut_39 rfl (lv_at hl37 1 rfl) ?_
      refine lv_aload_n S.1 S.2.1 dX8_fitsBut_40 rfl (lv_at hl37 1 rfl) ?_
      refine r_get S hK hPl37 58 (by decide) hF49 (C := RX8) (T := TX8) (N := 23) hiX8 rfl 22 (by decide) (am_at in_wsX8_fitsBut_0 0 rfl) (v := .ref (ad 71)) rfl dX8_fitsBut_41 ?_
      refine lv_iload_n S.1 S.2.1 dX8_fitsBut_44 rfl (lv_at hl37 0 rfl) ?_
      obtain ⟨g51, hF51⟩ := wt_L hWl37 (show (71, 49) ∈ rLL by decide)
      refine r_lald S hK hPl37 71 (by decide) hF51 (vp_in_nI (show q237 < 49 by omega) (by omega)) dX8_fitsBut_45 ?_
      refine lv_topl (fun v53 e53 => ?_)
      refine lv_iconst (v := (nI 0)) S.1 S.2.1 dX8_fitsBut_46 (by decide +kernel) ?_
      refine lv_aload_n S.1 S.2.1 dX8_fitsBut_47 rfl (lv_at hl37 1 rfl) ?_
      refine lv_iload_n S.1 S.2.1 dX8_fitsBut_48 rfl (lv_at hl37 0 rfl) ?_
      refine lv_iload_n S.1 S.2.1 dX8_fitsBut_49 rfl (lv_at hl37 2 rfl) ?_
      refine r_cVp (As := [.int (nI q237), .int p1]) (rest := [.int (nI 0), .long v53, .ref (ad 58), .int (nI (q237 + 1)), .ref (ad 71)]) S hK hZ hPl37 hSl37 hl37.1 58 (by decide) hF49 (C := RX8) rfl (c_X8_onlyIn l D cA ad t hI Fl37 hWl37 (nI q237) p1) (cwV 2 S.2.2.2.2 gX8_fitsBut_X8_onlyIn rfl rfl rfl (by decide +kernel) ⟨Nat.le_of_ble_eq_true rfl, Nat.le_of_ble_eq_true rfl⟩) rfl rfl (Nat.le_of_ble_eq_true rfl) ⟨Nat.zero_le _, Nat.zero_le _⟩ dX8_fitsBut_50 (fun r54 hr54 => ?_)
      obtain ⟨hr54, hm54⟩ := hr54
      refine r_cVl (As := [.long v53, .int (nI 0), .int r54]) (rest := [.int (nI (q237 + 1)), .ref (ad 71)]) S hK hZ hPl37 hSl37 hl37.1 58 (by decide) hF49 (C := RX8) rfl (c_X8_goes l D cA ad t hI Fl37 hWl37 v53 (nI 0) r54) (cwV 3 S.2.2.2.2 gX8_fitsBut_X8_goes rfl rfl rfl (by decide +kernel) ⟨Nat.le_of_ble_eq_true rfl, Nat.le_of_ble_eq_true rfl⟩) rfl rfl (Nat.le_of_ble_eq_true rfl) ⟨Nat.zero_le _, Nat.zero_le _⟩ dX8_fitsBut_53 (fun r55 hr55 => ?_)
      obtain ⟨hr55, hm55⟩ := hr55
      refine r_last S hI hK hPl37 hSl37 71 (by decide) hF51 (vp_in_nI (show q237 + 1 < 49 by omega) (by omega)) dX8_fitsBut_56 (fun F56 H56 locs56 eF56 hP56 hS56 => ?_)
      have hW56 := hWl37.up eF56 (ok_L (show (71, 49) ∈ rLL by decide) ⟨_, rfl⟩)
      have hFr56 := hFl37.up eF56 (by simp <;> first | omega | (simp only [isC, isJ] at *; omega))
      refine lv_iinc (v := (nI (q237 + 1))) (lv' := [(2, .int (nI (q237 + 1))), (0, .ref (ad 58)), (1, .int p1)]) S.1 S.2.1 dX8_fitsBut_57 hl37 (k := 0) rfl (nI_add _ 1) (by decide) rfl (fun ls57 hl57 => ?_)
      refine lv_goto (tgt := 26) S.1 S.2.1 dX8_fitsBut_60 (by decide) ?_
      exact ih37 (q237 + 1) F56 H56 locs56 (by omega) (by omega) hW56 hFr56 hP56 hS56 ls57 (lv_sub hl57 [0, 1, 2] rfl)
  exact lp37 (48 - (0) + 1) (0) F35 H35 locs35 (by omega) (by omega) hW35 hFr35 hP35 hS35 ls36 (lv_sub hl36 [0, 1, 2] rfl)
set_option maxHeartbeats 4000000 in
set_option maxRecDepth 100000 in
theorem c_X8_fits (l : Launch) (D : va_G) (cA ad : Nat → Nat) (t : Nat) (hI : rI ad) (F : Nat → va_E) (hW : WT cA ad F) : MI l D cA ad t yX8_fits wsX8_fits { frames := 4, cells := 0, slots := 0, locals := 100 } [.ref (ad 58)] F (fun r F' => WT cA ad F' ∧ rFr [71] F F' ∧ (True)) := by
  refine en_I rfl (by decide +kernel) (Nat.le_of_ble_eq_true rfl) ?_
  intro p e s m args below meth c ls0 Q S hK hZ hP hS hl0 hret
  have hl0 : lv_has ls0 1 [(0, .ref (ad 58))] := hl0
  have hFr : rFr [71] F F := rFr.rf
  refine lv_aload_n S.1 S.2.1 dX8_fits_0 rfl (lv_at hl0 0 rfl) ?_
  refine lv_iconst (v := (-1)) S.1 S.2.1 dX8_fits_1 (by decide +kernel) ?_
  obtain ⟨ty2, kn2, no2, en2, at2, sa2, sd2, wr2, pl2, va2, hF2, hb2_1, hb2_2, hb2_3, hb2_4, hb2_5, hb2_6⟩ := wt_m hW
  refine r_cVi (As := [.int (-1)]) (rest := []) S hK hZ hP hS hl0.1 58 (by decide) hF2 (C := RX8) rfl (c_X8_fitsBut l D cA ad t hI F hW (-1)) (cwV 1 S.2.2.2.2 gX8_fits_X8_fitsBut rfl rfl rfl (by decide +kernel) ⟨Nat.le_of_ble_eq_true rfl, Nat.le_of_ble_eq_true rfl⟩) rfl rfl (Nat.le_of_ble_eq_true rfl) ⟨Nat.zero_le _, Nat.zero_le _⟩ dX8_fits_2 (fun r1 F1 H1 locs1 hr1 hP1 hS1 => ?_)
  obtain ⟨hW1, hFc1, hr1⟩ := hr1
  have hFr1 := hFr.tr hFc1 (by simp <;> first | omega | (simp only [isC, isJ] at *; omega))
  obtain ⟨b3, hb3, rfl⟩ := hr1
  refine lv_if_eq (tgt := 12) S.1 S.2.1 dX8_fits_5 (by decide) (fun c4 => ?_) (fun c4 => ?_)
  · skip
    have k5 := ci_eq (nI_toInt (n := b3) (Nat.lt_of_le_of_lt hb3 (by decide))) z_ti c4
    refine lv_iconst (v := (nI 0)) S.1 S.2.1 dX8_fits_12 (by decide +kernel) ?_
    exact hret 13 _ _ _ _ _ dX8_fits_13 rfl hP1 hS1 ⟨hW1, hFr1, trivial⟩
  have k6 := ci_ne (nI_toInt (n := b3) (Nat.lt_of_le_of_lt hb3 (by decide))) z_ti c4
  refine lv_iconst (v := (nI 1)) S.1 S.2.1 dX8_fits_8 (by decide +kernel) ?_
  refine lv_goto (tgt := 13) S.1 S.2.1 dX8_fits_9 (by decide) ?_
  exact hret 13 _ _ _ _ _ dX8_fits_13 rfl hP1 hS1 ⟨hW1, hFr1, trivial⟩
set_option maxHeartbeats 4000000 in
set_option maxRecDepth 100000 in
theorem c_X8_bought (l : Launch) (D : va_G) (cA ad : Nat → Nat) (t : Nat) (hI : rI ad) (F : Nat → va_E) (hW : WT cA ad F) : MI l D cA ad t yX8_bought wsX8_bought { frames := 4, cells := 0, slots := 0, locals := 100 } [.ref (ad 58)] F (fun r F' => WT cA ad F' ∧ rFr [71] F F' ∧ (True)) := by
  refine en_I rfl (by decide +kernel) (Nat.le_of_ble_eq_true rfl) ?_
  intro p e s m args below meth c ls0 Q S hK hZ hP hS hl0 hret
  have hl0 : lv_has ls0 3 [(0, .ref (ad 58))] := hl0
  have hFr : rFr [71] F F := rFr.rf
  have hiX8 : ∀ w ∈ u_ws RX8 TX8 23, w ∈ wsX8_bought := in_wsX8_bought_2
  refine lv_iconst (v := (nI 0)) S.1 S.2.1 dX8_bought_0 (by decide +kernel) ?_
  refine lv_istore_n (lv' := [(1, .int (nI 0)), (0, .ref (ad 58))]) S.1 S.2.1 dX8_bought_1 rfl hl0 (by decide) rfl (fun ls1 hl1 => ?_)
  refine lv_iconst (v := (nI 0)) S.1 S.2.1 dX8_bought_2 (by decide +kernel) ?_
  refine lv_istore_n (lv' := [(2, .int (nI 0)), (1, .int (nI 0)), (0, .ref (ad 58))]) S.1 S.2.1 dX8_bought_3 rfl hl1 (by decide) rfl (fun ls2 hl2 => ?_)
  have lp3 : ∀ (n3 : Nat) (q23 : Nat) (x3_1 : Int32), ∀ (Fl3 : Nat → va_E) (Hl3 : Heap) (lol3 : List Loc), q23 ≤ 8 → 8 - q23 < n3 → WT cA ad Fl3 → rFr [71] F Fl3 → va_P D vwCl (rW ad Fl3) Hl3 → va_S (rA ad) s.heap Hl3 lol3 → ∀ (ls : Array Slot), lv_has ls 3 [(2, .int (nI q23)), (1, .int x3_1), (0, .ref (ad 58))] → W p l e { frames := 4, cells := 0, slots := 0, locals := 100 } s m args below meth c Hl3 lol3 0 0 Q (F0 m 4 ls []) := by
    intro n3
    induction n3 with
    | zero =>
      intro q23 x3_1 Fl3 Hl3 lol3 iv3_0 hm3 hWl3 hFl3 hPl3 hSl3 ls3 hl3
      exact absurd hm3 (Nat.not_lt_zero _)
    | succ n3 ih3 =>
      intro q23 x3_1 Fl3 Hl3 lol3 iv3_0 hm3 hWl3 hFl3 hPl3 hSl3 ls3 hl3
      refine lv_iload_n S.1 S.2.1 dX8_bought_4 rfl (lv_at hl3 0 rfl) ?_
      refine lv_aload_n S.1 S.2.1 dX8_bought_5 rfl (lv_at hl3 2 rfl) ?_
      obtain ⟨ty4, kn4, no4, en4, at4, sa4, sd4, wr4, pl4, va4, hF4, hb4_1, hb4_2, hb4_3, hb4_4, hb4_5, hb4_6⟩ := wt_m hWl3
      refine r_get S hK hPl3 58 (by decide) hF4 (C := RX8) (T := TX8) (N := 23) hiX8 rfl 11 (by decide) (am_at in_wsX8_bought_0 0 rfl) (v := .int (nI no4)) rfl dX8_bought_6 ?_
      refine lv_icmp_ge (tgt := 44) S.1 S.2.1 dX8_bought_9 (by decide) (fun c5 => ?_) (fun c5 => ?_)
      · skip
        have k6 := ci_le (nI_toInt (n := no4) (by omega)) (nI_toInt (n := q23) (by omega)) c5
        refine lv_iload_n S.1 S.2.1 dX8_bought_44 rfl (lv_at hl3 1 rfl) ?_
        exact hret 45 _ _ _ _ _ dX8_bought_45 rfl hPl3 hSl3 ⟨hWl3, hFl3, trivial⟩
      have k7 := ci_nle (nI_toInt (n := no4) (by omega)) (nI_toInt (n := q23) (by omega)) c5
      refine lv_aload_n S.1 S.2.1 dX8_bought_12 rfl (lv_at hl3 2 rfl) ?_
      refine lv_iconst (v := (-1)) S.1 S.2.1 dX8_bought_13 (by decide +kernel) ?_
      refine r_cVi (As := [.int (-1)]) (rest := []) S hK hZ hPl3 hSl3 hl3.1 58 (by decide) hF4 (C := RX8) rfl (c_X8_fitsBut l D cA ad t hI Fl3 hWl3 (-1)) (cwV 1 S.2.2.2.2 gX8_bought_X8_fitsBut rfl rfl rfl (by decide +kernel) ⟨Nat.le_of_ble_eq_true rfl, Nat.le_of_ble_eq_true rfl⟩) rfl rfl (Nat.le_of_ble_eq_true rfl) ⟨Nat.zero_le _, Nat.zero_le _⟩ dX8_bought_14 (fun r8 F8 H8 locs8 hr8 hP8 hS8 => ?_)
      obtain ⟨hW8, hFc8, hr8⟩ := hr8
      have hFr8 := hFl3.tr hFc8 (by simp <;> first | omega | (simp only [isC, isJ] at *; omega))
      obtain ⟨b9, hb9, rfl⟩ := hr8
      refine lv_if_ne (tgt := 44) S.1 S.2.1 dX8_bought_17 (by decide) (fun c10 => ?_) (fun c10 => ?_)
      · skip
        have k11 := ci_ne (nI_toInt (n := b9) (Nat.lt_of_le_of_lt hb9 (by decide))) z_ti c10
        refine lv_iload_n S.1 S.2.1 dX8_bought_44 rfl (lv_at hl3 1 rfl) ?_
        exact hret 45 _ _ _ _ _ dX8_bought_45 rfl hP8 hS8 ⟨hW8, hFr8, trivial⟩
      have k12 := ci_eq (nI_toInt (n := b9) (Nat.lt_of_le_of_lt hb9 (by decide))) z_ti c10
      refine lv_iload_n S.1 S.2.1 dX8_bought_20 rfl (lv_at hl3 1 rfl) ?_
      refine lv_aload_n S.1 S.2.1 dX8_bought_21 rfl (lv_at hl3 2 rfl) ?_
      refine lv_iload_n S.1 S.2.1 dX8_bought_22 rfl (lv_at hl3 0 rfl) ?_
      have hF14 := (hFc8 58 (by decide)).trans hF4
      refine r_cVi (As := [.int (nI q23)]) (rest := [.int x3_1]) S hK hZ hP8 hS8 hl3.1 58 (by decide) hF14 (C := RX8) rfl (c_X8_fitsBut l D cA ad t hI F8 hW8 (nI q23)) (cwV 1 S.2.2.2.2 gX8_bought_X8_fitsBut rfl rfl rfl (by decide +kernel) ⟨Nat.le_of_ble_eq_true rfl, Nat.le_of_ble_eq_true rfl⟩) rfl rfl (Nat.le_of_ble_eq_true rfl) ⟨Nat.zero_le _, Nat.zero_le _⟩ dX8_bought_23 (fun r13 F13 H13 locs13 hr13 hP13 hS13 => ?_)
      obtain ⟨hW13, hFc13, hr13⟩ := hr13
      have hFr13 := hFr8.tr hFc13 (by simp <;> first | omega | (simp only [isC, isJ] at *; omega))
      obtain ⟨b15, hb15, rfl⟩ := hr13
      refine lv_if_eq (tgt := 35) S.1 S.2.1 dX8_bought_26 (by decide) (fun c16 => ?_) (fun c16 => ?_)
      · skip
        have k17 := ci_eq (nI_toInt (n := b15) (Nat.lt_of_le_of_lt hb15 (by decide))) z_ti c16
        refine lv_iconst (v := (nI 0)) S.1 S.2.1 dX8_bought_35 (by decide +kernel) ?_
        refine lv_ior S.1 S.2.1 dX8_bought_36 ?_
        refine lv_topi (fun v18 e18 => ?_)
        refine lv_istore_n (lv' := [(1, .int v18), (2, .int (nI q23)), (0, .ref (ad 58))]) S.1 S.2.1 dX8_bought_37 rfl hl3 (by decide) rfl (fun ls19 hl19 => ?_)
        refine lv_iinc (v := (nI (q23 + 1))) (lv' := [(2, .int (nI (q23 + 1))), (1, .int v18), (0, .ref (ad 58))]) S.1 S.2.1 dX8_bought_38 hl19 (k := 1) rfl (nI_add _ 1) (by decide) rfl (fun ls20 hl20 => ?_)
        refine lv_goto (tgt := 4) S.1 S.2.1 dX8_bought_41 (by decide) ?_
        exact ih3 (q23 + 1) (v18) F13 H13 locs13 (by omega) (by omega) hW13 hFr13 hP13 hS13 ls20 (lv_sub hl20 [0, 1, 2] rfl)
      have k21 := ci_ne (nI_toInt (n := b15) (Nat.lt_of_le_of_lt hb15 (by decide))) z_ti c16
      refine lv_iconst (v := (nI 1)) S.1 S.2.1 dX8_bought_29 (by decide +kernel) ?_
      refine lv_iload_n S.1 S.2.1 dX8_bought_30 rfl (lv_at hl3 0 rfl) ?_
      refine lv_ishl S.1 S.2.1 dX8_bought_31 ?_
      refine lv_topi (fun v22 e22 => ?_)
      refine lv_goto (tgt := 36) S.1 S.2.1 dX8_bought_32 (by decide) ?_
      refine lv_ior S.1 S.2.1 dX8_bought_36 ?_
      refine lv_topi (fun v23 e23 => ?_)
      refine lv_istore_n (lv' := [(1, .int v23), (2, .int (nI q23)), (0, .ref (ad 58))]) S.1 S.2.1 dX8_bought_37 rfl hl3 (by decide) rfl (fun ls24 hl24 => ?_)
      refine lv_iinc (v := (nI (q23 + 1))) (lv' := [(2, .int (nI (q23 + 1))), (1, .int v23), (0, .ref (ad 58))]) S.1 S.2.1 dX8_bought_38 hl24 (k := 1) rfl (nI_add _ 1) (by decide) rfl (fun ls25 hl25 => ?_)
      refine lv_goto (tgt := 4) S.1 S.2.1 dX8_bought_41 (by decide) ?_
      exact ih3 (q23 + 1) (v23) F13 H13 locs13 (by omega) (by omega) hW13 hFr13 hP13 hS13 ls25 (lv_sub hl25 [0, 1, 2] rfl)
  exact lp3 (8 - (0) + 1) (0) ((nI 0)) F s.heap [] (by omega) (by omega) hW hFr hP hS ls2 (lv_sub hl2 [0, 1, 2] rfl)
noncomputable def m_X8_ledTo_L6_3_b (k0 : SS → Int32 → Int64 → Int64 → Int64 → Int32 → Int64) (σ : SS) (a0 : Int32) (a1 : Int64) (a2 : Int64) (a3 : Int64) (a4 : Int32) : Int64 :=
  if (nI 40) ≤ a0 then
    a1
  else
    if (lg_cmp (a2 &&& ((1 : Int64) <<< (a0.toInt64 &&& 63))) (0 : Int64)) = (0 : Int32) then
      k0 σ (a0 + Int32.ofInt (1)) (a1 ||| (0 : Int64)) a2 a3 a4
    else
      if (lg_cmp ((m_X8_goes σ (a2 &&& ((1 : Int64) <<< (a0.toInt64 &&& 63))) (nI 0) a4) &&& a3) (0 : Int64)) = (0 : Int32) then
        k0 σ (a0 + Int32.ofInt (1)) (a1 ||| (0 : Int64)) a2 a3 a4
      else
        k0 σ (a0 + Int32.ofInt (1)) (a1 ||| (a2 &&& ((1 : Int64) <<< (a0.toInt64 &&& 63)))) a2 a3 a4
noncomputable def m_X8_ledTo_L6_3 : Nat → SS → Int32 → Int64 → Int64 → Int64 → Int32 → Int64
  | 0 => fun σ _ _ _ _ _ => 0
  | n + 1 => m_X8_ledTo_L6_3_b (m_X8_ledTo_L6_3 n)
noncomputable def m_X8_ledTo (σ : SS) (a0 : Int64) (a1 : Int64) (a2 : Int32) : Int64 :=
  m_X8_ledTo_L6_3 2000 σ (nI 0) (0 : Int64) a0 a1 a2
set_option maxHeartbeats 4000000 in
set_option maxRecDepth 100000 in
theorem c_X8_ledTo (l : Launch) (D : va_G) (cA ad : Nat → Nat) (t : Nat) (hI : rI ad) (F : Nat → va_E) (hW : WT cA ad F) (p1 : Int64) (p2 : Int64) (p3 : Int32) : ML l D cA ad t yX8_ledTo wsX8_ledTo { frames := 3, cells := 0, slots := 0, locals := 78 } [.ref (ad 58), .long p1, .long p2, .int p3] F (fun r => (True) ∧ m_X8_ledTo (AB ad F) p1 p2 p3 = r) := by
  refine en_L rfl (by decide +kernel) (Nat.le_of_ble_eq_true rfl) ?_
  intro p e s m args below meth c ls0 Q S hK hZ hP hS hl0 hret
  have hl0 : lv_has ls0 11 [(0, .ref (ad 58)), (1, .long p1), (3, .long p2), (5, .int p3)] := hl0
  obtain ⟨M, hM⟩ : ∃ M, M = m_X8_ledTo (AB ad F) p1 p2 p3 := ⟨_, rfl⟩
  refine lv_lconst (v := 0) S.1 S.2.1 dX8_ledTo_0 (by decide +kernel) ?_
  refine lv_lstore (lv' := [(6, .long 0), (0, .ref (ad 58)), (1, .long p1), (3, .long p2), (5, .int p3)]) S.1 S.2.1 dX8_ledTo_1 hl0 (by decide) rfl (fun ls1 hl1 => ?_)
  refine lv_iconst (v := (nI 0)) S.1 S.2.1 dX8_ledTo_3 (by decide +kernel) ?_
  refine lv_istore (lv' := [(8, .int (nI 0)), (6, .long 0), (0, .ref (ad 58)), (1, .long p1), (3, .long p2), (5, .int p3)]) S.1 S.2.1 dX8_ledTo_4 hl1 (by decide) rfl (fun ls2 hl2 => ?_)
  have lp3 : ∀ (n3 : Nat) (q83 : Nat) (x3_6 : Int64), q83 ≤ 40 → 40 - q83 < n3 → M = m_X8_ledTo_L6_3 n3 (AB ad F) (nI q83) x3_6 p1 p2 p3 → ∀ (ls : Array Slot), lv_has ls 11 [(8, .int (nI q83)), (6, .long x3_6), (0, .ref (ad 58)), (1, .long p1), (3, .long p2), (5, .int p3)] → W p l e { frames := 3, cells := 0, slots := 0, locals := 78 } s m args below meth c s.heap [] 0 0 Q (F0 m 6 ls []) := by
    intro n3
    induction n3 with
    | zero =>
      intro q83 x3_6 iv3_0 hm3 hEl3 ls3 hl3
      exact absurd hm3 (Nat.not_lt_zero _)
    | succ n3 ih3 =>
      intro q83 x3_6 iv3_0 hm3 hEl3 ls3 hl3
      have hE4 : M = m_X8_ledTo_L6_3_b (m_X8_ledTo_L6_3 n3) (AB ad F) (nI q83) x3_6 p1 p2 p3 := hEl3
      refine lv_iload S.1 S.2.1 dX8_ledTo_6 (lv_at hl3 0 rfl) ?_
      refine lv_bipush (v := (nI 40)) S.1 S.2.1 dX8_ledTo_8 (by decide +kernel) ?_
      refine lv_icmp_ge (tgt := 61) S.1 S.2.1 dX8_ledTo_10 (by decide) (fun c5 => ?_) (fun c5 => ?_)
      · skip
        have k6 := ci_le (nI_toInt (n := 40) (by decide)) (nI_toInt (n := q83) (by omega)) c5
        refine lv_lload S.1 S.2.1 dX8_ledTo_61 (lv_at hl3 1 rfl) ?_
        have hE7 : M = x3_6 := hE4.trans ((show m_X8_ledTo_L6_3_b (m_X8_ledTo_L6_3 n3) (AB ad F) (nI q83) x3_6 p1 p2 p3 = x3_6 from by unfold m_X8_ledTo_L6_3_b; rw [if_pos (le_cg rfl rfl c5)]).trans rfl)
        exact hret 63 _ _ dX8_ledTo_63 (⟨trivial, hM.symm.trans hE7⟩)
      have k8 := ci_nle (nI_toInt (n := 40) (by decide)) (nI_toInt (n := q83) (by omega)) c5
      refine lv_lload_n S.1 S.2.1 dX8_ledTo_13 rfl (lv_at hl3 3 rfl) ?_
      refine lv_lconst (v := 1) S.1 S.2.1 dX8_ledTo_14 (by decide +kernel) ?_
      refine lv_iload S.1 S.2.1 dX8_ledTo_15 (lv_at hl3 0 rfl) ?_
      refine lv_lshl S.1 S.2.1 dX8_ledTo_17 rfl ?_
      refine lv_topl (fun v9 e9 => ?_)
      have m10 : ((1 : Int64) <<< ((nI q83).toInt64 &&& 63)) = v9 := cg2 (fun (x : Int64) (y : Int32) => x <<< (y.toInt64 &&& 63)) (Eq.refl (1 : Int64)) (Eq.refl ((nI q83) : Int32)) e9
      refine lv_land S.1 S.2.1 dX8_ledTo_18 ?_
      refine lv_topl (fun v11 e11 => ?_)
      have m12 : (p1 &&& ((1 : Int64) <<< ((nI q83).toInt64 &&& 63))) = v11 := cg2 (fun (x : Int64) (y : Int64) => x &&& y) (Eq.refl (p1 : Int64)) m10 e11
      refine lv_lstore (lv' := [(9, .long v11), (8, .int (nI q83)), (6, .long x3_6), (0, .ref (ad 58)), (1, .long p1), (3, .long p2), (5, .int p3)]) S.1 S.2.1 dX8_ledTo_19 hl3 (by decide) rfl (fun ls13 hl13 => ?_)
      refine lv_lload S.1 S.2.1 dX8_ledTo_21 (lv_at hl13 2 rfl) ?_
      refine lv_lload S.1 S.2.1 dX8_ledTo_23 (lv_at hl13 0 rfl) ?_
      refine lv_lconst (v := 0) S.1 S.2.1 dX8_ledTo_25 (by decide +kernel) ?_
      refine W.lcmp S.1 S.2.1 dX8_ledTo_26 ?_
      refine lv_topi (fun v14 e14 => ?_)
      have m15 : (lg_cmp (p1 &&& ((1 : Int64) <<< ((nI q83).toInt64 &&& 63))) (0 : Int64)) = v14 := cg2 (fun (x : Int64) (y : Int64) => lg_cmp x y) m12 (Eq.refl (0 : Int64)) e14
      refine lv_if_eq (tgt := 51) S.1 S.2.1 dX8_ledTo_27 (by decide) (fun c16 => ?_) (fun c16 => ?_)
      · skip
        have k17 := ci_eq rfl z_ti c16
        refine lv_lconst (v := 0) S.1 S.2.1 dX8_ledTo_51 (by decide +kernel) ?_
        refine lv_lor S.1 S.2.1 dX8_ledTo_52 ?_
        refine lv_topl (fun v18 e18 => ?_)
        have m19 : (x3_6 ||| (0 : Int64)) = v18 := cg2 (fun (x : Int64) (y : Int64) => x ||| y) (Eq.refl (x3_6 : Int64)) (Eq.refl (0 : Int64)) e18
        refine lv_lstore (lv' := [(6, .long v18), (9, .long v11), (8, .int (nI q83)), (0, .ref (ad 58)), (1, .long p1), (3, .long p2), (5, .int p3)]) S.1 S.2.1 dX8_ledTo_53 hl13 (by decide) rfl (fun ls20 hl20 => ?_)
        have m22 : ((nI q83) + Int32.ofInt (1)) = (nI (q83 + 1)) := (congrArg (fun q : Int32 => q + Int32.ofInt (1)) rfl).trans (nI_add _ 1)
        refine lv_iinc (v := (nI (q83 + 1))) (lv' := [(8, .int (nI (q83 + 1))), (6, .long v18), (9, .long v11), (0, .ref (ad 58)), (1, .long p1), (3, .long p2), (5, .int p3)]) S.1 S.2.1 dX8_ledTo_55 hl20 (k := 2) rfl (nI_add _ 1) (by decide) rfl (fun ls21 hl21 => ?_)
        refine lv_goto (tgt := 6) S.1 S.2.1 dX8_ledTo_58 (by decide) ?_
        have hE23 : M = (m_X8_ledTo_L6_3 n3) (AB ad F) (nI (q83 + 1)) v18 p1 p2 p3 := hE4.trans ((show m_X8_ledTo_L6_3_b (m_X8_ledTo_L6_3 n3) (AB ad F) (nI q83) x3_6 p1 p2 p3 = (m_X8_ledTo_L6_3 n3) (AB ad F) ((nI q83) + Int32.ofInt (1)) (x3_6 ||| (0 : Int64)) p1 p2 p3 from by unfold m_X8_ledTo_L6_3_b; rw [if_neg (nle_cg rfl rfl c5), if_pos (eq_cg m15 rfl c16)]).trans (congr (congr (congr (congr (congr (congrArg ((m_X8_ledTo_L6_3 n3)) (rfl : AB ad F = AB ad F)) m22) m19) (Eq.refl (p1 : Int64))) (Eq.refl (p2 : Int64))) (Eq.refl (p3 : Int32))))
        exact ih3 (q83 + 1) (v18) (by omega) (by omega) hE23 ls21 (lv_sub hl21 [0, 1, 3, 4, 5, 6] rfl)
      have k24 := ci_ne rfl z_ti c16
      refine lv_aload_n S.1 S.2.1 dX8_ledTo_30 rfl (lv_at hl13 3 rfl) ?_
      refine lv_lload S.1 S.2.1 dX8_ledTo_31 (lv_at hl13 0 rfl) ?_
      refine lv_iconst (v := (nI 0)) S.1 S.2.1 dX8_ledTo_33 (by decide +kernel) ?_
      refine lv_iload S.1 S.2.1 dX8_ledTo_34 (lv_at hl13 6 rfl) ?_
      obtain ⟨ty26, kn26, no26, en26, at26, sa26, sd26, wr26, pl26, va26, hF26, hb26_1, hb26_2, hb26_3, hb26_4, hb26_5, hb26_6⟩ := wt_m hW
      refine r_cVl (As := [.long v11, .int (nI 0), .int p3]) (rest := [.long x3_6]) S hK hZ hP hS hl13.1 58 (by decide) hF26 (C := RX8) rfl (c_X8_goes l D cA ad t hI F hW v11 (nI 0) p3) (cwV 3 S.2.2.2.2 gX8_ledTo_X8_goes rfl rfl rfl (by decide +kernel) ⟨Nat.le_of_ble_eq_true rfl, Nat.le_of_ble_eq_true rfl⟩) rfl rfl (Nat.le_of_ble_eq_true rfl) ⟨Nat.zero_le _, Nat.zero_le _⟩ dX8_ledTo_36 (fun r25 hr25 => ?_)
      obtain ⟨hr25, hm25⟩ := hr25
      have m27 : (m_X8_goes (AB ad F) (p1 &&& ((1 : Int64) <<< ((nI q83).toInt64 &&& 63))) (nI 0) p3) = r25 := (congr (congr (congr (Eq.refl (m_X8_goes (AB ad F))) m12) (Eq.refl ((nI 0) : Int32))) (Eq.refl (p3 : Int32))).trans hm25
      refine lv_lload_n S.1 S.2.1 dX8_ledTo_39 rfl (lv_at hl13 5 rfl) ?_
      refine lv_land S.1 S.2.1 dX8_ledTo_40 ?_
      refine lv_topl (fun v28 e28 => ?_)
      have m29 : ((m_X8_goes (AB ad F) (p1 &&& ((1 : Int64) <<< ((nI q83).toInt64 &&& 63))) (nI 0) p3) &&& p2) = v28 := cg2 (fun (x : Int64) (y : Int64) => x &&& y) m27 (Eq.refl (p2 : Int64)) e28
      refine lv_lconst (v := 0) S.1 S.2.1 dX8_ledTo_41 (by decide +kernel) ?_
      refine W.lcmp S.1 S.2.1 dX8_ledTo_42 ?_
      refine lv_topi (fun v30 e30 => ?_)
      have m31 : (lg_cmp ((m_X8_goes (AB ad F) (p1 &&& ((1 : Int64) <<< ((nI q83).toInt64 &&& 63))) (nI 0) p3) &&& p2) (0 : Int64)) = v30 := cg2 (fun (x : Int64) (y : Int64) => lg_cmp x y) m29 (Eq.refl (0 : Int64)) e30
      refine lv_if_eq (tgt := 51) S.1 S.2.1 dX8_ledTo_43 (by decide) (fun c32 => ?_) (fun c32 => ?_)
      · skip
        have k33 := ci_eq rfl z_ti c32
        refine lv_lconst (v := 0) S.1 S.2.1 dX8_ledTo_51 (by decide +kernel) ?_
        refine lv_lor S.1 S.2.1 dX8_ledTo_52 ?_
        refine lv_topl (fun v34 e34 => ?_)
        have m35 : (x3_6 ||| (0 : Int64)) = v34 := cg2 (fun (x : Int64) (y : Int64) => x ||| y) (Eq.refl (x3_6 : Int64)) (Eq.refl (0 : Int64)) e34
        refine lv_lstore (lv' := [(6, .long v34), (9, .long v11), (8, .int (nI q83)), (0, .ref (ad 58)), (1, .long p1), (3, .long p2), (5, .int p3)]) S.1 S.2.1 dX8_ledTo_53 hl13 (by decide) rfl (fun ls36 hl36 => ?_)
        have m38 : ((nI q83) + Int32.ofInt (1)) = (nI (q83 + 1)) := (congrArg (fun q : Int32 => q + Int32.ofInt (1)) rfl).trans (nI_add _ 1)
        refine lv_iinc (v := (nI (q83 + 1))) (lv' := [(8, .int (nI (q83 + 1))), (6, .long v34), (9, .long v11), (0, .ref (ad 58)), (1, .long p1), (3, .long p2), (5, .int p3)]) S.1 S.2.1 dX8_ledTo_55 hl36 (k := 2) rfl (nI_add _ 1) (by decide) rfl (fun ls37 hl37 => ?_)
        refine lv_goto (tgt := 6) S.1 S.2.1 dX8_ledTo_58 (by decide) ?_
        have hE39 : M = (m_X8_ledTo_L6_3 n3) (AB ad F) (nI (q83 + 1)) v34 p1 p2 p3 := hE4.trans ((show m_X8_ledTo_L6_3_b (m_X8_ledTo_L6_3 n3) (AB ad F) (nI q83) x3_6 p1 p2 p3 = (m_X8_ledTo_L6_3 n3) (AB ad F) ((nI q83) + Int32.ofInt (1)) (x3_6 ||| (0 : Int64)) p1 p2 p3 from by unfold m_X8_ledTo_L6_3_b; rw [if_neg (nle_cg rfl rfl c5), if_neg (neq_cg m15 rfl c16), if_pos (eq_cg m31 rfl c32)]).trans (congr (congr (congr (congr (congr (congrArg ((m_X8_ledTo_L6_3 n3)) (rfl : AB ad F = AB ad F)) m38) m35) (Eq.refl (p1 : Int64))) (Eq.refl (p2 : Int64))) (Eq.refl (p3 : Int32))))
        exact ih3 (q83 + 1) (v34) (by omega) (by omega) hE39 ls37 (lv_sub hl37 [0, 1, 3, 4, 5, 6] rfl)
      have k40 := ci_ne rfl z_ti c32
      refine lv_lload S.1 S.2.1 dX8_ledTo_46 (lv_at hl13 0 rfl) ?_
      refine lv_goto (tgt := 52) S.1 S.2.1 dX8_ledTo_48 (by decide) ?_
      refine lv_lor S.1 S.2.1 dX8_ledTo_52 ?_
      refine lv_topl (fun v41 e41 => ?_)
      have m42 : (x3_6 ||| (p1 &&& ((1 : Int64) <<< ((nI q83).toInt64 &&& 63)))) = v41 := cg2 (fun (x : Int64) (y : Int64) => x ||| y) (Eq.refl (x3_6 : Int64)) m12 e41
      refine lv_lstore (lv' := [(6, .long v41), (9, .long v11), (8, .int (nI q83)), (0, .ref (ad 58)), (1, .long p1), (3, .long p2), (5, .int p3)]) S.1 S.2.1 dX8_ledTo_53 hl13 (by decide) rfl (fun ls43 hl43 => ?_)
      have m45 : ((nI q83) + Int32.ofInt (1)) = (nI (q83 + 1)) := (congrArg (fun q : Int32 => q + Int32.ofInt (1)) rfl).trans (nI_add _ 1)
      refine lv_iinc (v := (nI (q83 + 1))) (lv' := [(8, .int (nI (q83 + 1))), (6, .long v41), (9, .long v11), (0, .ref (ad 58)), (1, .long p1), (3, .long p2), (5, .int p3)]) S.1 S.2.1 dX8_ledTo_55 hl43 (k := 2) rfl (nI_add _ 1) (by decide) rfl (fun ls44 hl44 => ?_)
      refine lv_goto (tgt := 6) S.1 S.2.1 dX8_ledTo_58 (by decide) ?_
      have hE46 : M = (m_X8_ledTo_L6_3 n3) (AB ad F) (nI (q83 + 1)) v41 p1 p2 p3 := hE4.trans ((show m_X8_ledTo_L6_3_b (m_X8_ledTo_L6_3 n3) (AB ad F) (nI q83) x3_6 p1 p2 p3 = (m_X8_ledTo_L6_3 n3) (AB ad F) ((nI q83) + Int32.ofInt (1)) (x3_6 ||| (p1 &&& ((1 : Int64) <<< ((nI q83).toInt64 &&& 63)))) p1 p2 p3 from by unfold m_X8_ledTo_L6_3_b; rw [if_neg (nle_cg rfl rfl c5), if_neg (neq_cg m15 rfl c16), if_neg (neq_cg m31 rfl c32)]).trans (congr (congr (congr (congr (congr (congrArg ((m_X8_ledTo_L6_3 n3)) (rfl : AB ad F = AB ad F)) m45) m42) (Eq.refl (p1 : Int64))) (Eq.refl (p2 : Int64))) (Eq.refl (p3 : Int32))))
      exact ih3 (q83 + 1) (v41) (by omega) (by omega) hE46 ls44 (lv_sub hl44 [0, 1, 3, 4, 5, 6] rfl)
  have hE47 : M = m_X8_ledTo_L6_3 2000 (AB ad F) (nI 0) 0 p1 p2 p3 := hM.trans ((show m_X8_ledTo (AB ad F) p1 p2 p3 = m_X8_ledTo_L6_3 2000 (AB ad F) (nI 0) (0 : Int64) p1 p2 p3 from rfl).trans (congr (congr (congr (congr (congr (congrArg (m_X8_ledTo_L6_3 2000) (rfl : AB ad F = AB ad F)) (Eq.refl ((nI 0) : Int32))) (Eq.refl (0 : Int64))) (Eq.refl (p1 : Int64))) (Eq.refl (p2 : Int64))) (Eq.refl (p3 : Int32))))
  exact lp3 2000 (0) (0) (by omega) (by omega) hE47 ls2 (lv_sub hl2 [0, 1, 2, 3, 4, 5] rfl)
set_option maxHeartbeats 4000000 in
set_option maxRecDepth 100000 in
theorem c_X8_waysOn (l : Launch) (D : va_G) (cA ad : Nat → Nat) (t : Nat) (hI : rI ad) (F : Nat → va_E) (hW : WT cA ad F) : MV l D cA ad t yX8_waysOn wsX8_waysOn { frames := 4, cells := 0, slots := 0, locals := 108 } [.ref (ad 58)] F (fun F' => WT cA ad F' ∧ rFr [71] F F' ∧ (True)) := by
  refine en_V rfl (by decide +kernel) (Nat.le_of_ble_eq_true rfl) ?_
  intro p e s m args below meth c ls0 Q S hK hZ hP hS hl0 hret
  have hl0 : lv_has ls0 2 [(0, .ref (ad 58))] := hl0
  have hFr : rFr [71] F F := rFr.rf
  have hiX8 : ∀ w ∈ u_ws RX8 TX8 23, w ∈ wsX8_waysOn := in_wsX8_waysOn_2
  refine lv_aload_n S.1 S.2.1 dX8_waysOn_0 rfl (lv_at hl0 0 rfl) ?_
  refine lv_iconst (v := (-1)) S.1 S.2.1 dX8_waysOn_1 (by decide +kernel) ?_
  obtain ⟨ty2, kn2, no2, en2, at2, sa2, sd2, wr2, pl2, va2, hF2, hb2_1, hb2_2, hb2_3, hb2_4, hb2_5, hb2_6⟩ := wt_m hW
  refine r_cVi (As := [.int (-1)]) (rest := []) S hK hZ hP hS hl0.1 58 (by decide) hF2 (C := RX8) rfl (c_X8_fitsBut l D cA ad t hI F hW (-1)) (cwV 1 S.2.2.2.2 gX8_waysOn_X8_fitsBut rfl rfl rfl (by decide +kernel) ⟨Nat.le_of_ble_eq_true rfl, Nat.le_of_ble_eq_true rfl⟩) rfl rfl (Nat.le_of_ble_eq_true rfl) ⟨Nat.zero_le _, Nat.zero_le _⟩ dX8_waysOn_2 (fun r1 F1 H1 locs1 hr1 hP1 hS1 => ?_)
  obtain ⟨hW1, hFc1, hr1⟩ := hr1
  have hFr1 := hFr.tr hFc1 (by simp <;> first | omega | (simp only [isC, isJ] at *; omega))
  obtain ⟨b3, hb3, rfl⟩ := hr1
  refine lv_pop S.1 S.2.1 dX8_waysOn_5 rfl ?_
  refine lv_bipush (v := (nI 47)) S.1 S.2.1 dX8_waysOn_6 (by decide +kernel) ?_
  refine lv_istore_n (lv' := [(1, .int (nI 47)), (0, .ref (ad 58))]) S.1 S.2.1 dX8_waysOn_8 rfl hl0 (by decide) rfl (fun ls4 hl4 => ?_)
  have lp5 : ∀ (n5 : Nat) (x5_1 : Int32), ∀ (Fl5 : Nat → va_E) (Hl5 : Heap) (lol5 : List Loc), -1 ≤ x5_1.toInt → x5_1.toInt ≤ 47 → (x5_1.toInt + 1).toNat < n5 → WT cA ad Fl5 → rFr [71] F Fl5 → va_P D vwCl (rW ad Fl5) Hl5 → va_S (rA ad) s.heap Hl5 lol5 → ∀ (ls : Array Slot), lv_has ls 2 [(1, .int x5_1), (0, .ref (ad 58))] → W p l e { frames := 4, cells := 0, slots := 0, locals := 108 } s m args below meth c Hl5 lol5 0 0 Q (F0 m 9 ls []) := by
    intro n5
    induction n5 with
    | zero =>
      intro x5_1 Fl5 Hl5 lol5 iv5_0 iv5_1 hm5 hWl5 hFl5 hPl5 hSl5 ls5 hl5
      exact absurd hm5 (Nat.not_lt_zero _)
    | succ n5 ih5 =>
      intro x5_1 Fl5 Hl5 lol5 iv5_0 iv5_1 hm5 hWl5 hFl5 hPl5 hSl5 ls5 hl5
      refine lv_iload_n S.1 S.2.1 dX8_waysOn_9 rfl (lv_at hl5 0 rfl) ?_
      refine lv_if_lt (tgt := 49) S.1 S.2.1 dX8_waysOn_10 (by decide) (fun c6 => ?_) (fun c6 => ?_)
      · skip
        have k7 := ci_lt rfl z_ti c6
        exact hret 49 _ _ _ _ dX8_waysOn_49 hPl5 hSl5 ⟨hWl5, hFl5, trivial⟩
      have k8 := ci_nlt rfl z_ti c6
      obtain ⟨j9, hj9, rfl⟩ := nI_of_le (x := x5_1) (B := 47) (by omega) (by omega)
      have kj9 := nI_toInt (n := j9) (Nat.lt_of_le_of_lt hj9 (by decide))
      refine lv_aload_n S.1 S.2.1 dX8_waysOn_13 rfl (lv_at hl5 1 rfl) ?_
      obtain ⟨ty10, kn10, no10, en10, at10, sa10, sd10, wr10, pl10, va10, hF10, hb10_1, hb10_2, hb10_3, hb10_4, hb10_5, hb10_6⟩ := wt_m hWl5
      refine r_get S hK hPl5 58 (by decide) hF10 (C := RX8) (T := TX8) (N := 23) hiX8 rfl 22 (by decide) (am_at in_wsX8_waysOn_0 0 rfl) (v := .ref (ad 71)) rfl dX8_waysOn_14 ?_
      refine lv_iload_n S.1 S.2.1 dX8_waysOn_17 rfl (lv_at hl5 0 rfl) ?_
      refine lv_aload_n S.1 S.2.1 dX8_waysOn_18 rfl (lv_at hl5 1 rfl) ?_
      refine lv_aload_n S.1 S.2.1 dX8_waysOn_19 rfl (lv_at hl5 1 rfl) ?_
      refine r_get S hK hPl5 58 (by decide) hF10 (C := RX8) (T := TX8) (N := 23) hiX8 rfl 22 (by decide) (am_at in_wsX8_waysOn_0 0 rfl) (v := .ref (ad 71)) rfl dX8_waysOn_20 ?_
      refine lv_iload_n S.1 S.2.1 dX8_waysOn_23 rfl (lv_at hl5 0 rfl) ?_
      obtain ⟨g11, hF11⟩ := wt_L hWl5 (show (71, 49) ∈ rLL by decide)
      refine r_lald S hK hPl5 71 (by decide) hF11 (vp_in_nI (show j9 < 49 by omega) (by omega)) dX8_waysOn_24 ?_
      refine lv_topl (fun v13 e13 => ?_)
      refine lv_aload_n S.1 S.2.1 dX8_waysOn_25 rfl (lv_at hl5 1 rfl) ?_
      refine r_get S hK hPl5 58 (by decide) hF10 (C := RX8) (T := TX8) (N := 23) hiX8 rfl 22 (by decide) (am_at in_wsX8_waysOn_0 0 rfl) (v := .ref (ad 71)) rfl dX8_waysOn_26 ?_
      refine lv_iload_n S.1 S.2.1 dX8_waysOn_29 rfl (lv_at hl5 0 rfl) ?_
      refine lv_iconst (v := (nI 1)) S.1 S.2.1 dX8_waysOn_30 (by decide +kernel) ?_
      refine lv_iadd S.1 S.2.1 dX8_waysOn_31 ?_
      refine lv_topi (fun v14 e14 => ?_)
      obtain rfl : v14 = nI (j9 + 1) := e14.trans (nI_add _ _)
      refine r_lald S hK hPl5 71 (by decide) hF11 (vp_in_nI (show j9 + 1 < 49 by omega) (by omega)) dX8_waysOn_32 ?_
      refine lv_topl (fun v16 e16 => ?_)
      refine lv_aload_n S.1 S.2.1 dX8_waysOn_33 rfl (lv_at hl5 1 rfl) ?_
      refine lv_iload_n S.1 S.2.1 dX8_waysOn_34 rfl (lv_at hl5 0 rfl) ?_
      refine lv_iconst (v := (-1)) S.1 S.2.1 dX8_waysOn_35 (by decide +kernel) ?_
      refine r_cVp (As := [.int (nI j9), .int (-1)]) (rest := [.long v16, .long v13, .ref (ad 58), .int (nI j9), .ref (ad 71)]) S hK hZ hPl5 hSl5 hl5.1 58 (by decide) hF10 (C := RX8) rfl (c_X8_onlyIn l D cA ad t hI Fl5 hWl5 (nI j9) (-1)) (cwV 2 S.2.2.2.2 gX8_waysOn_X8_onlyIn rfl rfl rfl (by decide +kernel) ⟨Nat.le_of_ble_eq_true rfl, Nat.le_of_ble_eq_true rfl⟩) rfl rfl (Nat.le_of_ble_eq_true rfl) ⟨Nat.zero_le _, Nat.zero_le _⟩ dX8_waysOn_36 (fun r17 hr17 => ?_)
      obtain ⟨hr17, hm17⟩ := hr17
      refine r_cVl (As := [.long v13, .long v16, .int r17]) (rest := [.int (nI j9), .ref (ad 71)]) S hK hZ hPl5 hSl5 hl5.1 58 (by decide) hF10 (C := RX8) rfl (c_X8_ledTo l D cA ad t hI Fl5 hWl5 v13 v16 r17) (cwV 3 S.2.2.2.2 gX8_waysOn_X8_ledTo rfl rfl rfl (by decide +kernel) ⟨Nat.le_of_ble_eq_true rfl, Nat.le_of_ble_eq_true rfl⟩) rfl rfl (Nat.le_of_ble_eq_true rfl) ⟨Nat.zero_le _, Nat.zero_le _⟩ dX8_waysOn_39 (fun r18 hr18 => ?_)
      obtain ⟨hr18, hm18⟩ := hr18
      refine r_last S hI hK hPl5 hSl5 71 (by decide) hF11 (vp_in_nI (show j9 < 49 by omega) (by omega)) dX8_waysOn_42 (fun F19 H19 locs19 eF19 hP19 hS19 => ?_)
      have hW19 := hWl5.up eF19 (ok_L (show (71, 49) ∈ rLL by decide) ⟨_, rfl⟩)
      have hFr19 := hFl5.up eF19 (by simp <;> first | omega | (simp only [isC, isJ] at *; omega))
      obtain ⟨v20, e20⟩ : ∃ y : Int32, y = (nI j9) + Int32.ofInt (-1) := ⟨_, rfl⟩
      have kd20 : v20.toInt = ((j9 : Nat) : Int) - 1 := by rw [e20]; exact nI_dec (by omega)
      refine lv_iinc (v := v20) (lv' := [(1, .int v20), (0, .ref (ad 58))]) S.1 S.2.1 dX8_waysOn_43 hl5 (k := 0) rfl e20.symm (by decide) rfl (fun ls20 hl20 => ?_)
      refine lv_goto (tgt := 9) S.1 S.2.1 dX8_waysOn_46 (by decide) ?_
      exact ih5 (v20) F19 H19 locs19 (by omega) (by omega) (by omega) hW19 hFr19 hP19 hS19 ls20 (lv_sub hl20 [0, 1] rfl)
  have kt21 := nI_toInt (n := 47) (by decide)
  exact lp5 (((nI 47).toInt + 1).toNat + 1) ((nI 47)) F1 H1 locs1 (by omega) (by omega) (by omega) hW1 hFr1 hP1 hS1 ls4 (lv_sub hl4 [0, 1] rfl)
set_option maxHeartbeats 4000000 in
set_option maxRecDepth 100000 in
theorem c_X8_was (l : Launch) (D : va_G) (cA ad : Nat → Nat) (t : Nat) (hI : rI ad) (F : Nat → va_E) (hW : WT cA ad F) (p1 : Int32) : MI l D cA ad t yX8_was wsX8_was { frames := 5, cells := 0, slots := 0, locals := 129 } [.ref (ad 58), .int p1] F (fun r F' => WT cA ad F' ∧ rFr [71] F F' ∧ (True)) := by
  refine en_I rfl (by decide +kernel) (Nat.le_of_ble_eq_true rfl) ?_
  intro p e s m args below meth c ls0 Q S hK hZ hP hS hl0 hret
  have hl0 : lv_has ls0 2 [(0, .ref (ad 58)), (1, .int p1)] := hl0
  have hFr : rFr [71] F F := rFr.rf
  have hiX8 : ∀ w ∈ u_ws RX8 TX8 23, w ∈ wsX8_was := in_wsX8_was_3
  refine lv_iload_n S.1 S.2.1 dX8_was_0 rfl (lv_at hl0 1 rfl) ?_
  refine lv_iconst (v := (nI 0)) S.1 S.2.1 dX8_was_1 (by decide +kernel) ?_
  refine lv_bipush (v := (nI 48)) S.1 S.2.1 dX8_was_2 (by decide +kernel) ?_
  refine r_cSp (As := [.int p1, .int (nI 0), .int (nI 48)]) (rest := []) S hK hZ hP hS hl0.1 (c_X8_in l D cA ad t hI F hW p1 (nI 0) (nI 48)) (va_cwS 3 S.2.2.2.2 gX8_was_X8_in rfl rfl rfl (by decide +kernel) ⟨Nat.le_of_ble_eq_true rfl, Nat.le_of_ble_eq_true rfl⟩) rfl rfl (Nat.le_of_ble_eq_true rfl) ⟨Nat.zero_le _, Nat.zero_le _⟩ dX8_was_4 (fun r1 hr1 => ?_)
  obtain ⟨hr1, hm1⟩ := hr1
  obtain ⟨⟨b2, hb2, rfl⟩, hx2, hz2⟩ := hr1
  have ta3 : (p1 : Int32).toInt = p1.toInt := rfl
  have ta4 : ((nI 0) : Int32).toInt = ((0 : Nat) : Int) := (nI_toInt (n := 0) (by decide))
  have ta5 : ((nI 48) : Int32).toInt = ((48 : Nat) : Int) := (nI_toInt (n := 48) (by decide))
  have hy2 : b2 ≠ 0 → ((0 : Nat) : Int) ≤ p1.toInt ∧ p1.toInt ≤ ((48 : Nat) : Int) := fun q => by have h9 := hx2 (nI_ne0 (by omega) (by omega)); omega
  have hu2 : b2 = 0 → p1.toInt < ((0 : Nat) : Int) ∨ ((48 : Nat) : Int) < p1.toInt := fun q => by have h9 := hz2 (by rw [q]; rfl); omega
  refine lv_if_ne (tgt := 13) S.1 S.2.1 dX8_was_7 (by decide) (fun c6 => ?_) (fun c6 => ?_)
  · skip
    have k7 := ci_ne (nI_toInt (n := b2) (Nat.lt_of_le_of_lt hb2 (by decide))) z_ti c6
    obtain ⟨j8, hj8, rfl⟩ := nI_of_le (x := p1) (B := 48) (by omega) (by omega)
    have kj8 := nI_toInt (n := j8) (Nat.lt_of_le_of_lt hj8 (by decide))
    refine lv_aload_n S.1 S.2.1 dX8_was_13 rfl (lv_at hl0 0 rfl) ?_
    obtain ⟨ty10, kn10, no10, en10, at10, sa10, sd10, wr10, pl10, va10, hF10, hb10_1, hb10_2, hb10_3, hb10_4, hb10_5, hb10_6⟩ := wt_m hW
    refine r_cVv (As := []) (rest := []) S hK hZ hP hS hl0.1 58 (by decide) hF10 (C := RX8) rfl (c_X8_waysOn l D cA ad t hI F hW ) (cwV 0 S.2.2.2.2 gX8_was_X8_waysOn rfl rfl rfl (by decide +kernel) ⟨Nat.le_of_ble_eq_true rfl, Nat.le_of_ble_eq_true rfl⟩) rfl rfl (Nat.le_of_ble_eq_true rfl) ⟨Nat.zero_le _, Nat.zero_le _⟩ dX8_was_14 (fun F9 H9 locs9 hr9 hP9 hS9 => ?_)
    obtain ⟨hW9, hFc9, hr9⟩ := hr9
    have hFr9 := hFr.tr hFc9 (by simp <;> first | omega | (simp only [isC, isJ] at *; omega))
    refine lv_aload_n S.1 S.2.1 dX8_was_17 rfl (lv_at hl0 0 rfl) ?_
    have hF11 := (hFc9 58 (by decide)).trans hF10
    refine r_get S hK hP9 58 (by decide) hF11 (C := RX8) (T := TX8) (N := 23) hiX8 rfl 22 (by decide) (am_at in_wsX8_was_0 1 rfl) (v := .ref (ad 71)) rfl dX8_was_18 ?_
    refine lv_iload_n S.1 S.2.1 dX8_was_21 rfl (lv_at hl0 1 rfl) ?_
    obtain ⟨g12, hF12⟩ := wt_L hW9 (show (71, 49) ∈ rLL by decide)
    refine r_lald S hK hP9 71 (by decide) hF12 (vp_in_nI (show j8 < 49 by omega) (by omega)) dX8_was_22 ?_
    refine lv_topl (fun v14 e14 => ?_)
    refine r_cSp (As := [.long v14]) (rest := []) S hK hZ hP9 hS9 hl0.1 (c_X8_towns l D cA ad t hI F9 hW9 v14) (va_cwS 1 S.2.2.2.2 gX8_was_X8_towns rfl rfl rfl (by decide +kernel) ⟨Nat.le_of_ble_eq_true rfl, Nat.le_of_ble_eq_true rfl⟩) rfl rfl (Nat.le_of_ble_eq_true rfl) ⟨Nat.zero_le _, Nat.zero_le _⟩ dX8_was_23 (fun r15 hr15 => ?_)
    obtain ⟨hr15, hm15⟩ := hr15
    exact hret 26 _ _ _ _ _ dX8_was_26 rfl hP9 hS9 ⟨hW9, hFr9, trivial⟩
  have k16 := ci_eq (nI_toInt (n := b2) (Nat.lt_of_le_of_lt hb2 (by decide))) z_ti c6
  refine lv_ldc (v := (-1000000002)) S.1 S.2.1 S.2.2.2.1 (S.2.2.2.2 (.constant RX8 59 (-1000000002)) (am_at in_wsX8_was_0 0 rfl)) dX8_was_10 ?_
  exact hret 12 _ _ _ _ _ dX8_was_12 rfl hP hS ⟨hW, hFr, trivial⟩
set_option maxHeartbeats 4000000 in
set_option maxRecDepth 100000 in
theorem c_X8_ask (l : Launch) (D : va_G) (cA ad : Nat → Nat) (t : Nat) (hI : rI ad) (F : Nat → va_E) (hW : WT cA ad F) : MI l D cA ad t yX8_ask wsX8_ask { frames := 5, cells := 0, slots := 0, locals := 129 } [.ref (ad 58)] F (fun r F' => WT cA ad F' ∧ rFr [71] F F' ∧ (True)) := by
  refine en_I rfl (by decide +kernel) (Nat.le_of_ble_eq_true rfl) ?_
  intro p e s m args below meth c ls0 Q S hK hZ hP hS hl0 hret
  have hl0 : lv_has ls0 5 [(0, .ref (ad 58))] := hl0
  have hFr : rFr [71] F F := rFr.rf
  have hiX8 : ∀ w ∈ u_ws RX8 TX8 23, w ∈ wsX8_ask := in_wsX8_ask_3
  refine lv_aload_n S.1 S.2.1 dX8_ask_0 rfl (lv_at hl0 0 rfl) ?_
  obtain ⟨ty2, kn2, no2, en2, at2, sa2, sd2, wr2, pl2, va2, hF2, hb2_1, hb2_2, hb2_3, hb2_4, hb2_5, hb2_6⟩ := wt_m hW
  refine r_cVv (As := []) (rest := []) S hK hZ hP hS hl0.1 58 (by decide) hF2 (C := RX8) rfl (c_X8_waysOn l D cA ad t hI F hW ) (cwV 0 S.2.2.2.2 gX8_ask_X8_waysOn rfl rfl rfl (by decide +kernel) ⟨Nat.le_of_ble_eq_true rfl, Nat.le_of_ble_eq_true rfl⟩) rfl rfl (Nat.le_of_ble_eq_true rfl) ⟨Nat.zero_le _, Nat.zero_le _⟩ dX8_ask_1 (fun F1 H1 locs1 hr1 hP1 hS1 => ?_)
  obtain ⟨hW1, hFc1, hr1⟩ := hr1
  have hFr1 := hFr.tr hFc1 (by simp <;> first | omega | (simp only [isC, isJ] at *; omega))
  refine lv_iconst (v := (-1)) S.1 S.2.1 dX8_ask_4 (by decide +kernel) ?_
  refine lv_istore_n (lv' := [(1, .int (-1)), (0, .ref (ad 58))]) S.1 S.2.1 dX8_ask_5 rfl hl0 (by decide) rfl (fun ls3 hl3 => ?_)
  refine lv_iconst (v := (nI 1)) S.1 S.2.1 dX8_ask_6 (by decide +kernel) ?_
  refine lv_istore_n (lv' := [(2, .int (nI 1)), (1, .int (-1)), (0, .ref (ad 58))]) S.1 S.2.1 dX8_ask_7 rfl hl3 (by decide) rfl (fun ls4 hl4 => ?_)
  refine lv_iconst (v := (nI 1)) S.1 S.2.1 dX8_ask_8 (by decide +kernel) ?_
  refine lv_istore_n (lv' := [(3, .int (nI 1)), (2, .int (nI 1)), (1, .int (-1)), (0, .ref (ad 58))]) S.1 S.2.1 dX8_ask_9 rfl hl4 (by decide) rfl (fun ls5 hl5 => ?_)
  have lp6 : ∀ (n6 : Nat) (q36 : Nat) (x6_2 : Int32) (x6_1 : Int32), 1 ≤ q36 ∧ q36 ≤ 49 → 49 - q36 < n6 → ∀ (ls : Array Slot), lv_has ls 5 [(3, .int (nI q36)), (2, .int x6_2), (1, .int x6_1), (0, .ref (ad 58))] → W p l e { frames := 5, cells := 0, slots := 0, locals := 129 } s m args below meth c H1 locs1 0 0 Q (F0 m 10 ls []) := by
    intro n6
    induction n6 with
    | zero =>
      intro q36 x6_2 x6_1 iv6_0 hm6 ls6 hl6
      exact absurd hm6 (Nat.not_lt_zero _)
    | succ n6 ih6 =>
      intro q36 x6_2 x6_1 iv6_0 hm6 ls6 hl6
      refine lv_iload_n S.1 S.2.1 dX8_ask_10 rfl (lv_at hl6 0 rfl) ?_
      refine lv_bipush (v := (nI 48)) S.1 S.2.1 dX8_ask_11 (by decide +kernel) ?_
      refine lv_icmp_gt (tgt := 61) S.1 S.2.1 dX8_ask_13 (by decide) (fun c7 => ?_) (fun c7 => ?_)
      · skip
        have k8 := ci_lt (nI_toInt (n := 48) (by decide)) (nI_toInt (n := q36) (by omega)) c7
        refine lv_iload_n S.1 S.2.1 dX8_ask_61 rfl (lv_at hl6 2 rfl) ?_
        exact hret 62 _ _ _ _ _ dX8_ask_62 rfl hP1 hS1 ⟨hW1, hFr1, trivial⟩
      have k9 := ci_nlt (nI_toInt (n := 48) (by decide)) (nI_toInt (n := q36) (by omega)) c7
      refine lv_aload_n S.1 S.2.1 dX8_ask_16 rfl (lv_at hl6 3 rfl) ?_
      have hF10 := (hFc1 58 (by decide)).trans hF2
      refine r_get S hK hP1 58 (by decide) hF10 (C := RX8) (T := TX8) (N := 23) hiX8 rfl 22 (by decide) (am_at in_wsX8_ask_0 0 rfl) (v := .ref (ad 71)) rfl dX8_ask_17 ?_
      refine lv_iload_n S.1 S.2.1 dX8_ask_20 rfl (lv_at hl6 0 rfl) ?_
      obtain ⟨g11, hF11⟩ := wt_L hW1 (show (71, 49) ∈ rLL by decide)
      refine r_lald S hK hP1 71 (by decide) hF11 (vp_in_nI (show q36 < 49 by omega) (by omega)) dX8_ask_21 ?_
      refine lv_topl (fun v13 e13 => ?_)
      refine r_cSp (As := [.long v13]) (rest := []) S hK hZ hP1 hS1 hl6.1 (c_X8_towns l D cA ad t hI F1 hW1 v13) (va_cwS 1 S.2.2.2.2 gX8_ask_X8_towns rfl rfl rfl (by decide +kernel) ⟨Nat.le_of_ble_eq_true rfl, Nat.le_of_ble_eq_true rfl⟩) rfl rfl (Nat.le_of_ble_eq_true rfl) ⟨Nat.zero_le _, Nat.zero_le _⟩ dX8_ask_22 (fun r14 hr14 => ?_)
      obtain ⟨hr14, hm14⟩ := hr14
      refine r_cSp (As := [.int r14]) (rest := []) S hK hZ hP1 hS1 hl6.1 (c_X8_ones l D cA ad t hI F1 hW1 r14) (va_cwS 1 S.2.2.2.2 gX8_ask_X8_ones rfl rfl rfl (by decide +kernel) ⟨Nat.le_of_ble_eq_true rfl, Nat.le_of_ble_eq_true rfl⟩) rfl rfl (Nat.le_of_ble_eq_true rfl) ⟨Nat.zero_le _, Nat.zero_le _⟩ dX8_ask_25 (fun r15 hr15 => ?_)
      obtain ⟨hr15, hm15⟩ := hr15
      refine lv_istore (lv' := [(4, .int r15), (3, .int (nI q36)), (2, .int x6_2), (1, .int x6_1), (0, .ref (ad 58))]) S.1 S.2.1 dX8_ask_28 hl6 (by decide) rfl (fun ls16 hl16 => ?_)
      refine lv_iload S.1 S.2.1 dX8_ask_30 (lv_at hl16 0 rfl) ?_
      refine lv_iload_n S.1 S.2.1 dX8_ask_32 rfl (lv_at hl16 2 rfl) ?_
      refine lv_icmp_le (tgt := 40) S.1 S.2.1 dX8_ask_33 (by decide) (fun c17 => ?_) (fun c17 => ?_)
      · skip
        have k18 := ci_le rfl rfl c17
        refine lv_iload_n S.1 S.2.1 dX8_ask_40 rfl (lv_at hl16 3 rfl) ?_
        refine lv_istore_n (lv' := [(1, .int x6_1), (4, .int r15), (3, .int (nI q36)), (2, .int x6_2), (0, .ref (ad 58))]) S.1 S.2.1 dX8_ask_41 rfl hl16 (by decide) rfl (fun ls19 hl19 => ?_)
        refine lv_iload S.1 S.2.1 dX8_ask_42 (lv_at hl19 1 rfl) ?_
        refine lv_iload_n S.1 S.2.1 dX8_ask_44 rfl (lv_at hl19 3 rfl) ?_
        refine lv_icmp_le (tgt := 53) S.1 S.2.1 dX8_ask_45 (by decide) (fun c20 => ?_) (fun c20 => absurd c17 c20)
        have k21 := ci_le rfl rfl c20
        refine lv_iload_n S.1 S.2.1 dX8_ask_53 rfl (lv_at hl19 3 rfl) ?_
        refine lv_istore_n (lv' := [(2, .int x6_2), (1, .int x6_1), (4, .int r15), (3, .int (nI q36)), (0, .ref (ad 58))]) S.1 S.2.1 dX8_ask_54 rfl hl19 (by decide) rfl (fun ls22 hl22 => ?_)
        refine lv_iinc (v := (nI (q36 + 1))) (lv' := [(3, .int (nI (q36 + 1))), (2, .int x6_2), (1, .int x6_1), (4, .int r15), (0, .ref (ad 58))]) S.1 S.2.1 dX8_ask_55 hl22 (k := 3) rfl (nI_add _ 1) (by decide) rfl (fun ls23 hl23 => ?_)
        refine lv_goto (tgt := 10) S.1 S.2.1 dX8_ask_58 (by decide) ?_
        exact ih6 (q36 + 1) (x6_2) (x6_1) (by omega) (by omega) ls23 (lv_sub hl23 [0, 1, 2, 4] rfl)
      have k24 := ci_nle rfl rfl c17
      refine lv_iload_n S.1 S.2.1 dX8_ask_36 rfl (lv_at hl16 1 rfl) ?_
      refine lv_goto (tgt := 41) S.1 S.2.1 dX8_ask_37 (by decide) ?_
      refine lv_istore_n (lv' := [(1, .int (nI q36)), (4, .int r15), (3, .int (nI q36)), (2, .int x6_2), (0, .ref (ad 58))]) S.1 S.2.1 dX8_ask_41 rfl hl16 (by decide) rfl (fun ls25 hl25 => ?_)
      refine lv_iload S.1 S.2.1 dX8_ask_42 (lv_at hl25 1 rfl) ?_
      refine lv_iload_n S.1 S.2.1 dX8_ask_44 rfl (lv_at hl25 3 rfl) ?_
      refine lv_icmp_le (tgt := 53) S.1 S.2.1 dX8_ask_45 (by decide) (fun c26 => absurd c26 c17) (fun c26 => ?_)
      have k27 := ci_nle rfl rfl c26
      refine lv_iload S.1 S.2.1 dX8_ask_48 (lv_at hl25 1 rfl) ?_
      refine lv_goto (tgt := 54) S.1 S.2.1 dX8_ask_50 (by decide) ?_
      refine lv_istore_n (lv' := [(2, .int r15), (1, .int (nI q36)), (4, .int r15), (3, .int (nI q36)), (0, .ref (ad 58))]) S.1 S.2.1 dX8_ask_54 rfl hl25 (by decide) rfl (fun ls28 hl28 => ?_)
      refine lv_iinc (v := (nI (q36 + 1))) (lv' := [(3, .int (nI (q36 + 1))), (2, .int r15), (1, .int (nI q36)), (4, .int r15), (0, .ref (ad 58))]) S.1 S.2.1 dX8_ask_55 hl28 (k := 3) rfl (nI_add _ 1) (by decide) rfl (fun ls29 hl29 => ?_)
      refine lv_goto (tgt := 10) S.1 S.2.1 dX8_ask_58 (by decide) ?_
      exact ih6 (q36 + 1) (r15) ((nI q36)) (by omega) (by omega) ls29 (lv_sub hl29 [0, 1, 2, 4] rfl)
  exact lp6 (49 - (1) + 1) (1) ((nI 1)) ((-1)) (by omega) (by omega) ls5 (lv_sub hl5 [0, 1, 2, 3] rfl)
noncomputable def m_X8_write_24 (σ : SS) (a0 : Int32) : Int32 × SS :=
  ((σ 58 13), σ)
noncomputable def m_X8_write_17 (σ : SS) (a0 : Int32) : Int32 × SS :=
  m_X8_write_24 (st σ 58 13 ((σ 58 13) + (nI 1))) a0
noncomputable def m_X8_write (σ : SS) (a0 : Int32) : Int32 × SS :=
  if (m_X8_in σ a0 (nI 0) (nI 9999)) = (0 : Int32) then
    (((-1000000002) : Int32), σ)
  else
    if (σ 58 13) = (nI 15) then
      (((-1000000004) : Int32), σ)
    else
      m_X8_write_17 (st σ 67 (rl (σ 58 13)) a0) a0
set_option maxHeartbeats 4000000 in
set_option maxRecDepth 100000 in
theorem c_X8_write (l : Launch) (D : va_G) (cA ad : Nat → Nat) (t : Nat) (hI : rI ad) (F : Nat → va_E) (hW : WT cA ad F) (p1 : Int32) : MI l D cA ad t yX8_write wsX8_write { frames := 1, cells := 0, slots := 0, locals := 22 } [.ref (ad 58), .int p1] F (fun r F' => WT cA ad F' ∧ rFr [58, 67] F F' ∧ ((fN (F' 58) 1 = fN (F 58) 1) ∧ m_X8_write (AB ad F) p1 = (r, AB ad F'))) := by
  refine en_I rfl (by decide +kernel) (Nat.le_of_ble_eq_true rfl) ?_
  intro p e s m args below meth c ls0 Q S hK hZ hP hS hl0 hret
  have hl0 : lv_has ls0 2 [(0, .ref (ad 58)), (1, .int p1)] := hl0
  have hFr : rFr [58, 67] F F := rFr.rf
  have hiX8 : ∀ w ∈ u_ws RX8 TX8 23, w ∈ wsX8_write := in_wsX8_write_1
  obtain ⟨M, hM⟩ : ∃ M, M = m_X8_write (AB ad F) p1 := ⟨_, rfl⟩
  obtain ⟨ty1, kn1, no1, en1, at1, sa1, sd1, wr1, pl1, va1, hF1, hb1_1, hb1_2, hb1_3, hb1_4, hb1_5, hb1_6⟩ := wt_m hW
  have hA2 := fN_of (k := 14) (a := at1) hF1 rfl (Nat.lt_of_le_of_lt hb1_5 (by decide))
  have hL2 := fN_of (k := 1) (a := ty1) hF1 rfl (Nat.lt_of_le_of_lt hb1_1 (by decide))
  refine lv_iload_n S.1 S.2.1 dX8_write_0 rfl (lv_at hl0 1 rfl) ?_
  refine lv_iconst (v := (nI 0)) S.1 S.2.1 dX8_write_1 (by decide +kernel) ?_
  refine lv_sipush (v := (nI 9999)) S.1 S.2.1 dX8_write_2 (by decide +kernel) ?_
  refine r_cSp (As := [.int p1, .int (nI 0), .int (nI 9999)]) (rest := []) S hK hZ hP hS hl0.1 (c_X8_in l D cA ad t hI F hW p1 (nI 0) (nI 9999)) (va_cwS 3 S.2.2.2.2 gX8_write_X8_in rfl rfl rfl (by decide +kernel) ⟨Nat.le_of_ble_eq_true rfl, Nat.le_of_ble_eq_true rfl⟩) rfl rfl (Nat.le_of_ble_eq_true rfl) ⟨Nat.zero_le _, Nat.zero_le _⟩ dX8_write_5 (fun r3 hr3 => ?_)
  obtain ⟨hr3, hm3⟩ := hr3
  obtain ⟨⟨b4, hb4, rfl⟩, hx4, hz4⟩ := hr3
  have ta5 : (p1 : Int32).toInt = p1.toInt := rfl
  have ta6 : ((nI 0) : Int32).toInt = ((0 : Nat) : Int) := (nI_toInt (n := 0) (by decide))
  have ta7 : ((nI 9999) : Int32).toInt = ((9999 : Nat) : Int) := (nI_toInt (n := 9999) (by decide))
  have hy4 : b4 ≠ 0 → ((0 : Nat) : Int) ≤ p1.toInt ∧ p1.toInt ≤ ((9999 : Nat) : Int) := fun q => by have h9 := hx4 (nI_ne0 (by omega) (by omega)); omega
  have hu4 : b4 = 0 → p1.toInt < ((0 : Nat) : Int) ∨ ((9999 : Nat) : Int) < p1.toInt := fun q => by have h9 := hz4 (by rw [q]; rfl); omega
  have m8 : (m_X8_in (AB ad F) p1 (nI 0) (nI 9999)) = (nI b4) := (congr (congr (congr (Eq.refl (m_X8_in (AB ad F))) (Eq.refl (p1 : Int32))) (Eq.refl ((nI 0) : Int32))) (Eq.refl ((nI 9999) : Int32))).trans hm3
  refine lv_if_ne (tgt := 14) S.1 S.2.1 dX8_write_8 (by decide) (fun c9 => ?_) (fun c9 => ?_)
  · skip
    have k10 := ci_ne (nI_toInt (n := b4) (Nat.lt_of_le_of_lt hb4 (by decide))) z_ti c9
    refine lv_aload_n S.1 S.2.1 dX8_write_14 rfl (lv_at hl0 0 rfl) ?_
    refine r_get S hK hP 58 (by decide) hF1 (C := RX8) (T := TX8) (N := 23) hiX8 rfl 13 (by decide) (am_at in_wsX8_write_0 1 rfl) (v := .int (nI en1)) rfl dX8_write_15 ?_
    have m11 : ((AB ad F) 58 13) = (nI en1) := AB_f hF1 rfl
    refine lv_bipush (v := (nI 15)) S.1 S.2.1 dX8_write_18 (by decide +kernel) ?_
    refine lv_icmp_ne (tgt := 26) S.1 S.2.1 dX8_write_20 (by decide) (fun c12 => ?_) (fun c12 => ?_)
    · skip
      have k13 := ci_ne (nI_toInt (n := en1) (by omega)) (nI_toInt (n := 15) (by decide)) c12
      refine lv_aload_n S.1 S.2.1 dX8_write_26 rfl (lv_at hl0 0 rfl) ?_
      refine r_get S hK hP 58 (by decide) hF1 (C := RX8) (T := TX8) (N := 23) hiX8 rfl 12 (by decide) (am_at in_wsX8_write_0 3 rfl) (v := .ref (ad 67)) rfl dX8_write_27 ?_
      refine lv_aload_n S.1 S.2.1 dX8_write_30 rfl (lv_at hl0 0 rfl) ?_
      refine r_get S hK hP 58 (by decide) hF1 (C := RX8) (T := TX8) (N := 23) hiX8 rfl 13 (by decide) (am_at in_wsX8_write_0 1 rfl) (v := .int (nI en1)) rfl dX8_write_31 ?_
      have m14 : ((AB ad F) 58 13) = (nI en1) := AB_f hF1 rfl
      refine lv_iload_n S.1 S.2.1 dX8_write_34 rfl (lv_at hl0 1 rfl) ?_
      obtain ⟨g15, hF15, hg15⟩ := wt_I hW (show (67, 15) ∈ rLI by decide)
      refine r_iast S hI hK hP hS 67 (by decide) hF15 (vp_in_nI (show en1 < 15 by omega) (by omega)) dX8_write_35 (fun F16 H16 locs16 eF16 hP16 hS16 => ?_)
      have hW16 := hW.up eF16 (ok_I (show (67, 15) ∈ rLI by decide) (okI_up hg15 (pr_of (by decide))))
      have hFr16 := hFr.up eF16 (by simp <;> first | omega | (simp only [isC, isJ] at *; omega))
      have hE18 : M = m_X8_write_17 (AB ad F16) p1 := hM.trans ((show m_X8_write (AB ad F) p1 = m_X8_write_17 (st (AB ad F) 67 (rl ((AB ad F) 58 13)) p1) p1 from by unfold m_X8_write; rw [if_neg (neq_cg m8 rfl c9), if_neg (neq_cg m11 rfl c12)]).trans (congr (congrArg (m_X8_write_17) ((st_cg rfl (congrArg rl m14) rfl).trans (AB_ast hF15 eF16).symm)) (Eq.refl (p1 : Int32))))
      refine lv_aload_n S.1 S.2.1 dX8_write_36 rfl (lv_at hl0 0 rfl) ?_
      refine lv_dup S.1 S.2.1 dX8_write_37 rfl ?_
      have hF19 := (show F16 58 = F 58 by rw [eF16]; exact va_up_ne _ _ (by decide)).trans hF1
      refine r_get S hK hP16 58 (by decide) hF19 (C := RX8) (T := TX8) (N := 23) hiX8 rfl 13 (by decide) (am_at in_wsX8_write_0 1 rfl) (v := .int (nI en1)) rfl dX8_write_38 ?_
      have m20 : ((AB ad F16) 58 13) = (nI en1) := AB_f hF19 rfl
      refine lv_iconst (v := (nI 1)) S.1 S.2.1 dX8_write_41 (by decide +kernel) ?_
      refine lv_iadd S.1 S.2.1 dX8_write_42 ?_
      refine lv_topi (fun v21 e21 => ?_)
      obtain rfl : v21 = nI (en1 + 1) := e21.trans (nI_add _ _)
      have m22 : (((AB ad F16) 58 13) + (nI 1)) = (nI (en1 + 1)) := cg2 (fun (x : Int32) (y : Int32) => x + y) m20 (Eq.refl ((nI 1) : Int32)) e21
      refine r_put S hI hK hP16 hS16 58 (by decide) hF19 (C := RX8) (T := TX8) (N := 23) hiX8 tyX8_ok nmX8 rfl 13 (by decide) (am_at in_wsX8_write_0 1 rfl) rfl rfl rfl (Nat.le_of_ble_eq_true rfl) dX8_write_43 (fun F23 H23 locs23 eF23 hP23 hS23 => ?_)
      have hF23 : F23 58 = .inr (8, [.ref (ad 59), .int (nI ty1), .ref (ad 60), .ref (ad 61), .ref (ad 62), .ref (ad 63), .int (nI kn1), .ref (ad 64), .ref (ad 65), .int sd1, .ref (ad 66), .int (nI no1), .ref (ad 67), .int (nI (en1 + 1)), .int (nI at1), .int wr1, .int pl1, .int va1, .int (nI sa1), .ref (ad 68), .ref (ad 69), .ref (ad 70), .ref (ad 71)]) := by rw [eF23]; exact va_up_self _ _ _
      have hW23 := hW16.up eF23 (ok_m ⟨ty1, kn1, no1, en1 + 1, at1, sa1, sd1, wr1, pl1, va1, rfl, by omega, by omega, by omega, by omega, by omega, by omega⟩)
      have hFr23 := hFr16.up eF23 (by simp <;> first | omega | (simp only [isC, isJ] at *; omega))
      have hE25 : M = m_X8_write_24 (AB ad F23) p1 := hE18.trans ((show m_X8_write_17 (AB ad F16) p1 = m_X8_write_24 (st (AB ad F16) 58 13 (((AB ad F16) 58 13) + (nI 1))) p1 from rfl).trans (congr (congrArg (m_X8_write_24) ((st_cg rfl rfl m22).trans (AB_put hF19 (Nat.le_of_ble_eq_true rfl) eF23).symm)) (Eq.refl (p1 : Int32))))
      refine lv_aload_n S.1 S.2.1 dX8_write_46 rfl (lv_at hl0 0 rfl) ?_
      refine r_get S hK hP23 58 (by decide) hF23 (C := RX8) (T := TX8) (N := 23) hiX8 rfl 13 (by decide) (am_at in_wsX8_write_0 1 rfl) (v := .int (nI (en1 + 1))) rfl dX8_write_47 ?_
      have m26 : ((AB ad F23) 58 13) = (nI (en1 + 1)) := AB_f hF23 rfl
      have hA27 := fN_of (k := 14) (a := at1) hF23 rfl (Nat.lt_of_le_of_lt hb1_5 (by decide))
      have hL27 := fN_of (k := 1) (a := ty1) hF23 rfl (Nat.lt_of_le_of_lt hb1_1 (by decide))
      have hE28 : M = ((nI (en1 + 1)), AB ad F23) := hE25.trans ((show m_X8_write_24 (AB ad F23) p1 = (((AB ad F23) 58 13), (AB ad F23)) from rfl).trans (congrArg (fun q => (q, AB ad F23)) m26))
      exact hret 50 _ _ _ _ _ dX8_write_50 rfl hP23 hS23 ⟨hW23, hFr23, ⟨by omega, hM.symm.trans hE28⟩⟩
    have k29 := ci_eq (nI_toInt (n := en1) (by omega)) (nI_toInt (n := 15) (by decide)) c12
    refine lv_ldc (v := (-1000000004)) S.1 S.2.1 S.2.2.2.1 (S.2.2.2.2 (.constant RX8 63 (-1000000004)) (am_at in_wsX8_write_0 2 rfl)) dX8_write_23 ?_
    have hA30 := fN_of (k := 14) (a := at1) hF1 rfl (Nat.lt_of_le_of_lt hb1_5 (by decide))
    have hL30 := fN_of (k := 1) (a := ty1) hF1 rfl (Nat.lt_of_le_of_lt hb1_1 (by decide))
    have hE31 : M = ((-1000000004), AB ad F) := hM.trans ((show m_X8_write (AB ad F) p1 = (((-1000000004) : Int32), (AB ad F)) from by unfold m_X8_write; rw [if_neg (neq_cg m8 rfl c9), if_pos (eq_cg m11 rfl c12)]).trans (congrArg (fun q => (q, AB ad F)) rfl))
    exact hret 25 _ _ _ _ _ dX8_write_25 rfl hP hS ⟨hW, hFr, ⟨by omega, hM.symm.trans hE31⟩⟩
  have k32 := ci_eq (nI_toInt (n := b4) (Nat.lt_of_le_of_lt hb4 (by decide))) z_ti c9
  refine lv_ldc (v := (-1000000002)) S.1 S.2.1 S.2.2.2.1 (S.2.2.2.2 (.constant RX8 59 (-1000000002)) (am_at in_wsX8_write_0 0 rfl)) dX8_write_11 ?_
  have hA33 := fN_of (k := 14) (a := at1) hF1 rfl (Nat.lt_of_le_of_lt hb1_5 (by decide))
  have hL33 := fN_of (k := 1) (a := ty1) hF1 rfl (Nat.lt_of_le_of_lt hb1_1 (by decide))
  have hE34 : M = ((-1000000002), AB ad F) := hM.trans ((show m_X8_write (AB ad F) p1 = (((-1000000002) : Int32), (AB ad F)) from by unfold m_X8_write; rw [if_pos (eq_cg m8 rfl c9)]).trans (congrArg (fun q => (q, AB ad F)) rfl))
  exact hret 13 _ _ _ _ _ dX8_write_13 rfl hP hS ⟨hW, hFr, ⟨by omega, hM.symm.trans hE34⟩⟩
noncomputable def m_X8_tear_12 (σ : SS) (a0 : Int32) : Int32 × SS :=
  (a0, σ)
noncomputable def m_X8_tear_9 (σ : SS) (a0 : Int32) : Int32 × SS :=
  m_X8_tear_12 (st σ 58 13 (nI 0)) a0
noncomputable def m_X8_tear (σ : SS) : Int32 × SS :=
  m_X8_tear_9 (st σ 58 11 (nI 0)) ((σ 58 11) + (σ 58 13))
set_option maxHeartbeats 4000000 in
set_option maxRecDepth 100000 in
theorem c_X8_tear (l : Launch) (D : va_G) (cA ad : Nat → Nat) (t : Nat) (hI : rI ad) (F : Nat → va_E) (hW : WT cA ad F) : MI l D cA ad t yX8_tear wsX8_tear { frames := 0, cells := 0, slots := 0, locals := 0 } [.ref (ad 58)] F (fun r F' => WT cA ad F' ∧ rFr [58] F F' ∧ ((fN (F' 58) 1 = fN (F 58) 1) ∧ m_X8_tear (AB ad F) = (r, AB ad F'))) := by
  refine en_I rfl (by decide +kernel) (Nat.le_of_ble_eq_true rfl) ?_
  intro p e s m args below meth c ls0 Q S hK hZ hP hS hl0 hret
  have hl0 : lv_has ls0 2 [(0, .ref (ad 58))] := hl0
  have hFr : rFr [58] F F := rFr.rf
  have hiX8 : ∀ w ∈ u_ws RX8 TX8 23, w ∈ wsX8_tear := in_wsX8_tear_1
  obtain ⟨M, hM⟩ : ∃ M, M = m_X8_tear (AB ad F) := ⟨_, rfl⟩
  obtain ⟨ty1, kn1, no1, en1, at1, sa1, sd1, wr1, pl1, va1, hF1, hb1_1, hb1_2, hb1_3, hb1_4, hb1_5, hb1_6⟩ := wt_m hW
  have hA2 := fN_of (k := 14) (a := at1) hF1 rfl (Nat.lt_of_le_of_lt hb1_5 (by decide))
  have hL2 := fN_of (k := 1) (a := ty1) hF1 rfl (Nat.lt_of_le_of_lt hb1_1 (by decide))
  refine lv_aload_n S.1 S.2.1 dX8_tear_0 rfl (lv_at hl0 0 rfl) ?_
  refine r_get S hK hP 58 (by decide) hF1 (C := RX8) (T := TX8) (N := 23) hiX8 rfl 11 (by decide) (am_at in_wsX8_tear_0 0 rfl) (v := .int (nI no1)) rfl dX8_tear_1 ?_
  have m3 : ((AB ad F) 58 11) = (nI no1) := AB_f hF1 rfl
  refine lv_aload_n S.1 S.2.1 dX8_tear_4 rfl (lv_at hl0 0 rfl) ?_
  refine r_get S hK hP 58 (by decide) hF1 (C := RX8) (T := TX8) (N := 23) hiX8 rfl 13 (by decide) (am_at in_wsX8_tear_0 1 rfl) (v := .int (nI en1)) rfl dX8_tear_5 ?_
  have m4 : ((AB ad F) 58 13) = (nI en1) := AB_f hF1 rfl
  refine lv_iadd S.1 S.2.1 dX8_tear_8 ?_
  refine lv_topi (fun v5 e5 => ?_)
  obtain rfl : v5 = nI (no1 + en1) := e5.trans (nI_add _ _)
  have m6 : (((AB ad F) 58 11) + ((AB ad F) 58 13)) = (nI (no1 + en1)) := cg2 (fun (x : Int32) (y : Int32) => x + y) m3 m4 e5
  refine lv_istore_n (lv' := [(1, .int (nI (no1 + en1))), (0, .ref (ad 58))]) S.1 S.2.1 dX8_tear_9 rfl hl0 (by decide) rfl (fun ls7 hl7 => ?_)
  refine lv_aload_n S.1 S.2.1 dX8_tear_10 rfl (lv_at hl7 1 rfl) ?_
  refine lv_iconst (v := (nI 0)) S.1 S.2.1 dX8_tear_11 (by decide +kernel) ?_
  refine r_put S hI hK hP hS 58 (by decide) hF1 (C := RX8) (T := TX8) (N := 23) hiX8 tyX8_ok nmX8 rfl 11 (by decide) (am_at in_wsX8_tear_0 0 rfl) rfl rfl rfl (Nat.le_of_ble_eq_true rfl) dX8_tear_12 (fun F8 H8 locs8 eF8 hP8 hS8 => ?_)
  have hF8 : F8 58 = .inr (8, [.ref (ad 59), .int (nI ty1), .ref (ad 60), .ref (ad 61), .ref (ad 62), .ref (ad 63), .int (nI kn1), .ref (ad 64), .ref (ad 65), .int sd1, .ref (ad 66), .int (nI 0), .ref (ad 67), .int (nI en1), .int (nI at1), .int wr1, .int pl1, .int va1, .int (nI sa1), .ref (ad 68), .ref (ad 69), .ref (ad 70), .ref (ad 71)]) := by rw [eF8]; exact va_up_self _ _ _
  have hW8 := hW.up eF8 (ok_m ⟨ty1, kn1, 0, en1, at1, sa1, sd1, wr1, pl1, va1, rfl, by omega, by omega, by omega, by omega, by omega, by omega⟩)
  have hFr8 := hFr.up eF8 (by simp <;> first | omega | (simp only [isC, isJ] at *; omega))
  have hE10 : M = m_X8_tear_9 (AB ad F8) (nI (no1 + en1)) := hM.trans ((show m_X8_tear (AB ad F) = m_X8_tear_9 (st (AB ad F) 58 11 (nI 0)) (((AB ad F) 58 11) + ((AB ad F) 58 13)) from rfl).trans (congr (congrArg (m_X8_tear_9) ((st_cg rfl rfl rfl).trans (AB_put hF1 (Nat.le_of_ble_eq_true rfl) eF8).symm)) m6))
  refine lv_aload_n S.1 S.2.1 dX8_tear_15 rfl (lv_at hl7 1 rfl) ?_
  refine lv_iconst (v := (nI 0)) S.1 S.2.1 dX8_tear_16 (by decide +kernel) ?_
  refine r_put S hI hK hP8 hS8 58 (by decide) hF8 (C := RX8) (T := TX8) (N := 23) hiX8 tyX8_ok nmX8 rfl 13 (by decide) (am_at in_wsX8_tear_0 1 rfl) rfl rfl rfl (Nat.le_of_ble_eq_true rfl) dX8_tear_17 (fun F11 H11 locs11 eF11 hP11 hS11 => ?_)
  have hF11 : F11 58 = .inr (8, [.ref (ad 59), .int (nI ty1), .ref (ad 60), .ref (ad 61), .ref (ad 62), .ref (ad 63), .int (nI kn1), .ref (ad 64), .ref (ad 65), .int sd1, .ref (ad 66), .int (nI 0), .ref (ad 67), .int (nI 0), .int (nI at1), .int wr1, .int pl1, .int va1, .int (nI sa1), .ref (ad 68), .ref (ad 69), .ref (ad 70), .ref (ad 71)]) := by rw [eF11]; exact va_up_self _ _ _
  have hW11 := hW8.up eF11 (ok_m ⟨ty1, kn1, 0, 0, at1, sa1, sd1, wr1, pl1, va1, rfl, by omega, by omega, by omega, by omega, by omega, by omega⟩)
  have hFr11 := hFr8.up eF11 (by simp <;> first | omega | (simp only [isC, isJ] at *; omega))
  have hE13 : M = m_X8_tear_12 (AB ad F11) (nI (no1 + en1)) := hE10.trans ((show m_X8_tear_9 (AB ad F8) (nI (no1 + en1)) = m_X8_tear_12 (st (AB ad F8) 58 13 (nI 0)) (nI (no1 + en1)) from rfl).trans (congr (congrArg (m_X8_tear_12) ((st_cg rfl rfl rfl).trans (AB_put hF8 (Nat.le_of_ble_eq_true rfl) eF11).symm)) (Eq.refl ((nI (no1 + en1)) : Int32))))
  refine lv_iload_n S.1 S.2.1 dX8_tear_20 rfl (lv_at hl7 0 rfl) ?_
  have hA14 := fN_of (k := 14) (a := at1) hF11 rfl (Nat.lt_of_le_of_lt hb1_5 (by decide))
  have hL14 := fN_of (k := 1) (a := ty1) hF11 rfl (Nat.lt_of_le_of_lt hb1_1 (by decide))
  have hE15 : M = ((nI (no1 + en1)), AB ad F11) := hE13.trans ((show m_X8_tear_12 (AB ad F11) (nI (no1 + en1)) = ((nI (no1 + en1)), (AB ad F11)) from rfl).trans (congrArg (fun q => (q, AB ad F11)) rfl))
  exact hret 21 _ _ _ _ _ dX8_tear_21 rfl hP11 hS11 ⟨hW11, hFr11, ⟨by omega, hM.symm.trans hE15⟩⟩
noncomputable def m_X8_judge_L9_7_b (k0 : SS → Int32 → Int32 → Int32) (σ : SS) (a0 : Int32) (a1 : Int32) : Int32 :=
  if a0 < (0 : Int32) then
    a1
  else
    if (σ 67 (rl a0)) = (σ 62 (rl (nI 3))) then
      k0 σ (a0 + Int32.ofInt (-1)) a1
    else
      k0 σ (a0 + Int32.ofInt (-1)) a0
noncomputable def m_X8_judge_L9_7 : Nat → SS → Int32 → Int32 → Int32
  | 0 => fun σ _ _ => 0
  | n + 1 => m_X8_judge_L9_7_b (m_X8_judge_L9_7 n)
noncomputable def m_X8_judge (σ : SS) : Int32 :=
  m_X8_judge_L9_7 2000 σ ((σ 58 13) - (nI 1)) ((-1) : Int32)
set_option maxHeartbeats 4000000 in
set_option maxRecDepth 100000 in
theorem c_X8_judge (l : Launch) (D : va_G) (cA ad : Nat → Nat) (t : Nat) (hI : rI ad) (F : Nat → va_E) (hW : WT cA ad F) : MP l D cA ad t yX8_judge wsX8_judge { frames := 0, cells := 0, slots := 0, locals := 0 } [.ref (ad 58)] F (fun r => (True) ∧ m_X8_judge (AB ad F) = r) := by
  refine en_P rfl (by decide +kernel) (Nat.le_of_ble_eq_true rfl) ?_
  intro p e s m args below meth c ls0 Q S hK hZ hP hS hl0 hret
  have hl0 : lv_has ls0 3 [(0, .ref (ad 58))] := hl0
  have hiX8 : ∀ w ∈ u_ws RX8 TX8 23, w ∈ wsX8_judge := in_wsX8_judge_1
  obtain ⟨M, hM⟩ : ∃ M, M = m_X8_judge (AB ad F) := ⟨_, rfl⟩
  refine lv_iconst (v := (-1)) S.1 S.2.1 dX8_judge_0 (by decide +kernel) ?_
  refine lv_istore_n (lv' := [(1, .int (-1)), (0, .ref (ad 58))]) S.1 S.2.1 dX8_judge_1 rfl hl0 (by decide) rfl (fun ls1 hl1 => ?_)
  refine lv_aload_n S.1 S.2.1 dX8_judge_2 rfl (lv_at hl1 1 rfl) ?_
  obtain ⟨ty2, kn2, no2, en2, at2, sa2, sd2, wr2, pl2, va2, hF2, hb2_1, hb2_2, hb2_3, hb2_4, hb2_5, hb2_6⟩ := wt_m hW
  refine r_get S hK hP 58 (by decide) hF2 (C := RX8) (T := TX8) (N := 23) hiX8 rfl 13 (by decide) (am_at in_wsX8_judge_0 0 rfl) (v := .int (nI en2)) rfl dX8_judge_3 ?_
  have m3 : ((AB ad F) 58 13) = (nI en2) := AB_f hF2 rfl
  refine lv_iconst (v := (nI 1)) S.1 S.2.1 dX8_judge_6 (by decide +kernel) ?_
  refine lv_isub S.1 S.2.1 dX8_judge_7 ?_
  refine lv_topi (fun v4 e4 => ?_)
  have m5 : (((AB ad F) 58 13) - (nI 1)) = v4 := cg2 (fun (x : Int32) (y : Int32) => x - y) m3 (Eq.refl ((nI 1) : Int32)) e4
  have ks4 : v4.toInt = ((en2 : Nat) : Int) - ((1 : Nat) : Int) := by rw [e4]; exact pk_sub_toInt (by omega) (by omega)
  refine lv_istore_n (lv' := [(2, .int v4), (1, .int (-1)), (0, .ref (ad 58))]) S.1 S.2.1 dX8_judge_8 rfl hl1 (by decide) rfl (fun ls6 hl6 => ?_)
  have lp7 : ∀ (n7 : Nat) (x7_2 : Int32) (x7_1 : Int32), -1 ≤ x7_2.toInt → x7_2.toInt ≤ 14 → (x7_2.toInt + 1).toNat < n7 → M = m_X8_judge_L9_7 n7 (AB ad F) x7_2 x7_1 → ∀ (ls : Array Slot), lv_has ls 3 [(2, .int x7_2), (1, .int x7_1), (0, .ref (ad 58))] → W p l e { frames := 0, cells := 0, slots := 0, locals := 0 } s m args below meth c s.heap [] 0 0 Q (F0 m 9 ls []) := by
    intro n7
    induction n7 with
    | zero =>
      intro x7_2 x7_1 iv7_0 iv7_1 hm7 hEl7 ls7 hl7
      exact absurd hm7 (Nat.not_lt_zero _)
    | succ n7 ih7 =>
      intro x7_2 x7_1 iv7_0 iv7_1 hm7 hEl7 ls7 hl7
      have hE8 : M = m_X8_judge_L9_7_b (m_X8_judge_L9_7 n7) (AB ad F) x7_2 x7_1 := hEl7
      refine lv_iload_n S.1 S.2.1 dX8_judge_9 rfl (lv_at hl7 0 rfl) ?_
      refine lv_if_lt (tgt := 40) S.1 S.2.1 dX8_judge_10 (by decide) (fun c9 => ?_) (fun c9 => ?_)
      · skip
        have k10 := ci_lt rfl z_ti c9
        refine lv_iload_n S.1 S.2.1 dX8_judge_40 rfl (lv_at hl7 1 rfl) ?_
        have hE11 : M = x7_1 := hE8.trans ((show m_X8_judge_L9_7_b (m_X8_judge_L9_7 n7) (AB ad F) x7_2 x7_1 = x7_1 from by unfold m_X8_judge_L9_7_b; rw [if_pos (lt_cg rfl rfl c9)]).trans rfl)
        exact hret 41 _ _ dX8_judge_41 rfl (⟨trivial, hM.symm.trans hE11⟩)
      have k12 := ci_nlt rfl z_ti c9
      obtain ⟨j13, hj13, rfl⟩ := nI_of_le (x := x7_2) (B := 14) (by omega) (by omega)
      have kj13 := nI_toInt (n := j13) (Nat.lt_of_le_of_lt hj13 (by decide))
      refine lv_aload_n S.1 S.2.1 dX8_judge_13 rfl (lv_at hl7 2 rfl) ?_
      refine r_get S hK hP 58 (by decide) hF2 (C := RX8) (T := TX8) (N := 23) hiX8 rfl 12 (by decide) (am_at in_wsX8_judge_0 1 rfl) (v := .ref (ad 67)) rfl dX8_judge_14 ?_
      refine lv_iload_n S.1 S.2.1 dX8_judge_17 rfl (lv_at hl7 0 rfl) ?_
      obtain ⟨g14, hF14, hg14⟩ := wt_I hW (show (67, 15) ∈ rLI by decide)
      refine r_iald S hK hP 67 (by decide) hF14 (vp_in_nI (show j13 < 15 by omega) (by omega)) dX8_judge_18 ?_
      refine lv_topi (fun v16 e16 => ?_)
      have m17 : ((AB ad F) 67 (rl (nI j13))) = v16 := (ab_cg rfl rfl).trans ((AB_g hF14).trans e16.symm)
      refine lv_aload_n S.1 S.2.1 dX8_judge_19 rfl (lv_at hl7 2 rfl) ?_
      refine r_get S hK hP 58 (by decide) hF2 (C := RX8) (T := TX8) (N := 23) hiX8 rfl 4 (by decide) (am_at in_wsX8_judge_0 2 rfl) (v := .ref (ad 62)) rfl dX8_judge_20 ?_
      refine lv_iconst (v := (nI 3)) S.1 S.2.1 dX8_judge_23 (by decide +kernel) ?_
      obtain ⟨g18, hF18, hg18⟩ := wt_I hW (show (62, 7) ∈ rLI by decide)
      refine r_iald S hK hP 62 (by decide) hF18 (vp_in_nI (show 3 < 7 by omega) (by omega)) dX8_judge_24 ?_
      refine lv_topi (fun v20 e20 => ?_)
      have m21 : ((AB ad F) 62 (rl (nI 3))) = v20 := (ab_cg rfl rfl).trans ((AB_g hF18).trans e20.symm)
      refine lv_icmp_eq (tgt := 32) S.1 S.2.1 dX8_judge_25 (by decide) (fun c22 => ?_) (fun c22 => ?_)
      · skip
        have k23 := ci_eq rfl rfl c22
        refine lv_iload_n S.1 S.2.1 dX8_judge_32 rfl (lv_at hl7 1 rfl) ?_
        refine lv_istore_n (lv' := [(1, .int x7_1), (2, .int (nI j13)), (0, .ref (ad 58))]) S.1 S.2.1 dX8_judge_33 rfl hl7 (by decide) rfl (fun ls24 hl24 => ?_)
        obtain ⟨v25, e25⟩ : ∃ y : Int32, y = (nI j13) + Int32.ofInt (-1) := ⟨_, rfl⟩
        have kd25 : v25.toInt = ((j13 : Nat) : Int) - 1 := by rw [e25]; exact nI_dec (by omega)
        have m26 : ((nI j13) + Int32.ofInt (-1)) = v25 := (congrArg (fun q : Int32 => q + Int32.ofInt (-1)) rfl).trans e25.symm
        refine lv_iinc (v := v25) (lv' := [(2, .int v25), (1, .int x7_1), (0, .ref (ad 58))]) S.1 S.2.1 dX8_judge_34 hl24 (k := 1) rfl e25.symm (by decide) rfl (fun ls25 hl25 => ?_)
        refine lv_goto (tgt := 9) S.1 S.2.1 dX8_judge_37 (by decide) ?_
        have hE27 : M = (m_X8_judge_L9_7 n7) (AB ad F) v25 x7_1 := hE8.trans ((show m_X8_judge_L9_7_b (m_X8_judge_L9_7 n7) (AB ad F) (nI j13) x7_1 = (m_X8_judge_L9_7 n7) (AB ad F) ((nI j13) + Int32.ofInt (-1)) x7_1 from by unfold m_X8_judge_L9_7_b; rw [if_neg (nlt_cg rfl rfl c9), if_pos (eq_cg m17 m21 c22)]).trans (congr (congr (congrArg ((m_X8_judge_L9_7 n7)) (rfl : AB ad F = AB ad F)) m26) (Eq.refl (x7_1 : Int32))))
        exact ih7 (v25) (x7_1) (by omega) (by omega) (by omega) hE27 ls25 (lv_sub hl25 [0, 1, 2] rfl)
      have k28 := ci_ne rfl rfl c22
      refine lv_iload_n S.1 S.2.1 dX8_judge_28 rfl (lv_at hl7 0 rfl) ?_
      refine lv_goto (tgt := 33) S.1 S.2.1 dX8_judge_29 (by decide) ?_
      refine lv_istore_n (lv' := [(1, .int (nI j13)), (2, .int (nI j13)), (0, .ref (ad 58))]) S.1 S.2.1 dX8_judge_33 rfl hl7 (by decide) rfl (fun ls29 hl29 => ?_)
      obtain ⟨v30, e30⟩ : ∃ y : Int32, y = (nI j13) + Int32.ofInt (-1) := ⟨_, rfl⟩
      have kd30 : v30.toInt = ((j13 : Nat) : Int) - 1 := by rw [e30]; exact nI_dec (by omega)
      have m31 : ((nI j13) + Int32.ofInt (-1)) = v30 := (congrArg (fun q : Int32 => q + Int32.ofInt (-1)) rfl).trans e30.symm
      refine lv_iinc (v := v30) (lv' := [(2, .int v30), (1, .int (nI j13)), (0, .ref (ad 58))]) S.1 S.2.1 dX8_judge_34 hl29 (k := 1) rfl e30.symm (by decide) rfl (fun ls30 hl30 => ?_)
      refine lv_goto (tgt := 9) S.1 S.2.1 dX8_judge_37 (by decide) ?_
      have hE32 : M = (m_X8_judge_L9_7 n7) (AB ad F) v30 (nI j13) := hE8.trans ((show m_X8_judge_L9_7_b (m_X8_judge_L9_7 n7) (AB ad F) (nI j13) x7_1 = (m_X8_judge_L9_7 n7) (AB ad F) ((nI j13) + Int32.ofInt (-1)) (nI j13) from by unfold m_X8_judge_L9_7_b; rw [if_neg (nlt_cg rfl rfl c9), if_neg (neq_cg m17 m21 c22)]).trans (congr (congr (congrArg ((m_X8_judge_L9_7 n7)) (rfl : AB ad F = AB ad F)) m31) (Eq.refl ((nI j13) : Int32))))
      exact ih7 (v30) ((nI j13)) (by omega) (by omega) (by omega) hE32 ls30 (lv_sub hl30 [0, 1, 2] rfl)
  have hE33 : M = m_X8_judge_L9_7 2000 (AB ad F) v4 (-1) := hM.trans ((show m_X8_judge (AB ad F) = m_X8_judge_L9_7 2000 (AB ad F) (((AB ad F) 58 13) - (nI 1)) ((-1) : Int32) from rfl).trans (congr (congr (congrArg (m_X8_judge_L9_7 2000) (rfl : AB ad F = AB ad F)) m5) (Eq.refl ((-1) : Int32))))
  exact lp7 2000 (v4) ((-1)) (by omega) (by omega) (by omega) hE33 ls6 (lv_sub hl6 [0, 1, 2] rfl)
noncomputable def m_X8_seed_8 (σ : SS) (a0 : Int32) (a1 : Int32) : Int32 × SS :=
  (a0, σ)
noncomputable def m_X8_seed (σ : SS) (a0 : Int32) : Int32 × SS :=
  if (0 : Int32) ≤ a0 then
    m_X8_seed_8 (st σ 58 9 a0) (σ 58 9) a0
  else
    (((-1000000002) : Int32), σ)
set_option maxHeartbeats 4000000 in
set_option maxRecDepth 100000 in
theorem c_X8_seed (l : Launch) (D : va_G) (cA ad : Nat → Nat) (t : Nat) (hI : rI ad) (F : Nat → va_E) (hW : WT cA ad F) (p1 : Int32) : MI l D cA ad t yX8_seed wsX8_seed { frames := 0, cells := 0, slots := 0, locals := 0 } [.ref (ad 58), .int p1] F (fun r F' => WT cA ad F' ∧ rFr [58] F F' ∧ ((fN (F' 58) 1 = fN (F 58) 1) ∧ m_X8_seed (AB ad F) p1 = (r, AB ad F'))) := by
  refine en_I rfl (by decide +kernel) (Nat.le_of_ble_eq_true rfl) ?_
  intro p e s m args below meth c ls0 Q S hK hZ hP hS hl0 hret
  have hl0 : lv_has ls0 3 [(0, .ref (ad 58)), (1, .int p1)] := hl0
  have hFr : rFr [58] F F := rFr.rf
  have hiX8 : ∀ w ∈ u_ws RX8 TX8 23, w ∈ wsX8_seed := in_wsX8_seed_1
  obtain ⟨M, hM⟩ : ∃ M, M = m_X8_seed (AB ad F) p1 := ⟨_, rfl⟩
  obtain ⟨ty1, kn1, no1, en1, at1, sa1, sd1, wr1, pl1, va1, hF1, hb1_1, hb1_2, hb1_3, hb1_4, hb1_5, hb1_6⟩ := wt_m hW
  have hA2 := fN_of (k := 14) (a := at1) hF1 rfl (Nat.lt_of_le_of_lt hb1_5 (by decide))
  have hL2 := fN_of (k := 1) (a := ty1) hF1 rfl (Nat.lt_of_le_of_lt hb1_1 (by decide))
  refine lv_iload_n S.1 S.2.1 dX8_seed_0 rfl (lv_at hl0 1 rfl) ?_
  refine lv_if_ge (tgt := 7) S.1 S.2.1 dX8_seed_1 (by decide) (fun c3 => ?_) (fun c3 => ?_)
  · skip
    have k4 := ci_le z_ti rfl c3
    refine lv_aload_n S.1 S.2.1 dX8_seed_7 rfl (lv_at hl0 0 rfl) ?_
    refine r_get S hK hP 58 (by decide) hF1 (C := RX8) (T := TX8) (N := 23) hiX8 rfl 9 (by decide) (am_at in_wsX8_seed_0 1 rfl) (v := .int sd1) rfl dX8_seed_8 ?_
    have m5 : ((AB ad F) 58 9) = sd1 := AB_f hF1 rfl
    refine lv_istore_n (lv' := [(2, .int sd1), (0, .ref (ad 58)), (1, .int p1)]) S.1 S.2.1 dX8_seed_11 rfl hl0 (by decide) rfl (fun ls6 hl6 => ?_)
    refine lv_aload_n S.1 S.2.1 dX8_seed_12 rfl (lv_at hl6 1 rfl) ?_
    refine lv_iload_n S.1 S.2.1 dX8_seed_13 rfl (lv_at hl6 2 rfl) ?_
    refine r_put S hI hK hP hS 58 (by decide) hF1 (C := RX8) (T := TX8) (N := 23) hiX8 tyX8_ok nmX8 rfl 9 (by decide) (am_at in_wsX8_seed_0 1 rfl) rfl rfl rfl (Nat.le_of_ble_eq_true rfl) dX8_seed_14 (fun F7 H7 locs7 eF7 hP7 hS7 => ?_)
    have hF7 : F7 58 = .inr (8, [.ref (ad 59), .int (nI ty1), .ref (ad 60), .ref (ad 61), .ref (ad 62), .ref (ad 63), .int (nI kn1), .ref (ad 64), .ref (ad 65), .int p1, .ref (ad 66), .int (nI no1), .ref (ad 67), .int (nI en1), .int (nI at1), .int wr1, .int pl1, .int va1, .int (nI sa1), .ref (ad 68), .ref (ad 69), .ref (ad 70), .ref (ad 71)]) := by rw [eF7]; exact va_up_self _ _ _
    have hW7 := hW.up eF7 (ok_m ⟨ty1, kn1, no1, en1, at1, sa1, p1, wr1, pl1, va1, rfl, by omega, by omega, by omega, by omega, by omega, by omega⟩)
    have hFr7 := hFr.up eF7 (by simp <;> first | omega | (simp only [isC, isJ] at *; omega))
    have hE9 : M = m_X8_seed_8 (AB ad F7) sd1 p1 := hM.trans ((show m_X8_seed (AB ad F) p1 = m_X8_seed_8 (st (AB ad F) 58 9 p1) ((AB ad F) 58 9) p1 from by unfold m_X8_seed; rw [if_pos (le_cg rfl rfl c3)]).trans (congr (congr (congrArg (m_X8_seed_8) ((st_cg rfl rfl rfl).trans (AB_put hF1 (Nat.le_of_ble_eq_true rfl) eF7).symm)) m5) (Eq.refl (p1 : Int32))))
    refine lv_iload_n S.1 S.2.1 dX8_seed_17 rfl (lv_at hl6 0 rfl) ?_
    have hA10 := fN_of (k := 14) (a := at1) hF7 rfl (Nat.lt_of_le_of_lt hb1_5 (by decide))
    have hL10 := fN_of (k := 1) (a := ty1) hF7 rfl (Nat.lt_of_le_of_lt hb1_1 (by decide))
    have hE11 : M = (sd1, AB ad F7) := hE9.trans ((show m_X8_seed_8 (AB ad F7) sd1 p1 = (sd1, (AB ad F7)) from rfl).trans (congrArg (fun q => (q, AB ad F7)) rfl))
    exact hret 18 _ _ _ _ _ dX8_seed_18 rfl hP7 hS7 ⟨hW7, hFr7, ⟨by omega, hM.symm.trans hE11⟩⟩
  have k12 := ci_nle z_ti rfl c3
  refine lv_ldc (v := (-1000000002)) S.1 S.2.1 S.2.2.2.1 (S.2.2.2.2 (.constant RX8 59 (-1000000002)) (am_at in_wsX8_seed_0 0 rfl)) dX8_seed_4 ?_
  have hA13 := fN_of (k := 14) (a := at1) hF1 rfl (Nat.lt_of_le_of_lt hb1_5 (by decide))
  have hL13 := fN_of (k := 1) (a := ty1) hF1 rfl (Nat.lt_of_le_of_lt hb1_1 (by decide))
  have hE14 : M = ((-1000000002), AB ad F) := hM.trans ((show m_X8_seed (AB ad F) p1 = (((-1000000002) : Int32), (AB ad F)) from by unfold m_X8_seed; rw [if_neg (nle_cg rfl rfl c3)]).trans (congrArg (fun q => (q, AB ad F)) rfl))
  exact hret 6 _ _ _ _ _ dX8_seed_6 rfl hP hS ⟨hW, hFr, ⟨by omega, hM.symm.trans hE14⟩⟩
noncomputable def m_X8_keep_50 (k0 : SS → Int32 → Int32 → Int32 × SS) (σ : SS) (a0 : Int32) (a1 : Int32) : Int32 × SS :=
  k0 σ (a0 + Int32.ofInt (1)) a1
noncomputable def m_X8_keep_35 (k0 : SS → Int32 → Int32 → Int32 × SS) (σ : SS) (a0 : Int32) (a1 : Int32) : Int32 × SS :=
  ((nI 1), σ)
noncomputable def m_X8_keep_31 (k0 : SS → Int32 → Int32 → Int32 × SS) (σ : SS) (a0 : Int32) (a1 : Int32) : Int32 × SS :=
  m_X8_keep_35 k0 (st σ 58 6 (nI 0)) a0 a1
noncomputable def m_X8_keep_26 (k0 : SS → Int32 → Int32 → Int32 × SS) (σ : SS) (a0 : Int32) (a1 : Int32) : Int32 × SS :=
  m_X8_keep_31 k0 (st σ 65 (rl a1) (vp_nar .boolean (nI 1))) a0 a1
noncomputable def m_X8_keep_L14_13_b (k0 : SS → Int32 → Int32 → Int32 × SS) (σ : SS) (a0 : Int32) (a1 : Int32) : Int32 × SS :=
  if (nI 7) ≤ a0 then
    m_X8_keep_26 k0 (st σ 64 (rl (((nI 8) * a1) + (nI 7))) (σ 58 9)) a0 a1
  else
    m_X8_keep_50 k0 (st σ 64 (rl (((nI 8) * a1) + a0)) (σ 62 (rl a0))) a0 a1
noncomputable def m_X8_keep_L14_13 : Nat → SS → Int32 → Int32 → Int32 × SS
  | 0 => fun σ _ _ => (0, σ)
  | n + 1 => m_X8_keep_L14_13_b (m_X8_keep_L14_13 n)
noncomputable def m_X8_keep (σ : SS) (a0 : Int32) : Int32 × SS :=
  if (m_X8_in σ a0 (nI 0) (nI 1)) = (0 : Int32) then
    (((-1000000001) : Int32), σ)
  else
    m_X8_keep_L14_13 2000 σ (nI 0) a0
set_option maxHeartbeats 4000000 in
set_option maxRecDepth 100000 in
theorem c_X8_keep (l : Launch) (D : va_G) (cA ad : Nat → Nat) (t : Nat) (hI : rI ad) (F : Nat → va_E) (hW : WT cA ad F) (p1 : Int32) : MI l D cA ad t yX8_keep wsX8_keep { frames := 1, cells := 0, slots := 0, locals := 22 } [.ref (ad 58), .int p1] F (fun r F' => WT cA ad F' ∧ rFr [58, 64, 65] F F' ∧ ((r = kpR p1 ∧ fN (F' 58) 1 = fN (F 58) 1) ∧ m_X8_keep (AB ad F) p1 = (r, AB ad F'))) := by
  refine en_I rfl (by decide +kernel) (Nat.le_of_ble_eq_true rfl) ?_
  intro p e s m args below meth c ls0 Q S hK hZ hP hS hl0 hret
  have hl0 : lv_has ls0 3 [(0, .ref (ad 58)), (1, .int p1)] := hl0
  have hFr : rFr [58, 64, 65] F F := rFr.rf
  have hiX8 : ∀ w ∈ u_ws RX8 TX8 23, w ∈ wsX8_keep := in_wsX8_keep_1
  obtain ⟨M, hM⟩ : ∃ M, M = m_X8_keep (AB ad F) p1 := ⟨_, rfl⟩
  obtain ⟨ty1, kn1, no1, en1, at1, sa1, sd1, wr1, pl1, va1, hF1, hb1_1, hb1_2, hb1_3, hb1_4, hb1_5, hb1_6⟩ := wt_m hW
  have hA2 := fN_of (k := 14) (a := at1) hF1 rfl (Nat.lt_of_le_of_lt hb1_5 (by decide))
  have hL2 := fN_of (k := 1) (a := ty1) hF1 rfl (Nat.lt_of_le_of_lt hb1_1 (by decide))
  refine lv_iload_n S.1 S.2.1 dX8_keep_0 rfl (lv_at hl0 1 rfl) ?_
  refine lv_iconst (v := (nI 0)) S.1 S.2.1 dX8_keep_1 (by decide +kernel) ?_
  refine lv_iconst (v := (nI 1)) S.1 S.2.1 dX8_keep_2 (by decide +kernel) ?_
  refine r_cSp (As := [.int p1, .int (nI 0), .int (nI 1)]) (rest := []) S hK hZ hP hS hl0.1 (c_X8_in l D cA ad t hI F hW p1 (nI 0) (nI 1)) (va_cwS 3 S.2.2.2.2 gX8_keep_X8_in rfl rfl rfl (by decide +kernel) ⟨Nat.le_of_ble_eq_true rfl, Nat.le_of_ble_eq_true rfl⟩) rfl rfl (Nat.le_of_ble_eq_true rfl) ⟨Nat.zero_le _, Nat.zero_le _⟩ dX8_keep_3 (fun r3 hr3 => ?_)
  obtain ⟨hr3, hm3⟩ := hr3
  obtain ⟨⟨b4, hb4, rfl⟩, hx4, hz4⟩ := hr3
  have ta5 : (p1 : Int32).toInt = p1.toInt := rfl
  have ta6 : ((nI 0) : Int32).toInt = ((0 : Nat) : Int) := (nI_toInt (n := 0) (by decide))
  have ta7 : ((nI 1) : Int32).toInt = ((1 : Nat) : Int) := (nI_toInt (n := 1) (by decide))
  have hy4 : b4 ≠ 0 → ((0 : Nat) : Int) ≤ p1.toInt ∧ p1.toInt ≤ ((1 : Nat) : Int) := fun q => by have h9 := hx4 (nI_ne0 (by omega) (by omega)); omega
  have hu4 : b4 = 0 → p1.toInt < ((0 : Nat) : Int) ∨ ((1 : Nat) : Int) < p1.toInt := fun q => by have h9 := hz4 (by rw [q]; rfl); omega
  have m8 : (m_X8_in (AB ad F) p1 (nI 0) (nI 1)) = (nI b4) := (congr (congr (congr (Eq.refl (m_X8_in (AB ad F))) (Eq.refl (p1 : Int32))) (Eq.refl ((nI 0) : Int32))) (Eq.refl ((nI 1) : Int32))).trans hm3
  refine lv_if_ne (tgt := 12) S.1 S.2.1 dX8_keep_6 (by decide) (fun c9 => ?_) (fun c9 => ?_)
  · skip
    have k10 := ci_ne (nI_toInt (n := b4) (Nat.lt_of_le_of_lt hb4 (by decide))) z_ti c9
    obtain ⟨j11, hj11, rfl⟩ := nI_of_le (x := p1) (B := 1) (by omega) (by omega)
    have kj11 := nI_toInt (n := j11) (Nat.lt_of_le_of_lt hj11 (by decide))
    refine lv_iconst (v := (nI 0)) S.1 S.2.1 dX8_keep_12 (by decide +kernel) ?_
    refine lv_istore_n (lv' := [(2, .int (nI 0)), (0, .ref (ad 58)), (1, .int (nI j11))]) S.1 S.2.1 dX8_keep_13 rfl hl0 (by decide) rfl (fun ls12 hl12 => ?_)
    have lp13 : ∀ (n13 : Nat) (q213 : Nat), ∀ (Fl13 : Nat → va_E) (Hl13 : Heap) (lol13 : List Loc), q213 ≤ 7 → fN (Fl13 58) 1 = fN (F 58) 1 → 7 - q213 < n13 → WT cA ad Fl13 → rFr [58, 64, 65] F Fl13 → va_P D vwCl (rW ad Fl13) Hl13 → va_S (rA ad) s.heap Hl13 lol13 → M = m_X8_keep_L14_13 n13 (AB ad Fl13) (nI q213) (nI j11) → ∀ (ls : Array Slot), lv_has ls 3 [(2, .int (nI q213)), (0, .ref (ad 58)), (1, .int (nI j11))] → W p l e { frames := 1, cells := 0, slots := 0, locals := 22 } s m args below meth c Hl13 lol13 0 0 Q (F0 m 14 ls []) := by
      intro n13
      induction n13 with
      | zero =>
        intro q213 Fl13 Hl13 lol13 iv13_0 ix13_li hm13 hWl13 hFl13 hPl13 hSl13 hEl13 ls13 hl13
        exact absurd hm13 (Nat.not_lt_zero _)
      | succ n13 ih13 =>
        intro q213 Fl13 Hl13 lol13 iv13_0 ix13_li hm13 hWl13 hFl13 hPl13 hSl13 hEl13 ls13 hl13
        have hE14 : M = m_X8_keep_L14_13_b (m_X8_keep_L14_13 n13) (AB ad Fl13) (nI q213) (nI j11) := hEl13
        obtain ⟨ty15, kn15, no15, en15, at15, sa15, sd15, wr15, pl15, va15, hF15, hb15_1, hb15_2, hb15_3, hb15_4, hb15_5, hb15_6⟩ := wt_m hWl13
        have hA16 := fN_of (k := 14) (a := at15) hF15 rfl (Nat.lt_of_le_of_lt hb15_5 (by decide))
        have hL16 := fN_of (k := 1) (a := ty15) hF15 rfl (Nat.lt_of_le_of_lt hb15_1 (by decide))
        refine lv_iload_n S.1 S.2.1 dX8_keep_14 rfl (lv_at hl13 0 rfl) ?_
        refine lv_bipush (v := (nI 7)) S.1 S.2.1 dX8_keep_15 (by decide +kernel) ?_
        refine lv_icmp_ge (tgt := 43) S.1 S.2.1 dX8_keep_17 (by decide) (fun c17 => ?_) (fun c17 => ?_)
        · skip
          have k18 := ci_le (nI_toInt (n := 7) (by decide)) (nI_toInt (n := q213) (by omega)) c17
          refine lv_aload_n S.1 S.2.1 dX8_keep_43 rfl (lv_at hl13 1 rfl) ?_
          refine r_get S hK hPl13 58 (by decide) hF15 (C := RX8) (T := TX8) (N := 23) hiX8 rfl 7 (by decide) (am_at in_wsX8_keep_0 1 rfl) (v := .ref (ad 64)) rfl dX8_keep_44 ?_
          refine lv_bipush (v := (nI 8)) S.1 S.2.1 dX8_keep_47 (by decide +kernel) ?_
          refine lv_iload_n S.1 S.2.1 dX8_keep_49 rfl (lv_at hl13 2 rfl) ?_
          refine lv_imul S.1 S.2.1 dX8_keep_50 ?_
          refine lv_topi (fun v19 e19 => ?_)
          obtain rfl : v19 = nI (8 * j11) := e19.trans (pk_mul _ _)
          have m20 : ((nI 8) * (nI j11)) = (nI (8 * j11)) := cg2 (fun (x : Int32) (y : Int32) => x * y) (Eq.refl ((nI 8) : Int32)) (Eq.refl ((nI j11) : Int32)) e19
          refine lv_bipush (v := (nI 7)) S.1 S.2.1 dX8_keep_51 (by decide +kernel) ?_
          refine lv_iadd S.1 S.2.1 dX8_keep_53 ?_
          refine lv_topi (fun v21 e21 => ?_)
          obtain rfl : v21 = nI ((8 * j11) + 7) := e21.trans (nI_add _ _)
          have m22 : (((nI 8) * (nI j11)) + (nI 7)) = (nI ((8 * j11) + 7)) := cg2 (fun (x : Int32) (y : Int32) => x + y) m20 (Eq.refl ((nI 7) : Int32)) e21
          refine lv_aload_n S.1 S.2.1 dX8_keep_54 rfl (lv_at hl13 1 rfl) ?_
          refine r_get S hK hPl13 58 (by decide) hF15 (C := RX8) (T := TX8) (N := 23) hiX8 rfl 9 (by decide) (am_at in_wsX8_keep_0 3 rfl) (v := .int sd15) rfl dX8_keep_55 ?_
          have m23 : ((AB ad Fl13) 58 9) = sd15 := AB_f hF15 rfl
          obtain ⟨g24, hF24, hg24⟩ := wt_I hWl13 (show (64, 16) ∈ rLI by decide)
          refine r_iast S hI hK hPl13 hSl13 64 (by decide) hF24 (vp_in_nI (show (8 * j11) + 7 < 16 by omega) (by omega)) dX8_keep_58 (fun F25 H25 locs25 eF25 hP25 hS25 => ?_)
          have hW25 := hWl13.up eF25 (ok_I (show (64, 16) ∈ rLI by decide) (okI_up hg24 (by rw [nI_clamp (by omega)]; exact to_S8 (okS_o (by omega) (by omega) (by omega)))))
          have hFr25 := hFl13.up eF25 (by simp <;> first | omega | (simp only [isC, isJ] at *; omega))
          have hE27 : M = m_X8_keep_26 (m_X8_keep_L14_13 n13) (AB ad F25) (nI q213) (nI j11) := hE14.trans ((show m_X8_keep_L14_13_b (m_X8_keep_L14_13 n13) (AB ad Fl13) (nI q213) (nI j11) = m_X8_keep_26 (m_X8_keep_L14_13 n13) (st (AB ad Fl13) 64 (rl (((nI 8) * (nI j11)) + (nI 7))) ((AB ad Fl13) 58 9)) (nI q213) (nI j11) from by unfold m_X8_keep_L14_13_b; rw [if_pos (le_cg rfl rfl c17)]).trans (congr (congr (congrArg (m_X8_keep_26 (m_X8_keep_L14_13 n13)) ((st_cg rfl (congrArg rl m22) m23).trans (AB_ast hF24 eF25).symm)) (Eq.refl ((nI q213) : Int32))) (Eq.refl ((nI j11) : Int32))))
          refine lv_aload_n S.1 S.2.1 dX8_keep_59 rfl (lv_at hl13 1 rfl) ?_
          have hF28 := (show F25 58 = Fl13 58 by rw [eF25]; exact va_up_ne _ _ (by decide)).trans hF15
          refine r_get S hK hP25 58 (by decide) hF28 (C := RX8) (T := TX8) (N := 23) hiX8 rfl 8 (by decide) (am_at in_wsX8_keep_0 4 rfl) (v := .ref (ad 65)) rfl dX8_keep_60 ?_
          refine lv_iload_n S.1 S.2.1 dX8_keep_63 rfl (lv_at hl13 2 rfl) ?_
          refine lv_iconst (v := (nI 1)) S.1 S.2.1 dX8_keep_64 (by decide +kernel) ?_
          obtain ⟨g29, hF29⟩ := wt_Z hW25 (show (65, 2) ∈ rLZ by decide)
          refine r_zast S hI hK hP25 hS25 65 (by decide) hF29 (vp_in_nI (show j11 < 2 by omega) (by omega)) dX8_keep_65 (fun F30 H30 locs30 eF30 hP30 hS30 => ?_)
          have hW30 := hW25.up eF30 (ok_Z (show (65, 2) ∈ rLZ by decide) ⟨_, rfl⟩)
          have hFr30 := hFr25.up eF30 (by simp <;> first | omega | (simp only [isC, isJ] at *; omega))
          have hE32 : M = m_X8_keep_31 (m_X8_keep_L14_13 n13) (AB ad F30) (nI q213) (nI j11) := hE27.trans ((show m_X8_keep_26 (m_X8_keep_L14_13 n13) (AB ad F25) (nI q213) (nI j11) = m_X8_keep_31 (m_X8_keep_L14_13 n13) (st (AB ad F25) 65 (rl (nI j11)) (vp_nar .boolean (nI 1))) (nI q213) (nI j11) from rfl).trans (congr (congr (congrArg (m_X8_keep_31 (m_X8_keep_L14_13 n13)) ((st_cg rfl (congrArg rl rfl) (congrArg (vp_nar .boolean) rfl)).trans (AB_ast hF29 eF30).symm)) (Eq.refl ((nI q213) : Int32))) (Eq.refl ((nI j11) : Int32))))
          refine lv_aload_n S.1 S.2.1 dX8_keep_66 rfl (lv_at hl13 1 rfl) ?_
          refine lv_iconst (v := (nI 0)) S.1 S.2.1 dX8_keep_67 (by decide +kernel) ?_
          have hF33 := (show F30 58 = F25 58 by rw [eF30]; exact va_up_ne _ _ (by decide)).trans hF28
          refine r_put S hI hK hP30 hS30 58 (by decide) hF33 (C := RX8) (T := TX8) (N := 23) hiX8 tyX8_ok nmX8 rfl 6 (by decide) (am_at in_wsX8_keep_0 5 rfl) rfl rfl rfl (Nat.le_of_ble_eq_true rfl) dX8_keep_68 (fun F34 H34 locs34 eF34 hP34 hS34 => ?_)
          have hF34 : F34 58 = .inr (8, [.ref (ad 59), .int (nI ty15), .ref (ad 60), .ref (ad 61), .ref (ad 62), .ref (ad 63), .int (nI 0), .ref (ad 64), .ref (ad 65), .int sd15, .ref (ad 66), .int (nI no15), .ref (ad 67), .int (nI en15), .int (nI at15), .int wr15, .int pl15, .int va15, .int (nI sa15), .ref (ad 68), .ref (ad 69), .ref (ad 70), .ref (ad 71)]) := by rw [eF34]; exact va_up_self _ _ _
          have hW34 := hW30.up eF34 (ok_m ⟨ty15, 0, no15, en15, at15, sa15, sd15, wr15, pl15, va15, rfl, by omega, by omega, by omega, by omega, by omega, by omega⟩)
          have hFr34 := hFr30.up eF34 (by simp <;> first | omega | (simp only [isC, isJ] at *; omega))
          have hE36 : M = m_X8_keep_35 (m_X8_keep_L14_13 n13) (AB ad F34) (nI q213) (nI j11) := hE32.trans ((show m_X8_keep_31 (m_X8_keep_L14_13 n13) (AB ad F30) (nI q213) (nI j11) = m_X8_keep_35 (m_X8_keep_L14_13 n13) (st (AB ad F30) 58 6 (nI 0)) (nI q213) (nI j11) from rfl).trans (congr (congr (congrArg (m_X8_keep_35 (m_X8_keep_L14_13 n13)) ((st_cg rfl rfl rfl).trans (AB_put hF33 (Nat.le_of_ble_eq_true rfl) eF34).symm)) (Eq.refl ((nI q213) : Int32))) (Eq.refl ((nI j11) : Int32))))
          refine lv_iconst (v := (nI 1)) S.1 S.2.1 dX8_keep_71 (by decide +kernel) ?_
          have hA37 := fN_of (k := 14) (a := at15) hF34 rfl (Nat.lt_of_le_of_lt hb15_5 (by decide))
          have hL37 := fN_of (k := 1) (a := ty15) hF34 rfl (Nat.lt_of_le_of_lt hb15_1 (by decide))
          have hE38 : M = ((nI 1), AB ad F34) := hE36.trans ((show m_X8_keep_35 (m_X8_keep_L14_13 n13) (AB ad F34) (nI q213) (nI j11) = ((nI 1), (AB ad F34)) from rfl).trans (congrArg (fun q => (q, AB ad F34)) rfl))
          exact hret 72 _ _ _ _ _ dX8_keep_72 rfl hP34 hS34 ⟨hW34, hFr34, ⟨⟨by unfold kpR; rw [if_pos (by omega)], by omega⟩, hM.symm.trans hE38⟩⟩
        have k39 := ci_nle (nI_toInt (n := 7) (by decide)) (nI_toInt (n := q213) (by omega)) c17
        refine lv_aload_n S.1 S.2.1 dX8_keep_20 rfl (lv_at hl13 1 rfl) ?_
        refine r_get S hK hPl13 58 (by decide) hF15 (C := RX8) (T := TX8) (N := 23) hiX8 rfl 7 (by decide) (am_at in_wsX8_keep_0 1 rfl) (v := .ref (ad 64)) rfl dX8_keep_21 ?_
        refine lv_bipush (v := (nI 8)) S.1 S.2.1 dX8_keep_24 (by decide +kernel) ?_
        refine lv_iload_n S.1 S.2.1 dX8_keep_26 rfl (lv_at hl13 2 rfl) ?_
        refine lv_imul S.1 S.2.1 dX8_keep_27 ?_
        refine lv_topi (fun v40 e40 => ?_)
        obtain rfl : v40 = nI (8 * j11) := e40.trans (pk_mul _ _)
        have m41 : ((nI 8) * (nI j11)) = (nI (8 * j11)) := cg2 (fun (x : Int32) (y : Int32) => x * y) (Eq.refl ((nI 8) : Int32)) (Eq.refl ((nI j11) : Int32)) e40
        refine lv_iload_n S.1 S.2.1 dX8_keep_28 rfl (lv_at hl13 0 rfl) ?_
        refine lv_iadd S.1 S.2.1 dX8_keep_29 ?_
        refine lv_topi (fun v42 e42 => ?_)
        obtain rfl : v42 = nI ((8 * j11) + q213) := e42.trans (nI_add _ _)
        have m43 : (((nI 8) * (nI j11)) + (nI q213)) = (nI ((8 * j11) + q213)) := cg2 (fun (x : Int32) (y : Int32) => x + y) m41 (Eq.refl ((nI q213) : Int32)) e42
        refine lv_aload_n S.1 S.2.1 dX8_keep_30 rfl (lv_at hl13 1 rfl) ?_
        refine r_get S hK hPl13 58 (by decide) hF15 (C := RX8) (T := TX8) (N := 23) hiX8 rfl 4 (by decide) (am_at in_wsX8_keep_0 2 rfl) (v := .ref (ad 62)) rfl dX8_keep_31 ?_
        refine lv_iload_n S.1 S.2.1 dX8_keep_34 rfl (lv_at hl13 0 rfl) ?_
        obtain ⟨g44, hF44, hg44⟩ := wt_I hWl13 (show (62, 7) ∈ rLI by decide)
        refine r_iald S hK hPl13 62 (by decide) hF44 (vp_in_nI (show q213 < 7 by omega) (by omega)) dX8_keep_35 ?_
        refine lv_topi (fun v46 e46 => ?_)
        have m47 : ((AB ad Fl13) 62 (rl (nI q213))) = v46 := (ab_cg rfl rfl).trans ((AB_g hF44).trans e46.symm)
        obtain ⟨g48, hF48, hg48⟩ := wt_I hWl13 (show (64, 16) ∈ rLI by decide)
        refine r_iast S hI hK hPl13 hSl13 64 (by decide) hF48 (vp_in_nI (show (8 * j11) + q213 < 16 by omega) (by omega)) dX8_keep_36 (fun F49 H49 locs49 eF49 hP49 hS49 => ?_)
        have hW49 := hWl13.up eF49 (ok_I (show (64, 16) ∈ rLI by decide) (okI_up hg48 (by rw [nI_clamp (by omega)]; apply to_S8; rw [e46, nI_clamp (by omega)]; exact okS_cg (by omega) (pr_S (hg44 (q213) (by omega))))))
        have hFr49 := hFl13.up eF49 (by simp <;> first | omega | (simp only [isC, isJ] at *; omega))
        have hE51 : M = m_X8_keep_50 (m_X8_keep_L14_13 n13) (AB ad F49) (nI q213) (nI j11) := hE14.trans ((show m_X8_keep_L14_13_b (m_X8_keep_L14_13 n13) (AB ad Fl13) (nI q213) (nI j11) = m_X8_keep_50 (m_X8_keep_L14_13 n13) (st (AB ad Fl13) 64 (rl (((nI 8) * (nI j11)) + (nI q213))) ((AB ad Fl13) 62 (rl (nI q213)))) (nI q213) (nI j11) from by unfold m_X8_keep_L14_13_b; rw [if_neg (nle_cg rfl rfl c17)]).trans (congr (congr (congrArg (m_X8_keep_50 (m_X8_keep_L14_13 n13)) ((st_cg rfl (congrArg rl m43) m47).trans (AB_ast hF48 eF49).symm)) (Eq.refl ((nI q213) : Int32))) (Eq.refl ((nI j11) : Int32))))
        have m53 : ((nI q213) + Int32.ofInt (1)) = (nI (q213 + 1)) := (congrArg (fun q : Int32 => q + Int32.ofInt (1)) rfl).trans (nI_add _ 1)
        refine lv_iinc (v := (nI (q213 + 1))) (lv' := [(2, .int (nI (q213 + 1))), (0, .ref (ad 58)), (1, .int (nI j11))]) S.1 S.2.1 dX8_keep_37 hl13 (k := 0) rfl (nI_add _ 1) (by decide) rfl (fun ls52 hl52 => ?_)
        refine lv_goto (tgt := 14) S.1 S.2.1 dX8_keep_40 (by decide) ?_
        have hF54 := (show F49 58 = Fl13 58 by rw [eF49]; exact va_up_ne _ _ (by decide)).trans hF15
        have hA55 := fN_of (k := 14) (a := at15) hF54 rfl (Nat.lt_of_le_of_lt hb15_5 (by decide))
        have hL55 := fN_of (k := 1) (a := ty15) hF54 rfl (Nat.lt_of_le_of_lt hb15_1 (by decide))
        have hE56 : M = (m_X8_keep_L14_13 n13) (AB ad F49) (nI (q213 + 1)) (nI j11) := hE51.trans ((show m_X8_keep_50 (m_X8_keep_L14_13 n13) (AB ad F49) (nI q213) (nI j11) = (m_X8_keep_L14_13 n13) (AB ad F49) ((nI q213) + Int32.ofInt (1)) (nI j11) from rfl).trans (congr (congr (congrArg ((m_X8_keep_L14_13 n13)) (rfl : AB ad F49 = AB ad F49)) m53) (Eq.refl ((nI j11) : Int32))))
        exact ih13 (q213 + 1) F49 H49 locs49 (by omega) (by omega) (by omega) hW49 hFr49 hP49 hS49 hE56 ls52 (lv_sub hl52 [0, 1, 2] rfl)
    have hA57 := fN_of (k := 14) (a := at1) hF1 rfl (Nat.lt_of_le_of_lt hb1_5 (by decide))
    have hL57 := fN_of (k := 1) (a := ty1) hF1 rfl (Nat.lt_of_le_of_lt hb1_1 (by decide))
    have hE58 : M = m_X8_keep_L14_13 2000 (AB ad F) (nI 0) (nI j11) := hM.trans ((show m_X8_keep (AB ad F) (nI j11) = m_X8_keep_L14_13 2000 (AB ad F) (nI 0) (nI j11) from by unfold m_X8_keep; rw [if_neg (neq_cg m8 rfl c9)]).trans (congr (congr (congrArg (m_X8_keep_L14_13 2000) (rfl : AB ad F = AB ad F)) (Eq.refl ((nI 0) : Int32))) (Eq.refl ((nI j11) : Int32))))
    exact lp13 2000 (0) F s.heap [] (by omega) (by omega) (by omega) hW hFr hP hS hE58 ls12 (lv_sub hl12 [0, 1, 2] rfl)
  have k59 := ci_eq (nI_toInt (n := b4) (Nat.lt_of_le_of_lt hb4 (by decide))) z_ti c9
  refine lv_ldc (v := (-1000000001)) S.1 S.2.1 S.2.2.2.1 (S.2.2.2.2 (.constant RX8 126 (-1000000001)) (am_at in_wsX8_keep_0 0 rfl)) dX8_keep_9 ?_
  have hA60 := fN_of (k := 14) (a := at1) hF1 rfl (Nat.lt_of_le_of_lt hb1_5 (by decide))
  have hL60 := fN_of (k := 1) (a := ty1) hF1 rfl (Nat.lt_of_le_of_lt hb1_1 (by decide))
  have hE61 : M = ((-1000000001), AB ad F) := hM.trans ((show m_X8_keep (AB ad F) p1 = (((-1000000001) : Int32), (AB ad F)) from by unfold m_X8_keep; rw [if_pos (eq_cg m8 rfl c9)]).trans (congrArg (fun q => (q, AB ad F)) rfl))
  exact hret 11 _ _ _ _ _ dX8_keep_11 rfl hP hS ⟨hW, hFr, ⟨⟨by unfold kpR; rw [if_neg (by omega)], by omega⟩, hM.symm.trans hE61⟩⟩
noncomputable def m_X8_goBack_52 (k0 : SS → Int32 → Int32 → Int32 × SS) (σ : SS) (a0 : Int32) (a1 : Int32) : Int32 × SS :=
  k0 σ (a0 + Int32.ofInt (1)) a1
noncomputable def m_X8_goBack_37 (k0 : SS → Int32 → Int32 → Int32 × SS) (σ : SS) (a0 : Int32) (a1 : Int32) : Int32 × SS :=
  ((nI 1), σ)
noncomputable def m_X8_goBack_34 (k0 : SS → Int32 → Int32 → Int32 × SS) (σ : SS) (a0 : Int32) (a1 : Int32) : Int32 × SS :=
  m_X8_goBack_37 k0 (st σ 58 6 (nI 0)) a0 a1
noncomputable def m_X8_goBack_L26_19_b (k0 : SS → Int32 → Int32 → Int32 × SS) (σ : SS) (a0 : Int32) (a1 : Int32) : Int32 × SS :=
  if (nI 7) ≤ a0 then
    m_X8_goBack_34 k0 (st σ 58 9 (σ 64 (rl (((nI 8) * a1) + (nI 7))))) a0 a1
  else
    m_X8_goBack_52 k0 (st σ 62 (rl a0) (σ 64 (rl (((nI 8) * a1) + a0)))) a0 a1
noncomputable def m_X8_goBack_L26_19 : Nat → SS → Int32 → Int32 → Int32 × SS
  | 0 => fun σ _ _ => (0, σ)
  | n + 1 => m_X8_goBack_L26_19_b (m_X8_goBack_L26_19 n)
noncomputable def m_X8_goBack (σ : SS) (a0 : Int32) : Int32 × SS :=
  if (m_X8_in σ a0 (nI 0) (nI 1)) = (0 : Int32) then
    (((-1000000001) : Int32), σ)
  else
    if (σ 65 (rl a0)) = (0 : Int32) then
      (((-1000000003) : Int32), σ)
    else
      m_X8_goBack_L26_19 2000 σ (nI 0) a0
set_option maxHeartbeats 4000000 in
set_option maxRecDepth 100000 in
theorem c_X8_goBack (l : Launch) (D : va_G) (cA ad : Nat → Nat) (t : Nat) (hI : rI ad) (F : Nat → va_E) (hW : WT cA ad F) (p1 : Int32) : MI l D cA ad t yX8_goBack wsX8_goBack { frames := 1, cells := 0, slots := 0, locals := 22 } [.ref (ad 58), .int p1] F (fun r F' => WT cA ad F' ∧ rFr [58, 62] F F' ∧ ((fN (F' 58) 1 = fN (F 58) 1) ∧ m_X8_goBack (AB ad F) p1 = (r, AB ad F'))) := by
  refine en_I rfl (by decide +kernel) (Nat.le_of_ble_eq_true rfl) ?_
  intro p e s m args below meth c ls0 Q S hK hZ hP hS hl0 hret
  have hl0 : lv_has ls0 3 [(0, .ref (ad 58)), (1, .int p1)] := hl0
  have hFr : rFr [58, 62] F F := rFr.rf
  have hiX8 : ∀ w ∈ u_ws RX8 TX8 23, w ∈ wsX8_goBack := in_wsX8_goBack_1
  obtain ⟨M, hM⟩ : ∃ M, M = m_X8_goBack (AB ad F) p1 := ⟨_, rfl⟩
  obtain ⟨ty1, kn1, no1, en1, at1, sa1, sd1, wr1, pl1, va1, hF1, hb1_1, hb1_2, hb1_3, hb1_4, hb1_5, hb1_6⟩ := wt_m hW
  have hA2 := fN_of (k := 14) (a := at1) hF1 rfl (Nat.lt_of_le_of_lt hb1_5 (by decide))
  have hL2 := fN_of (k := 1) (a := ty1) hF1 rfl (Nat.lt_of_le_of_lt hb1_1 (by decide))
  refine lv_iload_n S.1 S.2.1 dX8_goBack_0 rfl (lv_at hl0 1 rfl) ?_
  refine lv_iconst (v := (nI 0)) S.1 S.2.1 dX8_goBack_1 (by decide +kernel) ?_
  refine lv_iconst (v := (nI 1)) S.1 S.2.1 dX8_goBack_2 (by decide +kernel) ?_
  refine r_cSp (As := [.int p1, .int (nI 0), .int (nI 1)]) (rest := []) S hK hZ hP hS hl0.1 (c_X8_in l D cA ad t hI F hW p1 (nI 0) (nI 1)) (va_cwS 3 S.2.2.2.2 gX8_goBack_X8_in rfl rfl rfl (by decide +kernel) ⟨Nat.le_of_ble_eq_true rfl, Nat.le_of_ble_eq_true rfl⟩) rfl rfl (Nat.le_of_ble_eq_true rfl) ⟨Nat.zero_le _, Nat.zero_le _⟩ dX8_goBack_3 (fun r3 hr3 => ?_)
  obtain ⟨hr3, hm3⟩ := hr3
  obtain ⟨⟨b4, hb4, rfl⟩, hx4, hz4⟩ := hr3
  have ta5 : (p1 : Int32).toInt = p1.toInt := rfl
  have ta6 : ((nI 0) : Int32).toInt = ((0 : Nat) : Int) := (nI_toInt (n := 0) (by decide))
  have ta7 : ((nI 1) : Int32).toInt = ((1 : Nat) : Int) := (nI_toInt (n := 1) (by decide))
  have hy4 : b4 ≠ 0 → ((0 : Nat) : Int) ≤ p1.toInt ∧ p1.toInt ≤ ((1 : Nat) : Int) := fun q => by have h9 := hx4 (nI_ne0 (by omega) (by omega)); omega
  have hu4 : b4 = 0 → p1.toInt < ((0 : Nat) : Int) ∨ ((1 : Nat) : Int) < p1.toInt := fun q => by have h9 := hz4 (by rw [q]; rfl); omega
  have m8 : (m_X8_in (AB ad F) p1 (nI 0) (nI 1)) = (nI b4) := (congr (congr (congr (Eq.refl (m_X8_in (AB ad F))) (Eq.refl (p1 : Int32))) (Eq.refl ((nI 0) : Int32))) (Eq.refl ((nI 1) : Int32))).trans hm3
  refine lv_if_ne (tgt := 12) S.1 S.2.1 dX8_goBack_6 (by decide) (fun c9 => ?_) (fun c9 => ?_)
  · skip
    have k10 := ci_ne (nI_toInt (n := b4) (Nat.lt_of_le_of_lt hb4 (by decide))) z_ti c9
    obtain ⟨j11, hj11, rfl⟩ := nI_of_le (x := p1) (B := 1) (by omega) (by omega)
    have kj11 := nI_toInt (n := j11) (Nat.lt_of_le_of_lt hj11 (by decide))
    refine lv_aload_n S.1 S.2.1 dX8_goBack_12 rfl (lv_at hl0 0 rfl) ?_
    refine r_get S hK hP 58 (by decide) hF1 (C := RX8) (T := TX8) (N := 23) hiX8 rfl 8 (by decide) (am_at in_wsX8_goBack_0 1 rfl) (v := .ref (ad 65)) rfl dX8_goBack_13 ?_
    refine lv_iload_n S.1 S.2.1 dX8_goBack_16 rfl (lv_at hl0 1 rfl) ?_
    obtain ⟨g12, hF12⟩ := wt_Z hW (show (65, 2) ∈ rLZ by decide)
    refine r_zald S hK hP 65 (by decide) hF12 (vp_in_nI (show j11 < 2 by omega) (by omega)) dX8_goBack_17 ?_
    refine lv_topi (fun v14 e14 => ?_)
    have m15 : ((AB ad F) 65 (rl (nI j11))) = v14 := (ab_cg rfl rfl).trans ((AB_g hF12).trans e14.symm)
    refine lv_if_ne (tgt := 24) S.1 S.2.1 dX8_goBack_18 (by decide) (fun c16 => ?_) (fun c16 => ?_)
    · skip
      have k17 := ci_ne rfl z_ti c16
      refine lv_iconst (v := (nI 0)) S.1 S.2.1 dX8_goBack_24 (by decide +kernel) ?_
      refine lv_istore_n (lv' := [(2, .int (nI 0)), (0, .ref (ad 58)), (1, .int (nI j11))]) S.1 S.2.1 dX8_goBack_25 rfl hl0 (by decide) rfl (fun ls18 hl18 => ?_)
      have lp19 : ∀ (n19 : Nat) (q219 : Nat), ∀ (Fl19 : Nat → va_E) (Hl19 : Heap) (lol19 : List Loc), q219 ≤ 7 → fN (Fl19 58) 1 = fN (F 58) 1 → 7 - q219 < n19 → WT cA ad Fl19 → rFr [58, 62] F Fl19 → va_P D vwCl (rW ad Fl19) Hl19 → va_S (rA ad) s.heap Hl19 lol19 → M = m_X8_goBack_L26_19 n19 (AB ad Fl19) (nI q219) (nI j11) → ∀ (ls : Array Slot), lv_has ls 3 [(2, .int (nI q219)), (0, .ref (ad 58)), (1, .int (nI j11))] → W p l e { frames := 1, cells := 0, slots := 0, locals := 22 } s m args below meth c Hl19 lol19 0 0 Q (F0 m 26 ls []) := by
        intro n19
        induction n19 with
        | zero =>
          intro q219 Fl19 Hl19 lol19 iv19_0 ix19_li hm19 hWl19 hFl19 hPl19 hSl19 hEl19 ls19 hl19
          exact absurd hm19 (Nat.not_lt_zero _)
        | succ n19 ih19 =>
          intro q219 Fl19 Hl19 lol19 iv19_0 ix19_li hm19 hWl19 hFl19 hPl19 hSl19 hEl19 ls19 hl19
          have hE20 : M = m_X8_goBack_L26_19_b (m_X8_goBack_L26_19 n19) (AB ad Fl19) (nI q219) (nI j11) := hEl19
          obtain ⟨ty21, kn21, no21, en21, at21, sa21, sd21, wr21, pl21, va21, hF21, hb21_1, hb21_2, hb21_3, hb21_4, hb21_5, hb21_6⟩ := wt_m hWl19
          have hA22 := fN_of (k := 14) (a := at21) hF21 rfl (Nat.lt_of_le_of_lt hb21_5 (by decide))
          have hL22 := fN_of (k := 1) (a := ty21) hF21 rfl (Nat.lt_of_le_of_lt hb21_1 (by decide))
          refine lv_iload_n S.1 S.2.1 dX8_goBack_26 rfl (lv_at hl19 0 rfl) ?_
          refine lv_bipush (v := (nI 7)) S.1 S.2.1 dX8_goBack_27 (by decide +kernel) ?_
          refine lv_icmp_ge (tgt := 55) S.1 S.2.1 dX8_goBack_29 (by decide) (fun c23 => ?_) (fun c23 => ?_)
          · skip
            have k24 := ci_le (nI_toInt (n := 7) (by decide)) (nI_toInt (n := q219) (by omega)) c23
            refine lv_aload_n S.1 S.2.1 dX8_goBack_55 rfl (lv_at hl19 1 rfl) ?_
            refine lv_aload_n S.1 S.2.1 dX8_goBack_56 rfl (lv_at hl19 1 rfl) ?_
            refine r_get S hK hPl19 58 (by decide) hF21 (C := RX8) (T := TX8) (N := 23) hiX8 rfl 7 (by decide) (am_at in_wsX8_goBack_0 4 rfl) (v := .ref (ad 64)) rfl dX8_goBack_57 ?_
            refine lv_bipush (v := (nI 8)) S.1 S.2.1 dX8_goBack_60 (by decide +kernel) ?_
            refine lv_iload_n S.1 S.2.1 dX8_goBack_62 rfl (lv_at hl19 2 rfl) ?_
            refine lv_imul S.1 S.2.1 dX8_goBack_63 ?_
            refine lv_topi (fun v25 e25 => ?_)
            obtain rfl : v25 = nI (8 * j11) := e25.trans (pk_mul _ _)
            have m26 : ((nI 8) * (nI j11)) = (nI (8 * j11)) := cg2 (fun (x : Int32) (y : Int32) => x * y) (Eq.refl ((nI 8) : Int32)) (Eq.refl ((nI j11) : Int32)) e25
            refine lv_bipush (v := (nI 7)) S.1 S.2.1 dX8_goBack_64 (by decide +kernel) ?_
            refine lv_iadd S.1 S.2.1 dX8_goBack_66 ?_
            refine lv_topi (fun v27 e27 => ?_)
            obtain rfl : v27 = nI ((8 * j11) + 7) := e27.trans (nI_add _ _)
            have m28 : (((nI 8) * (nI j11)) + (nI 7)) = (nI ((8 * j11) + 7)) := cg2 (fun (x : Int32) (y : Int32) => x + y) m26 (Eq.refl ((nI 7) : Int32)) e27
            obtain ⟨g29, hF29, hg29⟩ := wt_I hWl19 (show (64, 16) ∈ rLI by decide)
            refine r_iald S hK hPl19 64 (by decide) hF29 (vp_in_nI (show (8 * j11) + 7 < 16 by omega) (by omega)) dX8_goBack_67 ?_
            refine lv_topi (fun v31 e31 => ?_)
            have m32 : ((AB ad Fl19) 64 (rl (((nI 8) * (nI j11)) + (nI 7)))) = v31 := (ab_cg rfl m28).trans ((AB_g hF29).trans e31.symm)
            refine r_put S hI hK hPl19 hSl19 58 (by decide) hF21 (C := RX8) (T := TX8) (N := 23) hiX8 tyX8_ok nmX8 rfl 9 (by decide) (am_at in_wsX8_goBack_0 5 rfl) rfl rfl rfl (Nat.le_of_ble_eq_true rfl) dX8_goBack_68 (fun F33 H33 locs33 eF33 hP33 hS33 => ?_)
            have hF33 : F33 58 = .inr (8, [.ref (ad 59), .int (nI ty21), .ref (ad 60), .ref (ad 61), .ref (ad 62), .ref (ad 63), .int (nI kn21), .ref (ad 64), .ref (ad 65), .int v31, .ref (ad 66), .int (nI no21), .ref (ad 67), .int (nI en21), .int (nI at21), .int wr21, .int pl21, .int va21, .int (nI sa21), .ref (ad 68), .ref (ad 69), .ref (ad 70), .ref (ad 71)]) := by rw [eF33]; exact va_up_self _ _ _
            have hW33 := hWl19.up eF33 (ok_m ⟨ty21, kn21, no21, en21, at21, sa21, v31, wr21, pl21, va21, rfl, by omega, by omega, by omega, by omega, by omega, by omega⟩)
            have hFr33 := hFl19.up eF33 (by simp <;> first | omega | (simp only [isC, isJ] at *; omega))
            have hE35 : M = m_X8_goBack_34 (m_X8_goBack_L26_19 n19) (AB ad F33) (nI q219) (nI j11) := hE20.trans ((show m_X8_goBack_L26_19_b (m_X8_goBack_L26_19 n19) (AB ad Fl19) (nI q219) (nI j11) = m_X8_goBack_34 (m_X8_goBack_L26_19 n19) (st (AB ad Fl19) 58 9 ((AB ad Fl19) 64 (rl (((nI 8) * (nI j11)) + (nI 7))))) (nI q219) (nI j11) from by unfold m_X8_goBack_L26_19_b; rw [if_pos (le_cg rfl rfl c23)]).trans (congr (congr (congrArg (m_X8_goBack_34 (m_X8_goBack_L26_19 n19)) ((st_cg rfl rfl m32).trans (AB_put hF21 (Nat.le_of_ble_eq_true rfl) eF33).symm)) (Eq.refl ((nI q219) : Int32))) (Eq.refl ((nI j11) : Int32))))
            refine lv_aload_n S.1 S.2.1 dX8_goBack_71 rfl (lv_at hl19 1 rfl) ?_
            refine lv_iconst (v := (nI 0)) S.1 S.2.1 dX8_goBack_72 (by decide +kernel) ?_
            refine r_put S hI hK hP33 hS33 58 (by decide) hF33 (C := RX8) (T := TX8) (N := 23) hiX8 tyX8_ok nmX8 rfl 6 (by decide) (am_at in_wsX8_goBack_0 6 rfl) rfl rfl rfl (Nat.le_of_ble_eq_true rfl) dX8_goBack_73 (fun F36 H36 locs36 eF36 hP36 hS36 => ?_)
            have hF36 : F36 58 = .inr (8, [.ref (ad 59), .int (nI ty21), .ref (ad 60), .ref (ad 61), .ref (ad 62), .ref (ad 63), .int (nI 0), .ref (ad 64), .ref (ad 65), .int v31, .ref (ad 66), .int (nI no21), .ref (ad 67), .int (nI en21), .int (nI at21), .int wr21, .int pl21, .int va21, .int (nI sa21), .ref (ad 68), .ref (ad 69), .ref (ad 70), .ref (ad 71)]) := by rw [eF36]; exact va_up_self _ _ _
            have hW36 := hW33.up eF36 (ok_m ⟨ty21, 0, no21, en21, at21, sa21, v31, wr21, pl21, va21, rfl, by omega, by omega, by omega, by omega, by omega, by omega⟩)
            have hFr36 := hFr33.up eF36 (by simp <;> first | omega | (simp only [isC, isJ] at *; omega))
            have hE38 : M = m_X8_goBack_37 (m_X8_goBack_L26_19 n19) (AB ad F36) (nI q219) (nI j11) := hE35.trans ((show m_X8_goBack_34 (m_X8_goBack_L26_19 n19) (AB ad F33) (nI q219) (nI j11) = m_X8_goBack_37 (m_X8_goBack_L26_19 n19) (st (AB ad F33) 58 6 (nI 0)) (nI q219) (nI j11) from rfl).trans (congr (congr (congrArg (m_X8_goBack_37 (m_X8_goBack_L26_19 n19)) ((st_cg rfl rfl rfl).trans (AB_put hF33 (Nat.le_of_ble_eq_true rfl) eF36).symm)) (Eq.refl ((nI q219) : Int32))) (Eq.refl ((nI j11) : Int32))))
            refine lv_iconst (v := (nI 1)) S.1 S.2.1 dX8_goBack_76 (by decide +kernel) ?_
            have hA39 := fN_of (k := 14) (a := at21) hF36 rfl (Nat.lt_of_le_of_lt hb21_5 (by decide))
            have hL39 := fN_of (k := 1) (a := ty21) hF36 rfl (Nat.lt_of_le_of_lt hb21_1 (by decide))
            have hE40 : M = ((nI 1), AB ad F36) := hE38.trans ((show m_X8_goBack_37 (m_X8_goBack_L26_19 n19) (AB ad F36) (nI q219) (nI j11) = ((nI 1), (AB ad F36)) from rfl).trans (congrArg (fun q => (q, AB ad F36)) rfl))
            exact hret 77 _ _ _ _ _ dX8_goBack_77 rfl hP36 hS36 ⟨hW36, hFr36, ⟨by omega, hM.symm.trans hE40⟩⟩
          have k41 := ci_nle (nI_toInt (n := 7) (by decide)) (nI_toInt (n := q219) (by omega)) c23
          refine lv_aload_n S.1 S.2.1 dX8_goBack_32 rfl (lv_at hl19 1 rfl) ?_
          refine r_get S hK hPl19 58 (by decide) hF21 (C := RX8) (T := TX8) (N := 23) hiX8 rfl 4 (by decide) (am_at in_wsX8_goBack_0 3 rfl) (v := .ref (ad 62)) rfl dX8_goBack_33 ?_
          refine lv_iload_n S.1 S.2.1 dX8_goBack_36 rfl (lv_at hl19 0 rfl) ?_
          refine lv_aload_n S.1 S.2.1 dX8_goBack_37 rfl (lv_at hl19 1 rfl) ?_
          refine r_get S hK hPl19 58 (by decide) hF21 (C := RX8) (T := TX8) (N := 23) hiX8 rfl 7 (by decide) (am_at in_wsX8_goBack_0 4 rfl) (v := .ref (ad 64)) rfl dX8_goBack_38 ?_
          refine lv_bipush (v := (nI 8)) S.1 S.2.1 dX8_goBack_41 (by decide +kernel) ?_
          refine lv_iload_n S.1 S.2.1 dX8_goBack_43 rfl (lv_at hl19 2 rfl) ?_
          refine lv_imul S.1 S.2.1 dX8_goBack_44 ?_
          refine lv_topi (fun v42 e42 => ?_)
          obtain rfl : v42 = nI (8 * j11) := e42.trans (pk_mul _ _)
          have m43 : ((nI 8) * (nI j11)) = (nI (8 * j11)) := cg2 (fun (x : Int32) (y : Int32) => x * y) (Eq.refl ((nI 8) : Int32)) (Eq.refl ((nI j11) : Int32)) e42
          refine lv_iload_n S.1 S.2.1 dX8_goBack_45 rfl (lv_at hl19 0 rfl) ?_
          refine lv_iadd S.1 S.2.1 dX8_goBack_46 ?_
          refine lv_topi (fun v44 e44 => ?_)
          obtain rfl : v44 = nI ((8 * j11) + q219) := e44.trans (nI_add _ _)
          have m45 : (((nI 8) * (nI j11)) + (nI q219)) = (nI ((8 * j11) + q219)) := cg2 (fun (x : Int32) (y : Int32) => x + y) m43 (Eq.refl ((nI q219) : Int32)) e44
          obtain ⟨g46, hF46, hg46⟩ := wt_I hWl19 (show (64, 16) ∈ rLI by decide)
          refine r_iald S hK hPl19 64 (by decide) hF46 (vp_in_nI (show (8 * j11) + q219 < 16 by omega) (by omega)) dX8_goBack_47 ?_
          refine lv_topi (fun v48 e48 => ?_)
          have m49 : ((AB ad Fl19) 64 (rl (((nI 8) * (nI j11)) + (nI q219)))) = v48 := (ab_cg rfl m45).trans ((AB_g hF46).trans e48.symm)
          obtain ⟨g50, hF50, hg50⟩ := wt_I hWl19 (show (62, 7) ∈ rLI by decide)
          refine r_iast S hI hK hPl19 hSl19 62 (by decide) hF50 (vp_in_nI (show q219 < 7 by omega) (by omega)) dX8_goBack_48 (fun F51 H51 locs51 eF51 hP51 hS51 => ?_)
          have hW51 := hWl19.up eF51 (ok_I (show (62, 7) ∈ rLI by decide) (okI_up hg50 (by rw [nI_clamp (by omega)]; apply to_S; rw [e48, nI_clamp (by omega)]; exact okS_cg (by omega) (pr_S8 (hg46 ((8 * j11) + q219) (by omega))))))
          have hFr51 := hFl19.up eF51 (by simp <;> first | omega | (simp only [isC, isJ] at *; omega))
          have hE53 : M = m_X8_goBack_52 (m_X8_goBack_L26_19 n19) (AB ad F51) (nI q219) (nI j11) := hE20.trans ((show m_X8_goBack_L26_19_b (m_X8_goBack_L26_19 n19) (AB ad Fl19) (nI q219) (nI j11) = m_X8_goBack_52 (m_X8_goBack_L26_19 n19) (st (AB ad Fl19) 62 (rl (nI q219)) ((AB ad Fl19) 64 (rl (((nI 8) * (nI j11)) + (nI q219))))) (nI q219) (nI j11) from by unfold m_X8_goBack_L26_19_b; rw [if_neg (nle_cg rfl rfl c23)]).trans (congr (congr (congrArg (m_X8_goBack_52 (m_X8_goBack_L26_19 n19)) ((st_cg rfl (congrArg rl rfl) m49).trans (AB_ast hF50 eF51).symm)) (Eq.refl ((nI q219) : Int32))) (Eq.refl ((nI j11) : Int32))))
          obtain ⟨gg51, eg51⟩ : ∃ g9, g9 = upd g50 (nI q219).toNatClampNeg v48 := ⟨_, rfl⟩
          have hF51 : F51 62 = .inl (cA 0, 7, .inl gg51) := by rw [eF51, eg51]; exact va_up_self _ _ _
          have hg51 : ∀ j, j < 7 → rPr 62 j (gg51 j) := by rw [eg51]; exact pr_up hg50 (by rw [nI_clamp (by omega)]; apply to_S; rw [e48, nI_clamp (by omega)]; exact okS_cg (by omega) (pr_S8 (hg46 ((8 * j11) + q219) (by omega))))
          have m55 : ((nI q219) + Int32.ofInt (1)) = (nI (q219 + 1)) := (congrArg (fun q : Int32 => q + Int32.ofInt (1)) rfl).trans (nI_add _ 1)
          refine lv_iinc (v := (nI (q219 + 1))) (lv' := [(2, .int (nI (q219 + 1))), (0, .ref (ad 58)), (1, .int (nI j11))]) S.1 S.2.1 dX8_goBack_49 hl19 (k := 0) rfl (nI_add _ 1) (by decide) rfl (fun ls54 hl54 => ?_)
          refine lv_goto (tgt := 26) S.1 S.2.1 dX8_goBack_52 (by decide) ?_
          have hF56 := (show F51 58 = Fl19 58 by rw [eF51]; exact va_up_ne _ _ (by decide)).trans hF21
          have hA57 := fN_of (k := 14) (a := at21) hF56 rfl (Nat.lt_of_le_of_lt hb21_5 (by decide))
          have hL57 := fN_of (k := 1) (a := ty21) hF56 rfl (Nat.lt_of_le_of_lt hb21_1 (by decide))
          have hE58 : M = (m_X8_goBack_L26_19 n19) (AB ad F51) (nI (q219 + 1)) (nI j11) := hE53.trans ((show m_X8_goBack_52 (m_X8_goBack_L26_19 n19) (AB ad F51) (nI q219) (nI j11) = (m_X8_goBack_L26_19 n19) (AB ad F51) ((nI q219) + Int32.ofInt (1)) (nI j11) from rfl).trans (congr (congr (congrArg ((m_X8_goBack_L26_19 n19)) (rfl : AB ad F51 = AB ad F51)) m55) (Eq.refl ((nI j11) : Int32))))
          exact ih19 (q219 + 1) F51 H51 locs51 (by omega) (by omega) (by omega) hW51 hFr51 hP51 hS51 hE58 ls54 (lv_sub hl54 [0, 1, 2] rfl)
      have hA59 := fN_of (k := 14) (a := at1) hF1 rfl (Nat.lt_of_le_of_lt hb1_5 (by decide))
      have hL59 := fN_of (k := 1) (a := ty1) hF1 rfl (Nat.lt_of_le_of_lt hb1_1 (by decide))
      have hE60 : M = m_X8_goBack_L26_19 2000 (AB ad F) (nI 0) (nI j11) := hM.trans ((show m_X8_goBack (AB ad F) (nI j11) = m_X8_goBack_L26_19 2000 (AB ad F) (nI 0) (nI j11) from by unfold m_X8_goBack; rw [if_neg (neq_cg m8 rfl c9), if_neg (neq_cg m15 rfl c16)]).trans (congr (congr (congrArg (m_X8_goBack_L26_19 2000) (rfl : AB ad F = AB ad F)) (Eq.refl ((nI 0) : Int32))) (Eq.refl ((nI j11) : Int32))))
      exact lp19 2000 (0) F s.heap [] (by omega) (by omega) (by omega) hW hFr hP hS hE60 ls18 (lv_sub hl18 [0, 1, 2] rfl)
    have k61 := ci_eq rfl z_ti c16
    refine lv_ldc (v := (-1000000003)) S.1 S.2.1 S.2.2.2.1 (S.2.2.2.2 (.constant RX8 139 (-1000000003)) (am_at in_wsX8_goBack_0 2 rfl)) dX8_goBack_21 ?_
    have hA62 := fN_of (k := 14) (a := at1) hF1 rfl (Nat.lt_of_le_of_lt hb1_5 (by decide))
    have hL62 := fN_of (k := 1) (a := ty1) hF1 rfl (Nat.lt_of_le_of_lt hb1_1 (by decide))
    have hE63 : M = ((-1000000003), AB ad F) := hM.trans ((show m_X8_goBack (AB ad F) (nI j11) = (((-1000000003) : Int32), (AB ad F)) from by unfold m_X8_goBack; rw [if_neg (neq_cg m8 rfl c9), if_pos (eq_cg m15 rfl c16)]).trans (congrArg (fun q => (q, AB ad F)) rfl))
    exact hret 23 _ _ _ _ _ dX8_goBack_23 rfl hP hS ⟨hW, hFr, ⟨by omega, hM.symm.trans hE63⟩⟩
  have k64 := ci_eq (nI_toInt (n := b4) (Nat.lt_of_le_of_lt hb4 (by decide))) z_ti c9
  refine lv_ldc (v := (-1000000001)) S.1 S.2.1 S.2.2.2.1 (S.2.2.2.2 (.constant RX8 126 (-1000000001)) (am_at in_wsX8_goBack_0 0 rfl)) dX8_goBack_9 ?_
  have hA65 := fN_of (k := 14) (a := at1) hF1 rfl (Nat.lt_of_le_of_lt hb1_5 (by decide))
  have hL65 := fN_of (k := 1) (a := ty1) hF1 rfl (Nat.lt_of_le_of_lt hb1_1 (by decide))
  have hE66 : M = ((-1000000001), AB ad F) := hM.trans ((show m_X8_goBack (AB ad F) p1 = (((-1000000001) : Int32), (AB ad F)) from by unfold m_X8_goBack; rw [if_pos (eq_cg m8 rfl c9)]).trans (congrArg (fun q => (q, AB ad F)) rfl))
  exact hret 11 _ _ _ _ _ dX8_goBack_11 rfl hP hS ⟨hW, hFr, ⟨by omega, hM.symm.trans hE66⟩⟩
