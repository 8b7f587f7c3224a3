noncomputable def m_X4_cell (σ : SS) (a0 : Int32) (a1 : Int32) : Int32 :=
  (((a0 * (nI 5)) + a1) * (nI 4))
set_option maxHeartbeats 4000000 in
set_option maxRecDepth 100000 in
theorem c_X4_cell (l : Launch) (D : va_G) (cA ad : Nat → Nat) (t : Nat) (hI : rI ad) (F : Nat → va_E) (hW : WT cA ad F) (p1 : Int32) (p2 : Int32) : MP l D cA ad t yX4_cell wsX4_cell { frames := 0, cells := 0, slots := 0, locals := 0 } [.int p1, .int p2] F (fun r => (r = (p1 * nI 5 + p2) * nI 4) ∧ m_X4_cell (AB ad F) p1 p2 = r) := by
  refine en_P rfl (by decide +kernel) (Nat.le_of_ble_eq_true rfl) ?_
  intro p e s m args below meth c ls0 Q S hK hZ hP hS hl0 hret
  have hl0 : lv_has ls0 2 [(0, .int p1), (1, .int p2)] := hl0
  obtain ⟨M, hM⟩ : ∃ M, M = m_X4_cell (AB ad F) p1 p2 := ⟨_, rfl⟩
  refine lv_iload_n S.1 S.2.1 dX4_cell_0 rfl (lv_at hl0 0 rfl) ?_
  refine lv_iconst (v := (nI 5)) S.1 S.2.1 dX4_cell_1 (by decide +kernel) ?_
  refine lv_imul S.1 S.2.1 dX4_cell_2 ?_
  refine lv_topi (fun v1 e1 => ?_)
  have m2 : (p1 * (nI 5)) = v1 := cg2 (fun (x : Int32) (y : Int32) => x * y) (Eq.refl (p1 : Int32)) (Eq.refl ((nI 5) : Int32)) e1
  refine lv_iload_n S.1 S.2.1 dX4_cell_3 rfl (lv_at hl0 1 rfl) ?_
  refine lv_iadd S.1 S.2.1 dX4_cell_4 ?_
  refine lv_topi (fun v3 e3 => ?_)
  have m4 : ((p1 * (nI 5)) + p2) = v3 := cg2 (fun (x : Int32) (y : Int32) => x + y) m2 (Eq.refl (p2 : Int32)) e3
  refine lv_iconst (v := (nI 4)) S.1 S.2.1 dX4_cell_5 (by decide +kernel) ?_
  refine lv_imul S.1 S.2.1 dX4_cell_6 ?_
  refine lv_topi (fun v5 e5 => ?_)
  have m6 : (((p1 * (nI 5)) + p2) * (nI 4)) = v5 := cg2 (fun (x : Int32) (y : Int32) => x * y) m4 (Eq.refl ((nI 4) : Int32)) e5
  have hE7 : M = v5 := hM.trans ((show m_X4_cell (AB ad F) p1 p2 = (((p1 * (nI 5)) + p2) * (nI 4)) from rfl).trans m6)
  exact hret 7 _ _ dX4_cell_7 rfl (⟨by rw [e5, e3, e1], hM.symm.trans hE7⟩)
set_option maxHeartbeats 4000000 in
set_option maxRecDepth 100000 in
theorem c_X4_clear (l : Launch) (D : va_G) (cA ad : Nat → Nat) (t : Nat) (hI : rI ad) (F : Nat → va_E) (hW : WT cA ad F) (ra : Nat) (hra : (ra, 160) ∈ rLL) : MV l D cA ad t yX4_clear wsX4_clear { frames := 0, cells := 0, slots := 0, locals := 0 } [.ref (ad ra)] F (fun F' => WT cA ad F' ∧ rFr [ra] F F' ∧ (True)) := by
  refine en_V rfl (by decide +kernel) (Nat.le_of_ble_eq_true rfl) ?_
  intro p e s m args below meth c ls0 Q S hK hZ hP hS hl0 hret
  have hl0 : lv_has ls0 2 [(0, .ref (ad ra))] := hl0
  have hFr : rFr [ra] F F := rFr.rf
  refine lv_iconst (v := (nI 0)) S.1 S.2.1 dX4_clear_0 (by decide +kernel) ?_
  refine lv_istore_n (lv' := [(1, .int (nI 0)), (0, .ref (ad ra))]) S.1 S.2.1 dX4_clear_1 rfl hl0 (by decide) rfl (fun ls1 hl1 => ?_)
  have lp2 : ∀ (n2 : Nat) (q12 : Nat), ∀ (Fl2 : Nat → va_E) (Hl2 : Heap) (lol2 : List Loc), q12 ≤ 160 → 160 - q12 < n2 → WT cA ad Fl2 → rFr [ra] F Fl2 → va_P D vwCl (rW ad Fl2) Hl2 → va_S (rA ad) s.heap Hl2 lol2 → ∀ (ls : Array Slot), lv_has ls 2 [(1, .int (nI q12)), (0, .ref (ad ra))] → W p l e { frames := 0, cells := 0, slots := 0, locals := 0 } s m args below meth c Hl2 lol2 0 0 Q (F0 m 2 ls []) := by
    intro n2
    induction n2 with
    | zero =>
      intro q12 Fl2 Hl2 lol2 iv2_0 hm2 hWl2 hFl2 hPl2 hSl2 ls2 hl2
      exact absurd hm2 (Nat.not_lt_zero _)
    | succ n2 ih2 =>
      intro q12 Fl2 Hl2 lol2 iv2_0 hm2 hWl2 hFl2 hPl2 hSl2 ls2 hl2
      refine lv_iload_n S.1 S.2.1 dX4_clear_2 rfl (lv_at hl2 0 rfl) ?_
      refine lv_aload_n S.1 S.2.1 dX4_clear_3 rfl (lv_at hl2 1 rfl) ?_
      obtain ⟨g3, hF3⟩ := wt_L hWl2 hra
      refine r_alen S hK hPl2 ra (lt_L hra) 2 hF3 rfl dX4_clear_4 ?_
      refine lv_icmp_ge (tgt := 18) S.1 S.2.1 dX4_clear_5 (by decide) (fun c4 => ?_) (fun c4 => ?_)
      · skip
        have k5 := ci_le (nI_toInt (n := 160) (by decide)) (nI_toInt (n := q12) (by omega)) c4
        exact hret 18 _ _ _ _ dX4_clear_18 hPl2 hSl2 ⟨hWl2, hFl2, trivial⟩
      have k6 := ci_nle (nI_toInt (n := 160) (by decide)) (nI_toInt (n := q12) (by omega)) c4
      refine lv_aload_n S.1 S.2.1 dX4_clear_8 rfl (lv_at hl2 1 rfl) ?_
      refine lv_iload_n S.1 S.2.1 dX4_clear_9 rfl (lv_at hl2 0 rfl) ?_
      refine lv_lconst (v := 0) S.1 S.2.1 dX4_clear_10 (by decide +kernel) ?_
      refine r_last S hI hK hPl2 hSl2 ra (lt_L hra) hF3 (vp_in_nI (show q12 < 160 by omega) (by omega)) dX4_clear_11 (fun F7 H7 locs7 eF7 hP7 hS7 => ?_)
      have hW7 := hWl2.up eF7 (ok_L hra ⟨_, rfl⟩)
      have hFr7 := hFl2.up eF7 (by simp <;> first | omega | (simp only [isC, isJ] at *; omega))
      refine lv_iinc (v := (nI (q12 + 1))) (lv' := [(1, .int (nI (q12 + 1))), (0, .ref (ad ra))]) S.1 S.2.1 dX4_clear_12 hl2 (k := 0) rfl (nI_add _ 1) (by decide) rfl (fun ls8 hl8 => ?_)
      refine lv_goto (tgt := 2) S.1 S.2.1 dX4_clear_15 (by decide) ?_
      exact ih2 (q12 + 1) F7 H7 locs7 (by omega) (by omega) hW7 hFr7 hP7 hS7 ls8 (lv_sub hl8 [0, 1] rfl)
  exact lp2 (160 - (0) + 1) (0) F s.heap [] (by omega) (by omega) hW hFr hP hS ls1 (lv_sub hl1 [0, 1] rfl)
set_option maxHeartbeats 4000000 in
set_option maxRecDepth 100000 in
theorem c_X4_isEmpty (l : Launch) (D : va_G) (cA ad : Nat → Nat) (t : Nat) (hI : rI ad) (F : Nat → va_E) (hW : WT cA ad F) (a1 : Nat) (ha1 : a1 ≤ 156) : MP l D cA ad t yX4_isEmpty wsX4_isEmpty { frames := 0, cells := 0, slots := 0, locals := 0 } [.ref (ad 30), .int (nI a1)] F (fun r => le32 1 r) := by
  refine en_P rfl (by decide +kernel) (Nat.le_of_ble_eq_true rfl) ?_
  intro p e s m args below meth c ls0 Q S hK hZ hP hS hl0 hret
  have hl0 : lv_has ls0 5 [(0, .ref (ad 30)), (1, .int (nI a1))] := hl0
  have hiX4 : ∀ w ∈ u_ws RX4 TX4 2, w ∈ wsX4_isEmpty := in_wsX4_isEmpty_1
  refine lv_lconst (v := 0) S.1 S.2.1 dX4_isEmpty_0 (by decide +kernel) ?_
  refine lv_lstore_n (lv' := [(2, .long 0), (0, .ref (ad 30)), (1, .int (nI a1))]) S.1 S.2.1 dX4_isEmpty_1 rfl hl0 (by decide) rfl (fun ls1 hl1 => ?_)
  refine lv_iconst (v := (nI 0)) S.1 S.2.1 dX4_isEmpty_2 (by decide +kernel) ?_
  refine lv_istore (lv' := [(4, .int (nI 0)), (2, .long 0), (0, .ref (ad 30)), (1, .int (nI a1))]) S.1 S.2.1 dX4_isEmpty_3 hl1 (by decide) rfl (fun ls2 hl2 => ?_)
  have lp3 : ∀ (n3 : Nat) (q43 : Nat) (x3_2 : Int64), q43 ≤ 4 → 4 - q43 < n3 → ∀ (ls : Array Slot), lv_has ls 5 [(4, .int (nI q43)), (2, .long x3_2), (0, .ref (ad 30)), (1, .int (nI a1))] → W p l e { frames := 0, cells := 0, slots := 0, locals := 0 } s m args below meth c s.heap [] 0 0 Q (F0 m 5 ls []) := by
    intro n3
    induction n3 with
    | zero =>
      intro q43 x3_2 iv3_0 hm3 ls3 hl3
      exact absurd hm3 (Nat.not_lt_zero _)
    | succ n3 ih3 =>
      intro q43 x3_2 iv3_0 hm3 ls3 hl3
      refine lv_iload S.1 S.2.1 dX4_isEmpty_5 (lv_at hl3 0 rfl) ?_
      refine lv_iconst (v := (nI 4)) S.1 S.2.1 dX4_isEmpty_7 (by decide +kernel) ?_
      refine lv_icmp_ge (tgt := 29) S.1 S.2.1 dX4_isEmpty_8 (by decide) (fun c4 => ?_) (fun c4 => ?_)
      · skip
        have k5 := ci_le (nI_toInt (n := 4) (by decide)) (nI_toInt (n := q43) (by omega)) c4
        refine lv_lload_n S.1 S.2.1 dX4_isEmpty_29 rfl (lv_at hl3 1 rfl) ?_
        refine lv_lconst (v := 0) S.1 S.2.1 dX4_isEmpty_30 (by decide +kernel) ?_
        refine W.lcmp S.1 S.2.1 dX4_isEmpty_31 ?_
        refine lv_topi (fun v6 e6 => ?_)
        refine lv_if_ne (tgt := 39) S.1 S.2.1 dX4_isEmpty_32 (by decide) (fun c7 => ?_) (fun c7 => ?_)
        · skip
          have k8 := ci_ne rfl z_ti c7
          refine lv_iconst (v := (nI 0)) S.1 S.2.1 dX4_isEmpty_39 (by decide +kernel) ?_
          exact hret 40 _ _ dX4_isEmpty_40 rfl (⟨0, by omega, rfl⟩)
        have k9 := ci_eq rfl z_ti c7
        refine lv_iconst (v := (nI 1)) S.1 S.2.1 dX4_isEmpty_35 (by decide +kernel) ?_
        refine lv_goto (tgt := 40) S.1 S.2.1 dX4_isEmpty_36 (by decide) ?_
        exact hret 40 _ _ dX4_isEmpty_40 rfl (⟨1, by omega, rfl⟩)
      have k10 := ci_nle (nI_toInt (n := 4) (by decide)) (nI_toInt (n := q43) (by omega)) c4
      refine lv_lload_n S.1 S.2.1 dX4_isEmpty_11 rfl (lv_at hl3 1 rfl) ?_
      refine lv_aload_n S.1 S.2.1 dX4_isEmpty_12 rfl (lv_at hl3 2 rfl) ?_
      obtain ⟨a11, b11, hF11, ha11, hb11⟩ := wt_search hW
      refine r_get S hK hP 30 (by decide) hF11 (C := RX4) (T := TX4) (N := 2) hiX4 rfl 0 (by decide) (am_at in_wsX4_isEmpty_0 0 rfl) (v := .ref (ad a11)) rfl dX4_isEmpty_13 ?_
      refine lv_iload_n S.1 S.2.1 dX4_isEmpty_16 rfl (lv_at hl3 3 rfl) ?_
      refine lv_iload S.1 S.2.1 dX4_isEmpty_17 (lv_at hl3 0 rfl) ?_
      refine lv_iadd S.1 S.2.1 dX4_isEmpty_19 ?_
      refine lv_topi (fun v12 e12 => ?_)
      obtain rfl : v12 = nI (a1 + q43) := e12.trans (nI_add _ _)
      obtain ⟨g13, hF13⟩ := wt_L hW (S_L ha11)
      refine r_lald S hK hP a11 (lt_L (S_L ha11)) hF13 (vp_in_nI (show a1 + q43 < 160 by omega) (by omega)) dX4_isEmpty_20 ?_
      refine lv_topl (fun v15 e15 => ?_)
      refine lv_lor S.1 S.2.1 dX4_isEmpty_21 ?_
      refine lv_topl (fun v16 e16 => ?_)
      refine lv_lstore_n (lv' := [(2, .long v16), (4, .int (nI q43)), (0, .ref (ad 30)), (1, .int (nI a1))]) S.1 S.2.1 dX4_isEmpty_22 rfl hl3 (by decide) rfl (fun ls17 hl17 => ?_)
      refine lv_iinc (v := (nI (q43 + 1))) (lv' := [(4, .int (nI (q43 + 1))), (2, .long v16), (0, .ref (ad 30)), (1, .int (nI a1))]) S.1 S.2.1 dX4_isEmpty_23 hl17 (k := 1) rfl (nI_add _ 1) (by decide) rfl (fun ls18 hl18 => ?_)
      refine lv_goto (tgt := 5) S.1 S.2.1 dX4_isEmpty_26 (by decide) ?_
      exact ih3 (q43 + 1) (v16) (by omega) (by omega) ls18 (lv_sub hl18 [0, 1, 2, 3] rfl)
  exact lp3 (4 - (0) + 1) (0) (0) (by omega) (by omega) ls2 (lv_sub hl2 [0, 1, 2, 3] rfl)
set_option maxHeartbeats 4000000 in
set_option maxRecDepth 100000 in
theorem c_X4_holds (l : Launch) (D : va_G) (cA ad : Nat → Nat) (t : Nat) (hI : rI ad) (F : Nat → va_E) (hW : WT cA ad F) (rc : Nat) (hrc : isC rc) (s2 : Nat) (hs2 : s2 ≤ 255) : MP l D cA ad t yX4_holds wsX4_holds { frames := 1, cells := 0, slots := 0, locals := 21 } [.ref (ad 30), .ref (ad rc), .int (nI s2)] F (fun r => le32 1 r) := by
  refine en_P rfl (by decide +kernel) (Nat.le_of_ble_eq_true rfl) ?_
  intro p e s m args below meth c ls0 Q S hK hZ hP hS hl0 hret
  have hl0 : lv_has ls0 5 [(0, .ref (ad 30)), (1, .ref (ad rc)), (2, .int (nI s2))] := hl0
  have hiX0 : ∀ w ∈ u_ws RX0 TX0 10, w ∈ wsX4_holds := in_wsX4_holds_1
  have hiX4 : ∀ w ∈ u_ws RX4 TX4 2, w ∈ wsX4_holds := in_wsX4_holds_2
  refine lv_iconst (v := (nI 0)) S.1 S.2.1 dX4_holds_0 (by decide +kernel) ?_
  refine lv_istore_n (lv' := [(3, .int (nI 0)), (0, .ref (ad 30)), (1, .ref (ad rc)), (2, .int (nI s2))]) S.1 S.2.1 dX4_holds_1 rfl hl0 (by decide) rfl (fun ls1 hl1 => ?_)
  have lp2 : ∀ (n2 : Nat) (q32 : Nat), q32 ≤ 8 → 8 - q32 < n2 → ∀ (ls : Array Slot), lv_has ls 5 [(3, .int (nI q32)), (0, .ref (ad 30)), (1, .ref (ad rc)), (2, .int (nI s2))] → W p l e { frames := 1, cells := 0, slots := 0, locals := 21 } s m args below meth c s.heap [] 0 0 Q (F0 m 2 ls []) := by
    intro n2
    induction n2 with
    | zero =>
      intro q32 iv2_0 hm2 ls2 hl2
      exact absurd hm2 (Nat.not_lt_zero _)
    | succ n2 ih2 =>
      intro q32 iv2_0 hm2 ls2 hl2
      refine lv_iload_n S.1 S.2.1 dX4_holds_2 rfl (lv_at hl2 0 rfl) ?_
      refine lv_aload_n S.1 S.2.1 dX4_holds_3 rfl (lv_at hl2 2 rfl) ?_
      obtain ⟨sl3, fm3, tn3, rn3, bn3, hF3, hb3_1, hb3_2, hb3_3⟩ := wt_C hW hrc
      refine r_get S hK hP rc (lt_C hrc) hF3 (C := RX0) (T := TX0) (N := 10) hiX0 rfl 2 (by decide) (am_at in_wsX4_holds_0 0 rfl) (v := .int (nI tn3)) rfl dX4_holds_4 ?_
      refine lv_icmp_ge (tgt := 64) S.1 S.2.1 dX4_holds_7 (by decide) (fun c4 => ?_) (fun c4 => ?_)
      · skip
        have k5 := ci_le (nI_toInt (n := tn3) (by omega)) (nI_toInt (n := q32) (by omega)) c4
        refine lv_iconst (v := (nI 0)) S.1 S.2.1 dX4_holds_64 (by decide +kernel) ?_
        exact hret 65 _ _ dX4_holds_65 rfl (⟨0, by omega, rfl⟩)
      have k6 := ci_nle (nI_toInt (n := tn3) (by omega)) (nI_toInt (n := q32) (by omega)) c4
      refine lv_iconst (v := (nI 0)) S.1 S.2.1 dX4_holds_10 (by decide +kernel) ?_
      refine lv_istore (lv' := [(4, .int (nI 0)), (3, .int (nI q32)), (0, .ref (ad 30)), (1, .ref (ad rc)), (2, .int (nI s2))]) S.1 S.2.1 dX4_holds_11 hl2 (by decide) rfl (fun ls7 hl7 => ?_)
      have lp8 : ∀ (n8 : Nat) (q48 : Nat), q48 ≤ 5 → 5 - q48 < n8 → ∀ (ls : Array Slot), lv_has ls 5 [(4, .int (nI q48)), (3, .int (nI q32)), (0, .ref (ad 30)), (1, .ref (ad rc)), (2, .int (nI s2))] → W p l e { frames := 1, cells := 0, slots := 0, locals := 21 } s m args below meth c s.heap [] 0 0 Q (F0 m 13 ls []) := by
        intro n8
        induction n8 with
        | zero =>
          intro q48 iv8_0 hm8 ls8 hl8
          exact absurd hm8 (Nat.not_lt_zero _)
        | succ n8 ih8 =>
          intro q48 iv8_0 hm8 ls8 hl8
          refine lv_iload S.1 S.2.1 dX4_holds_13 (lv_at hl8 0 rfl) ?_
          refine lv_aload_n S.1 S.2.1 dX4_holds_15 rfl (lv_at hl8 3 rfl) ?_
          refine r_get S hK hP rc (lt_C hrc) hF3 (C := RX0) (T := TX0) (N := 10) hiX0 rfl 0 (by decide) (am_at in_wsX4_holds_0 1 rfl) (v := .int (nI sl3)) rfl dX4_holds_16 ?_
          refine lv_icmp_gt (tgt := 58) S.1 S.2.1 dX4_holds_19 (by decide) (fun c9 => ?_) (fun c9 => ?_)
          · skip
            have k10 := ci_lt (nI_toInt (n := sl3) (by omega)) (nI_toInt (n := q48) (by omega)) c9
            refine lv_iinc (v := (nI (q32 + 1))) (lv' := [(3, .int (nI (q32 + 1))), (4, .int (nI q48)), (0, .ref (ad 30)), (1, .ref (ad rc)), (2, .int (nI s2))]) S.1 S.2.1 dX4_holds_58 hl8 (k := 1) rfl (nI_add _ 1) (by decide) rfl (fun ls11 hl11 => ?_)
            refine lv_goto (tgt := 2) S.1 S.2.1 dX4_holds_61 (by decide) ?_
            exact ih2 (q32 + 1) (by omega) (by omega) ls11 (lv_sub hl11 [0, 2, 3, 4] rfl)
          have k12 := ci_nlt (nI_toInt (n := sl3) (by omega)) (nI_toInt (n := q48) (by omega)) c9
          refine lv_aload_n S.1 S.2.1 dX4_holds_22 rfl (lv_at hl8 2 rfl) ?_
          obtain ⟨a13, b13, hF13, ha13, hb13⟩ := wt_search hW
          refine r_get S hK hP 30 (by decide) hF13 (C := RX4) (T := TX4) (N := 2) hiX4 rfl 0 (by decide) (am_at in_wsX4_holds_0 2 rfl) (v := .ref (ad a13)) rfl dX4_holds_23 ?_
          refine lv_iload_n S.1 S.2.1 dX4_holds_26 rfl (lv_at hl8 1 rfl) ?_
          refine lv_iload S.1 S.2.1 dX4_holds_27 (lv_at hl8 0 rfl) ?_
          refine r_cSp (As := [.int (nI q32), .int (nI q48)]) (rest := [.ref (ad a13)]) S hK hZ hP hS hl8.1 (c_X4_cell l D cA ad t hI F hW (nI q32) (nI q48)) (va_cwS 2 S.2.2.2.2 gX4_holds_X4_cell rfl rfl rfl (by decide +kernel) ⟨Nat.le_of_ble_eq_true rfl, Nat.le_of_ble_eq_true rfl⟩) rfl rfl (Nat.le_of_ble_eq_true rfl) ⟨Nat.zero_le _, Nat.zero_le _⟩ dX4_holds_29 (fun r14 hr14 => ?_)
          obtain ⟨hr14, hm14⟩ := hr14
          obtain rfl : r14 = nI ((q32 * 5 + q48) * 4) := hr14.trans (by rw [pk_mul, nI_add, pk_mul])
          refine lv_iload_n S.1 S.2.1 dX4_holds_32 rfl (lv_at hl8 4 rfl) ?_
          refine lv_bipush (v := (nI 6)) S.1 S.2.1 dX4_holds_33 (by decide +kernel) ?_
          refine lv_ishr S.1 S.2.1 dX4_holds_35 ?_
          refine lv_topi (fun v15 e15 => ?_)
          obtain rfl : v15 = nI (s2 / 64) := e15.trans (pk_shrN (by omega) _ 6 (by decide +kernel))
          refine lv_iadd S.1 S.2.1 dX4_holds_36 ?_
          refine lv_topi (fun v16 e16 => ?_)
          obtain rfl : v16 = nI (((q32 * 5 + q48) * 4) + (s2 / 64)) := e16.trans (nI_add _ _)
          obtain ⟨g17, hF17⟩ := wt_L hW (S_L ha13)
          refine r_lald S hK hP a13 (lt_L (S_L ha13)) hF17 (vp_in_nI (show ((q32 * 5 + q48) * 4) + (s2 / 64) < 160 by omega) (by omega)) dX4_holds_37 ?_
          refine lv_topl (fun v19 e19 => ?_)
          refine lv_iload_n S.1 S.2.1 dX4_holds_38 rfl (lv_at hl8 4 rfl) ?_
          refine lv_bipush (v := (nI 63)) S.1 S.2.1 dX4_holds_39 (by decide +kernel) ?_
          refine lv_iand S.1 S.2.1 dX4_holds_41 ?_
          refine lv_topi (fun v20 e20 => ?_)
          refine lv_lushr S.1 S.2.1 dX4_holds_42 rfl ?_
          refine lv_topl (fun v21 e21 => ?_)
          refine lv_lconst (v := 1) S.1 S.2.1 dX4_holds_43 (by decide +kernel) ?_
          refine lv_land S.1 S.2.1 dX4_holds_44 ?_
          refine lv_topl (fun v22 e22 => ?_)
          refine lv_lconst (v := 0) S.1 S.2.1 dX4_holds_45 (by decide +kernel) ?_
          refine W.lcmp S.1 S.2.1 dX4_holds_46 ?_
          refine lv_topi (fun v23 e23 => ?_)
          refine lv_if_eq (tgt := 52) S.1 S.2.1 dX4_holds_47 (by decide) (fun c24 => ?_) (fun c24 => ?_)
          · skip
            have k25 := ci_eq rfl z_ti c24
            refine lv_iinc (v := (nI (q48 + 1))) (lv' := [(4, .int (nI (q48 + 1))), (3, .int (nI q32)), (0, .ref (ad 30)), (1, .ref (ad rc)), (2, .int (nI s2))]) S.1 S.2.1 dX4_holds_52 hl8 (k := 0) rfl (nI_add _ 1) (by decide) rfl (fun ls26 hl26 => ?_)
            refine lv_goto (tgt := 13) S.1 S.2.1 dX4_holds_55 (by decide) ?_
            exact ih8 (q48 + 1) (by omega) (by omega) ls26 (lv_sub hl26 [0, 1, 2, 3, 4] rfl)
          have k27 := ci_ne rfl z_ti c24
          refine lv_iconst (v := (nI 1)) S.1 S.2.1 dX4_holds_50 (by decide +kernel) ?_
          exact hret 51 _ _ dX4_holds_51 rfl (⟨1, by omega, rfl⟩)
      exact lp8 (5 - (0) + 1) (0) (by omega) (by omega) ls7 (lv_sub hl7 [0, 1, 2, 3, 4] rfl)
  exact lp2 (8 - (0) + 1) (0) (by omega) (by omega) ls1 (lv_sub hl1 [0, 1, 2, 3] rfl)
set_option maxHeartbeats 4000000 in
set_option maxRecDepth 100000 in
theorem c_X4_moveAll (l : Launch) (D : va_G) (cA ad : Nat → Nat) (t : Nat) (hI : rI ad) (F : Nat → va_E) (hW : WT cA ad F) (a1 : Nat) (ha1 : a1 ≤ 156) (b2 : Nat) (hb2 : b2 ≤ 156) (p3 : Int32) (hseal : -1 ≤ p3.toInt ∧ p3.toInt ≤ 7) : MV l D cA ad t yX4_moveAll wsX4_moveAll { frames := 0, cells := 0, slots := 0, locals := 0 } [.ref (ad 30), .int (nI a1), .int (nI b2), .int p3] F (fun F' => WT cA ad F' ∧ rFr [30, 31, 32] F F' ∧ (True)) := by
  refine en_V rfl (by decide +kernel) (Nat.le_of_ble_eq_true rfl) ?_
  intro p e s m args below meth c ls0 Q S hK hZ hP hS hl0 hret
  have hl0 : lv_has ls0 9 [(0, .ref (ad 30)), (1, .int (nI a1)), (2, .int (nI b2)), (3, .int p3)] := hl0
  have hFr : rFr [30, 31, 32] F F := rFr.rf
  have hiX4 : ∀ w ∈ u_ws RX4 TX4 2, w ∈ wsX4_moveAll := in_wsX4_moveAll_1
  refine lv_iconst (v := (nI 0)) S.1 S.2.1 dX4_moveAll_0 (by decide +kernel) ?_
  refine lv_istore (lv' := [(4, .int (nI 0)), (0, .ref (ad 30)), (1, .int (nI a1)), (2, .int (nI b2)), (3, .int p3)]) S.1 S.2.1 dX4_moveAll_1 hl0 (by decide) rfl (fun ls1 hl1 => ?_)
  have lp2 : ∀ (n2 : Nat) (q42 : Nat), ∀ (Fl2 : Nat → va_E) (Hl2 : Heap) (lol2 : List Loc), q42 ≤ 4 → 4 - q42 < n2 → WT cA ad Fl2 → rFr [30, 31, 32] F Fl2 → va_P D vwCl (rW ad Fl2) Hl2 → va_S (rA ad) s.heap Hl2 lol2 → ∀ (ls : Array Slot), lv_has ls 9 [(4, .int (nI q42)), (0, .ref (ad 30)), (1, .int (nI a1)), (2, .int (nI b2)), (3, .int p3)] → W p l e { frames := 0, cells := 0, slots := 0, locals := 0 } s m args below meth c Hl2 lol2 0 0 Q (F0 m 3 ls []) := by
    intro n2
    induction n2 with
    | zero =>
      intro q42 Fl2 Hl2 lol2 iv2_0 hm2 hWl2 hFl2 hPl2 hSl2 ls2 hl2
      exact absurd hm2 (Nat.not_lt_zero _)
    | succ n2 ih2 =>
      intro q42 Fl2 Hl2 lol2 iv2_0 hm2 hWl2 hFl2 hPl2 hSl2 ls2 hl2
      refine lv_iload S.1 S.2.1 dX4_moveAll_3 (lv_at hl2 0 rfl) ?_
      refine lv_iconst (v := (nI 4)) S.1 S.2.1 dX4_moveAll_5 (by decide +kernel) ?_
      refine lv_icmp_ge (tgt := 112) S.1 S.2.1 dX4_moveAll_6 (by decide) (fun c3 => ?_) (fun c3 => ?_)
      · skip
        have k4 := ci_le (nI_toInt (n := 4) (by decide)) (nI_toInt (n := q42) (by omega)) c3
        exact hret 112 _ _ _ _ dX4_moveAll_112 hPl2 hSl2 ⟨hWl2, hFl2, trivial⟩
      have k5 := ci_nle (nI_toInt (n := 4) (by decide)) (nI_toInt (n := q42) (by omega)) c3
      refine lv_aload_n S.1 S.2.1 dX4_moveAll_9 rfl (lv_at hl2 1 rfl) ?_
      obtain ⟨a6, b6, hF6, ha6, hb6⟩ := wt_search hWl2
      refine r_get S hK hPl2 30 (by decide) hF6 (C := RX4) (T := TX4) (N := 2) hiX4 rfl 0 (by decide) (am_at in_wsX4_moveAll_0 0 rfl) (v := .ref (ad a6)) rfl dX4_moveAll_10 ?_
      refine lv_iload_n S.1 S.2.1 dX4_moveAll_13 rfl (lv_at hl2 2 rfl) ?_
      refine lv_iload S.1 S.2.1 dX4_moveAll_14 (lv_at hl2 0 rfl) ?_
      refine lv_iadd S.1 S.2.1 dX4_moveAll_16 ?_
      refine lv_topi (fun v7 e7 => ?_)
      obtain rfl : v7 = nI (a1 + q42) := e7.trans (nI_add _ _)
      obtain ⟨g8, hF8⟩ := wt_L hWl2 (S_L ha6)
      refine r_lald S hK hPl2 a6 (lt_L (S_L ha6)) hF8 (vp_in_nI (show a1 + q42 < 160 by omega) (by omega)) dX4_moveAll_17 ?_
      refine lv_topl (fun v10 e10 => ?_)
      refine lv_lstore (lv' := [(5, .long v10), (4, .int (nI q42)), (0, .ref (ad 30)), (1, .int (nI a1)), (2, .int (nI b2)), (3, .int p3)]) S.1 S.2.1 dX4_moveAll_18 hl2 (by decide) rfl (fun ls11 hl11 => ?_)
      refine lv_iload_n S.1 S.2.1 dX4_moveAll_20 rfl (lv_at hl11 5 rfl) ?_
      refine lv_iconst (v := (-1)) S.1 S.2.1 dX4_moveAll_21 (by decide +kernel) ?_
      refine lv_icmp_ne (tgt := 42) S.1 S.2.1 dX4_moveAll_22 (by decide) (fun c12 => ?_) (fun c12 => ?_)
      · skip
        have k13 := ci_ne rfl (show ((-1) : Int32).toInt = -1 by decide +kernel) c12
        refine lv_iload_n S.1 S.2.1 dX4_moveAll_42 rfl (lv_at hl11 5 rfl) ?_
        refine lv_bipush (v := (nI 6)) S.1 S.2.1 dX4_moveAll_43 (by decide +kernel) ?_
        refine lv_icmp_ge (tgt := 85) S.1 S.2.1 dX4_moveAll_45 (by decide) (fun c14 => ?_) (fun c14 => ?_)
        · skip
          have k15 := ci_le (nI_toInt (n := 6) (by decide)) rfl c14
          refine lv_aload_n S.1 S.2.1 dX4_moveAll_85 rfl (lv_at hl11 2 rfl) ?_
          refine r_get S hK hPl2 30 (by decide) hF6 (C := RX4) (T := TX4) (N := 2) hiX4 rfl 1 (by decide) (am_at in_wsX4_moveAll_0 1 rfl) (v := .ref (ad b6)) rfl dX4_moveAll_86 ?_
          refine lv_iload_n S.1 S.2.1 dX4_moveAll_89 rfl (lv_at hl11 4 rfl) ?_
          refine lv_iload S.1 S.2.1 dX4_moveAll_90 (lv_at hl11 1 rfl) ?_
          refine lv_iconst (v := (nI 1)) S.1 S.2.1 dX4_moveAll_92 (by decide +kernel) ?_
          refine lv_iload_n S.1 S.2.1 dX4_moveAll_93 rfl (lv_at hl11 5 rfl) ?_
          refine lv_bipush (v := (nI 6)) S.1 S.2.1 dX4_moveAll_94 (by decide +kernel) ?_
          refine lv_isub S.1 S.2.1 dX4_moveAll_96 ?_
          refine lv_topi (fun v16 e16 => ?_)
          refine lv_ishl S.1 S.2.1 dX4_moveAll_97 ?_
          refine lv_topi (fun v17 e17 => ?_)
          refine lv_ior S.1 S.2.1 dX4_moveAll_98 ?_
          refine lv_topi (fun v18 e18 => ?_)
          obtain ⟨w19, hw19, ew19⟩ := or_w (w := q42) (q := p3) (by omega) (by omega) (by omega)
          obtain rfl : v18 = nI w19 := by rw [e18, e17, e16]; exact ew19
          refine lv_iadd S.1 S.2.1 dX4_moveAll_99 ?_
          refine lv_topi (fun v20 e20 => ?_)
          obtain rfl : v20 = nI (b2 + w19) := e20.trans (nI_add _ _)
          refine lv_dup2_11 S.1 S.2.1 dX4_moveAll_100 rfl rfl ?_
          obtain ⟨g21, hF21⟩ := wt_L hWl2 (S_L hb6)
          refine r_lald S hK hPl2 b6 (lt_L (S_L hb6)) hF21 (vp_in_nI (show b2 + w19 < 160 by omega) (by omega)) dX4_moveAll_101 ?_
          refine lv_topl (fun v23 e23 => ?_)
          refine lv_lload S.1 S.2.1 dX4_moveAll_102 (lv_at hl11 0 rfl) ?_
          refine lv_lor S.1 S.2.1 dX4_moveAll_104 ?_
          refine lv_topl (fun v24 e24 => ?_)
          refine r_last S hI hK hPl2 hSl2 b6 (lt_L (S_L hb6)) hF21 (vp_in_nI (show b2 + w19 < 160 by omega) (by omega)) dX4_moveAll_105 (fun F25 H25 locs25 eF25 hP25 hS25 => ?_)
          have hW25 := hWl2.up eF25 (ok_L (S_L hb6) ⟨_, rfl⟩)
          have hFr25 := hFl2.up eF25 (by simp <;> first | omega | (simp only [isC, isJ] at *; omega))
          refine lv_iinc (v := (nI (q42 + 1))) (lv' := [(4, .int (nI (q42 + 1))), (5, .long v10), (0, .ref (ad 30)), (1, .int (nI a1)), (2, .int (nI b2)), (3, .int p3)]) S.1 S.2.1 dX4_moveAll_106 hl11 (k := 1) rfl (nI_add _ 1) (by decide) rfl (fun ls26 hl26 => ?_)
          refine lv_goto (tgt := 3) S.1 S.2.1 dX4_moveAll_109 (by decide) ?_
          exact ih2 (q42 + 1) F25 H25 locs25 (by omega) (by omega) hW25 hFr25 hP25 hS25 ls26 (lv_sub hl26 [0, 2, 3, 4, 5] rfl)
        have k27 := ci_nle (nI_toInt (n := 6) (by decide)) rfl c14
        refine lv_lload S.1 S.2.1 dX4_moveAll_48 (lv_at hl11 0 rfl) ?_
        refine va_gets S.1 S.2.1 hZ.1 hSl2 S.2.2.2.1 (S.2.2.2.2 (.fieldLink RX4 73 "JourneyRoads$SealSearch" "WITHOUT" "[J") (am_at in_wsX4_moveAll_0 2 rfl)) (fun _ h => h) dX4_moveAll_50 ?_
        refine lv_iload_n S.1 S.2.1 dX4_moveAll_53 rfl (lv_at hl11 5 rfl) ?_
        obtain ⟨wf28, hT28⟩ := hZ.2.1
        refine va_tl S.1 S.2.1 hT28 hSl2 (in_of (n := 6) (a := p3.toInt) rfl (by omega) (by omega)) rfl dX4_moveAll_54 ?_
        refine lv_topl (fun v29 e29 => ?_)
        refine lv_land S.1 S.2.1 dX4_moveAll_55 ?_
        refine lv_topl (fun v30 e30 => ?_)
        refine lv_lstore (lv' := [(7, .long v30), (5, .long v10), (4, .int (nI q42)), (0, .ref (ad 30)), (1, .int (nI a1)), (2, .int (nI b2)), (3, .int p3)]) S.1 S.2.1 dX4_moveAll_56 hl11 (by decide) rfl (fun ls31 hl31 => ?_)
        refine lv_aload_n S.1 S.2.1 dX4_moveAll_58 rfl (lv_at hl31 3 rfl) ?_
        refine r_get S hK hPl2 30 (by decide) hF6 (C := RX4) (T := TX4) (N := 2) hiX4 rfl 1 (by decide) (am_at in_wsX4_moveAll_0 1 rfl) (v := .ref (ad b6)) rfl dX4_moveAll_59 ?_
        refine lv_iload_n S.1 S.2.1 dX4_moveAll_62 rfl (lv_at hl31 5 rfl) ?_
        refine lv_iload S.1 S.2.1 dX4_moveAll_63 (lv_at hl31 2 rfl) ?_
        refine lv_iadd S.1 S.2.1 dX4_moveAll_65 ?_
        refine lv_topi (fun v32 e32 => ?_)
        obtain rfl : v32 = nI (b2 + q42) := e32.trans (nI_add _ _)
        refine lv_dup2_11 S.1 S.2.1 dX4_moveAll_66 rfl rfl ?_
        obtain ⟨g33, hF33⟩ := wt_L hWl2 (S_L hb6)
        refine r_lald S hK hPl2 b6 (lt_L (S_L hb6)) hF33 (vp_in_nI (show b2 + q42 < 160 by omega) (by omega)) dX4_moveAll_67 ?_
        refine lv_topl (fun v35 e35 => ?_)
        refine lv_lload S.1 S.2.1 dX4_moveAll_68 (lv_at hl31 1 rfl) ?_
        refine lv_lload S.1 S.2.1 dX4_moveAll_70 (lv_at hl31 0 rfl) ?_
        refine lv_lxor S.1 S.2.1 dX4_moveAll_72 ?_
        refine lv_topl (fun v36 e36 => ?_)
        refine lv_lload S.1 S.2.1 dX4_moveAll_73 (lv_at hl31 0 rfl) ?_
        refine lv_iconst (v := (nI 1)) S.1 S.2.1 dX4_moveAll_75 (by decide +kernel) ?_
        refine lv_iload_n S.1 S.2.1 dX4_moveAll_76 rfl (lv_at hl31 6 rfl) ?_
        refine lv_ishl S.1 S.2.1 dX4_moveAll_77 ?_
        refine lv_topi (fun v37 e37 => ?_)
        refine lv_lshl S.1 S.2.1 dX4_moveAll_78 rfl ?_
        refine lv_topl (fun v38 e38 => ?_)
        refine lv_lor S.1 S.2.1 dX4_moveAll_79 ?_
        refine lv_topl (fun v39 e39 => ?_)
        refine lv_lor S.1 S.2.1 dX4_moveAll_80 ?_
        refine lv_topl (fun v40 e40 => ?_)
        refine r_last S hI hK hPl2 hSl2 b6 (lt_L (S_L hb6)) hF33 (vp_in_nI (show b2 + q42 < 160 by omega) (by omega)) dX4_moveAll_81 (fun F41 H41 locs41 eF41 hP41 hS41 => ?_)
        have hW41 := hWl2.up eF41 (ok_L (S_L hb6) ⟨_, rfl⟩)
        have hFr41 := hFl2.up eF41 (by simp <;> first | omega | (simp only [isC, isJ] at *; omega))
        refine lv_goto (tgt := 106) S.1 S.2.1 dX4_moveAll_82 (by decide) ?_
        refine lv_iinc (v := (nI (q42 + 1))) (lv' := [(4, .int (nI (q42 + 1))), (7, .long v30), (5, .long v10), (0, .ref (ad 30)), (1, .int (nI a1)), (2, .int (nI b2)), (3, .int p3)]) S.1 S.2.1 dX4_moveAll_106 hl31 (k := 2) rfl (nI_add _ 1) (by decide) rfl (fun ls42 hl42 => ?_)
        refine lv_goto (tgt := 3) S.1 S.2.1 dX4_moveAll_109 (by decide) ?_
        exact ih2 (q42 + 1) F41 H41 locs41 (by omega) (by omega) hW41 hFr41 hP41 hS41 ls42 (lv_sub hl42 [0, 3, 4, 5, 6] rfl)
      have k43 := ci_eq rfl (show ((-1) : Int32).toInt = -1 by decide +kernel) c12
      refine lv_aload_n S.1 S.2.1 dX4_moveAll_25 rfl (lv_at hl11 2 rfl) ?_
      refine r_get S hK hPl2 30 (by decide) hF6 (C := RX4) (T := TX4) (N := 2) hiX4 rfl 1 (by decide) (am_at in_wsX4_moveAll_0 1 rfl) (v := .ref (ad b6)) rfl dX4_moveAll_26 ?_
      refine lv_iload_n S.1 S.2.1 dX4_moveAll_29 rfl (lv_at hl11 4 rfl) ?_
      refine lv_iload S.1 S.2.1 dX4_moveAll_30 (lv_at hl11 1 rfl) ?_
      refine lv_iadd S.1 S.2.1 dX4_moveAll_32 ?_
      refine lv_topi (fun v44 e44 => ?_)
      obtain rfl : v44 = nI (b2 + q42) := e44.trans (nI_add _ _)
      refine lv_dup2_11 S.1 S.2.1 dX4_moveAll_33 rfl rfl ?_
      obtain ⟨g45, hF45⟩ := wt_L hWl2 (S_L hb6)
      refine r_lald S hK hPl2 b6 (lt_L (S_L hb6)) hF45 (vp_in_nI (show b2 + q42 < 160 by omega) (by omega)) dX4_moveAll_34 ?_
      refine lv_topl (fun v47 e47 => ?_)
      refine lv_lload S.1 S.2.1 dX4_moveAll_35 (lv_at hl11 0 rfl) ?_
      refine lv_lor S.1 S.2.1 dX4_moveAll_37 ?_
      refine lv_topl (fun v48 e48 => ?_)
      refine r_last S hI hK hPl2 hSl2 b6 (lt_L (S_L hb6)) hF45 (vp_in_nI (show b2 + q42 < 160 by omega) (by omega)) dX4_moveAll_38 (fun F49 H49 locs49 eF49 hP49 hS49 => ?_)
      have hW49 := hWl2.up eF49 (ok_L (S_L hb6) ⟨_, rfl⟩)
      have hFr49 := hFl2.up eF49 (by simp <;> first | omega | (simp only [isC, isJ] at *; omega))
      refine lv_goto (tgt := 106) S.1 S.2.1 dX4_moveAll_39 (by decide) ?_
      refine lv_iinc (v := (nI (q42 + 1))) (lv' := [(4, .int (nI (q42 + 1))), (5, .long v10), (0, .ref (ad 30)), (1, .int (nI a1)), (2, .int (nI b2)), (3, .int p3)]) S.1 S.2.1 dX4_moveAll_106 hl11 (k := 1) rfl (nI_add _ 1) (by decide) rfl (fun ls50 hl50 => ?_)
      refine lv_goto (tgt := 3) S.1 S.2.1 dX4_moveAll_109 (by decide) ?_
      exact ih2 (q42 + 1) F49 H49 locs49 (by omega) (by omega) hW49 hFr49 hP49 hS49 ls50 (lv_sub hl50 [0, 2, 3, 4, 5] rfl)
  exact lp2 (4 - (0) + 1) (0) F s.heap [] (by omega) (by omega) hW hFr hP hS ls1 (lv_sub hl1 [0, 1, 2, 3, 4] rfl)
set_option maxHeartbeats 4000000 in
set_option maxRecDepth 100000 in
theorem c_X4_walkAll (l : Launch) (D : va_G) (cA ad : Nat → Nat) (t : Nat) (hI : rI ad) (F : Nat → va_E) (hW : WT cA ad F) (rc : Nat) (hrc : isC rc) (a2 : Nat) (ha2 : a2 ≤ 156) (p3 : Int32) : MV l D cA ad t yX4_walkAll wsX4_walkAll { frames := 1, cells := 0, slots := 0, locals := 28 } [.ref (ad 30), .ref (ad rc), .int (nI a2), .int p3] F (fun F' => WT cA ad F' ∧ rFr [30, 31, 32] F F' ∧ (True)) := by
  refine en_V rfl (by decide +kernel) (Nat.le_of_ble_eq_true rfl) ?_
  intro p e s m args below meth c ls0 Q S hK hZ hP hS hl0 hret
  have hl0 : lv_has ls0 5 [(0, .ref (ad 30)), (1, .ref (ad rc)), (2, .int (nI a2)), (3, .int p3)] := hl0
  have hFr : rFr [30, 31, 32] F F := rFr.rf
  have hiX0 : ∀ w ∈ u_ws RX0 TX0 10, w ∈ wsX4_walkAll := in_wsX4_walkAll_1
  refine lv_iconst (v := (nI 0)) S.1 S.2.1 dX4_walkAll_0 (by decide +kernel) ?_
  refine lv_istore (lv' := [(4, .int (nI 0)), (0, .ref (ad 30)), (1, .ref (ad rc)), (2, .int (nI a2)), (3, .int p3)]) S.1 S.2.1 dX4_walkAll_1 hl0 (by decide) rfl (fun ls1 hl1 => ?_)
  have lp2 : ∀ (n2 : Nat) (q42 : Nat), ∀ (Fl2 : Nat → va_E) (Hl2 : Heap) (lol2 : List Loc), q42 ≤ 8 → 8 - q42 < n2 → WT cA ad Fl2 → rFr [30, 31, 32] F Fl2 → va_P D vwCl (rW ad Fl2) Hl2 → va_S (rA ad) s.heap Hl2 lol2 → ∀ (ls : Array Slot), lv_has ls 5 [(4, .int (nI q42)), (0, .ref (ad 30)), (1, .ref (ad rc)), (2, .int (nI a2)), (3, .int p3)] → W p l e { frames := 1, cells := 0, slots := 0, locals := 28 } s m args below meth c Hl2 lol2 0 0 Q (F0 m 3 ls []) := by
    intro n2
    induction n2 with
    | zero =>
      intro q42 Fl2 Hl2 lol2 iv2_0 hm2 hWl2 hFl2 hPl2 hSl2 ls2 hl2
      exact absurd hm2 (Nat.not_lt_zero _)
    | succ n2 ih2 =>
      intro q42 Fl2 Hl2 lol2 iv2_0 hm2 hWl2 hFl2 hPl2 hSl2 ls2 hl2
      refine lv_iload S.1 S.2.1 dX4_walkAll_3 (lv_at hl2 0 rfl) ?_
      refine lv_aload_n S.1 S.2.1 dX4_walkAll_5 rfl (lv_at hl2 2 rfl) ?_
      obtain ⟨sl3, fm3, tn3, rn3, bn3, hF3, hb3_1, hb3_2, hb3_3⟩ := wt_C hWl2 hrc
      refine r_get S hK hPl2 rc (lt_C hrc) hF3 (C := RX0) (T := TX0) (N := 10) hiX0 rfl 2 (by decide) (am_at in_wsX4_walkAll_0 0 rfl) (v := .int (nI tn3)) rfl dX4_walkAll_6 ?_
      refine lv_icmp_ge (tgt := 39) S.1 S.2.1 dX4_walkAll_9 (by decide) (fun c4 => ?_) (fun c4 => ?_)
      · skip
        have k5 := ci_le (nI_toInt (n := tn3) (by omega)) (nI_toInt (n := q42) (by omega)) c4
        exact hret 39 _ _ _ _ dX4_walkAll_39 hPl2 hSl2 ⟨hWl2, hFl2, trivial⟩
      have k6 := ci_nle (nI_toInt (n := tn3) (by omega)) (nI_toInt (n := q42) (by omega)) c4
      refine lv_iload_n S.1 S.2.1 dX4_walkAll_12 rfl (lv_at hl2 4 rfl) ?_
      refine lv_iload S.1 S.2.1 dX4_walkAll_13 (lv_at hl2 0 rfl) ?_
      refine lv_ishr S.1 S.2.1 dX4_walkAll_15 ?_
      refine lv_topi (fun v7 e7 => ?_)
      refine lv_iconst (v := (nI 1)) S.1 S.2.1 dX4_walkAll_16 (by decide +kernel) ?_
      refine lv_iand S.1 S.2.1 dX4_walkAll_17 ?_
      refine lv_topi (fun v8 e8 => ?_)
      refine lv_if_eq (tgt := 33) S.1 S.2.1 dX4_walkAll_18 (by decide) (fun c9 => ?_) (fun c9 => ?_)
      · skip
        have k10 := ci_eq rfl z_ti c9
        refine lv_iinc (v := (nI (q42 + 1))) (lv' := [(4, .int (nI (q42 + 1))), (0, .ref (ad 30)), (1, .ref (ad rc)), (2, .int (nI a2)), (3, .int p3)]) S.1 S.2.1 dX4_walkAll_33 hl2 (k := 0) rfl (nI_add _ 1) (by decide) rfl (fun ls11 hl11 => ?_)
        refine lv_goto (tgt := 3) S.1 S.2.1 dX4_walkAll_36 (by decide) ?_
        exact ih2 (q42 + 1) Fl2 Hl2 lol2 (by omega) (by omega) hWl2 hFl2 hPl2 hSl2 ls11 (lv_sub hl11 [0, 1, 2, 3, 4] rfl)
      have k12 := ci_ne rfl z_ti c9
      refine lv_aload_n S.1 S.2.1 dX4_walkAll_21 rfl (lv_at hl2 1 rfl) ?_
      refine lv_iload_n S.1 S.2.1 dX4_walkAll_22 rfl (lv_at hl2 3 rfl) ?_
      refine lv_iload S.1 S.2.1 dX4_walkAll_23 (lv_at hl2 0 rfl) ?_
      refine lv_iconst (v := (nI 0)) S.1 S.2.1 dX4_walkAll_25 (by decide +kernel) ?_
      refine r_cSp (As := [.int (nI q42), .int (nI 0)]) (rest := [.int (nI a2), .ref (ad 30)]) S hK hZ hPl2 hSl2 hl2.1 (c_X4_cell l D cA ad t hI Fl2 hWl2 (nI q42) (nI 0)) (va_cwS 2 S.2.2.2.2 gX4_walkAll_X4_cell rfl rfl rfl (by decide +kernel) ⟨Nat.le_of_ble_eq_true rfl, Nat.le_of_ble_eq_true rfl⟩) rfl rfl (Nat.le_of_ble_eq_true rfl) ⟨Nat.zero_le _, Nat.zero_le _⟩ dX4_walkAll_26 (fun r13 hr13 => ?_)
      obtain ⟨hr13, hm13⟩ := hr13
      obtain rfl : r13 = nI ((q42 * 5 + 0) * 4) := hr13.trans (by rw [pk_mul, nI_add, pk_mul])
      refine lv_iconst (v := (-1)) S.1 S.2.1 dX4_walkAll_29 (by decide +kernel) ?_
      obtain ⟨a15, b15, hF15, ha15, hb15⟩ := wt_search hWl2
      refine r_cVv (As := [.int (nI a2), .int (nI ((q42 * 5 + 0) * 4)), .int (-1)]) (rest := []) S hK hZ hPl2 hSl2 hl2.1 30 (by decide) hF15 (C := RX4) rfl (c_X4_moveAll l D cA ad t hI Fl2 hWl2 (a2) (by omega) ((q42 * 5 + 0) * 4) (by omega) (-1) (by decide +kernel)) (cwV 3 S.2.2.2.2 gX4_walkAll_X4_moveAll rfl rfl rfl (by decide +kernel) ⟨Nat.le_of_ble_eq_true rfl, Nat.le_of_ble_eq_true rfl⟩) rfl rfl (Nat.le_of_ble_eq_true rfl) ⟨Nat.zero_le _, Nat.zero_le _⟩ dX4_walkAll_30 (fun F14 H14 locs14 hr14 hP14 hS14 => ?_)
      obtain ⟨hW14, hFc14, hr14⟩ := hr14
      have hFr14 := hFl2.tr hFc14 (by simp <;> first | omega | (simp only [isC, isJ] at *; omega))
      refine lv_iinc (v := (nI (q42 + 1))) (lv' := [(4, .int (nI (q42 + 1))), (0, .ref (ad 30)), (1, .ref (ad rc)), (2, .int (nI a2)), (3, .int p3)]) S.1 S.2.1 dX4_walkAll_33 hl2 (k := 0) rfl (nI_add _ 1) (by decide) rfl (fun ls16 hl16 => ?_)
      refine lv_goto (tgt := 3) S.1 S.2.1 dX4_walkAll_36 (by decide) ?_
      exact ih2 (q42 + 1) F14 H14 locs14 (by omega) (by omega) hW14 hFr14 hP14 hS14 ls16 (lv_sub hl16 [0, 1, 2, 3, 4] rfl)
  exact lp2 (8 - (0) + 1) (0) F s.heap [] (by omega) (by omega) hW hFr hP hS ls1 (lv_sub hl1 [0, 1, 2, 3, 4] rfl)
set_option maxHeartbeats 4000000 in
set_option maxRecDepth 100000 in
theorem c_X4_spendMonth (l : Launch) (D : va_G) (cA ad : Nat → Nat) (t : Nat) (hI : rI ad) (F : Nat → va_E) (hW : WT cA ad F) (rc : Nat) (hrc : isC rc) (ra : Nat) (hra : (ra, 8) ∈ rLI) (hura : ra ∉ [60, 61, 62, 63, 64, 66]) (p3 : Int32) (s4 : Nat) (hs4 : s4 ≤ 255) : MV l D cA ad t yX4_spendMonth wsX4_spendMonth { frames := 2, cells := 0, slots := 0, locals := 52 } [.ref (ad 30), .ref (ad rc), .ref (ad ra), .int p3, .int (nI s4)] F (fun F' => WT cA ad F' ∧ rFr [30, 31, 32] F F' ∧ (True)) := by
  refine en_V rfl (by decide +kernel) (Nat.le_of_ble_eq_true rfl) ?_
  intro p e s m args below meth c ls0 Q S hK hZ hP hS hl0 hret
  have hl0 : lv_has ls0 8 [(0, .ref (ad 30)), (1, .ref (ad rc)), (2, .ref (ad ra)), (3, .int p3), (4, .int (nI s4))] := hl0
  have hFr : rFr [30, 31, 32] F F := rFr.rf
  have hiX0 : ∀ w ∈ u_ws RX0 TX0 10, w ∈ wsX4_spendMonth := in_wsX4_spendMonth_3
  have hiX4 : ∀ w ∈ u_ws RX4 TX4 2, w ∈ wsX4_spendMonth := in_wsX4_spendMonth_2
  refine lv_aload_n S.1 S.2.1 dX4_spendMonth_0 rfl (lv_at hl0 0 rfl) ?_
  obtain ⟨a1, b1, hF1, ha1, hb1⟩ := wt_search hW
  refine r_get S hK hP 30 (by decide) hF1 (C := RX4) (T := TX4) (N := 2) hiX4 rfl 1 (by decide) (am_at in_wsX4_spendMonth_0 0 rfl) (v := .ref (ad b1)) rfl dX4_spendMonth_1 ?_
  refine r_cSv (As := [.ref (ad b1)]) (rest := []) S hK hZ hP hS hl0.1 (c_X4_clear l D cA ad t hI F hW b1 (S_L hb1)) (va_cwS 1 S.2.2.2.2 gX4_spendMonth_X4_clear rfl rfl rfl (by decide +kernel) ⟨Nat.le_of_ble_eq_true rfl, Nat.le_of_ble_eq_true rfl⟩) rfl rfl (Nat.le_of_ble_eq_true rfl) ⟨Nat.zero_le _, Nat.zero_le _⟩ dX4_spendMonth_4 (fun F2 H2 locs2 hr2 hP2 hS2 => ?_)
  obtain ⟨hW2, hFc2, hr2⟩ := hr2
  have hFr2 := hFr.tr hFc2 (by simp <;> first | omega | (simp only [isC, isJ] at *; omega))
  refine lv_iconst (v := (nI 0)) S.1 S.2.1 dX4_spendMonth_7 (by decide +kernel) ?_
  refine lv_istore (lv' := [(5, .int (nI 0)), (0, .ref (ad 30)), (1, .ref (ad rc)), (2, .ref (ad ra)), (3, .int p3), (4, .int (nI s4))]) S.1 S.2.1 dX4_spendMonth_8 hl0 (by decide) rfl (fun ls3 hl3 => ?_)
  have lp4 : ∀ (n4 : Nat) (q54 : Nat), ∀ (Fl4 : Nat → va_E) (Hl4 : Heap) (lol4 : List Loc), q54 ≤ 8 → 8 - q54 < n4 → WT cA ad Fl4 → rFr [30, 31, 32] F Fl4 → va_P D vwCl (rW ad Fl4) Hl4 → va_S (rA ad) s.heap Hl4 lol4 → ∀ (ls : Array Slot), lv_has ls 8 [(5, .int (nI q54)), (0, .ref (ad 30)), (1, .ref (ad rc)), (2, .ref (ad ra)), (3, .int p3), (4, .int (nI s4))] → W p l e { frames := 2, cells := 0, slots := 0, locals := 52 } s m args below meth c Hl4 lol4 0 0 Q (F0 m 10 ls []) := by
    intro n4
    induction n4 with
    | zero =>
      intro q54 Fl4 Hl4 lol4 iv4_0 hm4 hWl4 hFl4 hPl4 hSl4 ls4 hl4
      exact absurd hm4 (Nat.not_lt_zero _)
    | succ n4 ih4 =>
      intro q54 Fl4 Hl4 lol4 iv4_0 hm4 hWl4 hFl4 hPl4 hSl4 ls4 hl4
      refine lv_iload S.1 S.2.1 dX4_spendMonth_10 (lv_at hl4 0 rfl) ?_
      refine lv_aload_n S.1 S.2.1 dX4_spendMonth_12 rfl (lv_at hl4 2 rfl) ?_
      obtain ⟨sl5, fm5, tn5, rn5, bn5, hF5, hb5_1, hb5_2, hb5_3⟩ := wt_C hWl4 hrc
      refine r_get S hK hPl4 rc (lt_C hrc) hF5 (C := RX0) (T := TX0) (N := 10) hiX0 rfl 2 (by decide) (am_at in_wsX4_spendMonth_0 1 rfl) (v := .int (nI tn5)) rfl dX4_spendMonth_13 ?_
      refine lv_icmp_ge (tgt := 143) S.1 S.2.1 dX4_spendMonth_16 (by decide) (fun c6 => ?_) (fun c6 => ?_)
      · skip
        have k7 := ci_le (nI_toInt (n := tn5) (by omega)) (nI_toInt (n := q54) (by omega)) c6
        refine lv_aload_n S.1 S.2.1 dX4_spendMonth_143 rfl (lv_at hl4 1 rfl) ?_
        obtain ⟨a8, b8, hF8, ha8, hb8⟩ := wt_search hWl4
        refine r_get S hK hPl4 30 (by decide) hF8 (C := RX4) (T := TX4) (N := 2) hiX4 rfl 0 (by decide) (am_at in_wsX4_spendMonth_0 3 rfl) (v := .ref (ad a8)) rfl dX4_spendMonth_144 ?_
        refine lv_astore (lv' := [(5, .ref (ad a8)), (0, .ref (ad 30)), (1, .ref (ad rc)), (2, .ref (ad ra)), (3, .int p3), (4, .int (nI s4))]) S.1 S.2.1 dX4_spendMonth_147 hl4 (by decide) rfl (fun ls9 hl9 => ?_)
        refine lv_aload_n S.1 S.2.1 dX4_spendMonth_149 rfl (lv_at hl9 1 rfl) ?_
        refine lv_aload_n S.1 S.2.1 dX4_spendMonth_150 rfl (lv_at hl9 1 rfl) ?_
        refine r_get S hK hPl4 30 (by decide) hF8 (C := RX4) (T := TX4) (N := 2) hiX4 rfl 1 (by decide) (am_at in_wsX4_spendMonth_0 0 rfl) (v := .ref (ad b8)) rfl dX4_spendMonth_151 ?_
        refine r_put S hI hK hPl4 hSl4 30 (by decide) hF8 (C := RX4) (T := TX4) (N := 2) hiX4 tyX4_ok nmX4 rfl 0 (by decide) (am_at in_wsX4_spendMonth_0 3 rfl) rfl rfl rfl (Nat.le_of_ble_eq_true rfl) dX4_spendMonth_154 (fun F10 H10 locs10 eF10 hP10 hS10 => ?_)
        have hF10 : F10 30 = .inr (4, [.ref (ad b8), .ref (ad b8)]) := by rw [eF10]; exact va_up_self _ _ _
        have hW10 := hWl4.up eF10 (ok_search ⟨b8, b8, rfl, hb8, hb8⟩)
        have hFr10 := hFl4.up eF10 (by simp <;> first | omega | (simp only [isC, isJ] at *; omega))
        refine lv_aload_n S.1 S.2.1 dX4_spendMonth_157 rfl (lv_at hl9 1 rfl) ?_
        refine lv_aload S.1 S.2.1 dX4_spendMonth_158 (lv_at hl9 0 rfl) ?_
        refine r_put S hI hK hP10 hS10 30 (by decide) hF10 (C := RX4) (T := TX4) (N := 2) hiX4 tyX4_ok nmX4 rfl 1 (by decide) (am_at in_wsX4_spendMonth_0 0 rfl) rfl rfl rfl (Nat.le_of_ble_eq_true rfl) dX4_spendMonth_160 (fun F11 H11 locs11 eF11 hP11 hS11 => ?_)
        have hF11 : F11 30 = .inr (4, [.ref (ad b8), .ref (ad a8)]) := by rw [eF11]; exact va_up_self _ _ _
        have hW11 := hW10.up eF11 (ok_search ⟨b8, a8, rfl, hb8, ha8⟩)
        have hFr11 := hFr10.up eF11 (by simp <;> first | omega | (simp only [isC, isJ] at *; omega))
        exact hret 163 _ _ _ _ dX4_spendMonth_163 hP11 hS11 ⟨hW11, hFr11, trivial⟩
      have k12 := ci_nle (nI_toInt (n := tn5) (by omega)) (nI_toInt (n := q54) (by omega)) c6
      refine lv_iload S.1 S.2.1 dX4_spendMonth_19 (lv_at hl4 5 rfl) ?_
      refine lv_iload S.1 S.2.1 dX4_spendMonth_21 (lv_at hl4 0 rfl) ?_
      refine lv_ishr S.1 S.2.1 dX4_spendMonth_23 ?_
      refine lv_topi (fun v13 e13 => ?_)
      refine lv_iconst (v := (nI 1)) S.1 S.2.1 dX4_spendMonth_24 (by decide +kernel) ?_
      refine lv_iand S.1 S.2.1 dX4_spendMonth_25 ?_
      refine lv_topi (fun v14 e14 => ?_)
      refine lv_if_eq (tgt := 43) S.1 S.2.1 dX4_spendMonth_26 (by decide) (fun c15 => ?_) (fun c15 => ?_)
      · skip
        have k16 := ci_eq rfl z_ti c15
        refine lv_iconst (v := (nI 0)) S.1 S.2.1 dX4_spendMonth_43 (by decide +kernel) ?_
        refine lv_istore (lv' := [(6, .int (nI 0)), (5, .int (nI q54)), (0, .ref (ad 30)), (1, .ref (ad rc)), (2, .ref (ad ra)), (3, .int p3), (4, .int (nI s4))]) S.1 S.2.1 dX4_spendMonth_44 hl4 (by decide) rfl (fun ls17 hl17 => ?_)
        refine lv_iconst (v := (nI 0)) S.1 S.2.1 dX4_spendMonth_46 (by decide +kernel) ?_
        refine lv_istore (lv' := [(7, .int (nI 0)), (6, .int (nI 0)), (5, .int (nI q54)), (0, .ref (ad 30)), (1, .ref (ad rc)), (2, .ref (ad ra)), (3, .int p3), (4, .int (nI s4))]) S.1 S.2.1 dX4_spendMonth_47 hl17 (by decide) rfl (fun ls18 hl18 => ?_)
        have lp19 : ∀ (n19 : Nat) (q719 : Nat), ∀ (Fl19 : Nat → va_E) (Hl19 : Heap) (lol19 : List Loc), q719 ≤ 5 → 5 - q719 < n19 → WT cA ad Fl19 → rFr [30, 31, 32] F Fl19 → va_P D vwCl (rW ad Fl19) Hl19 → va_S (rA ad) s.heap Hl19 lol19 → ∀ (ls : Array Slot), lv_has ls 8 [(7, .int (nI q719)), (6, .int (nI 0)), (5, .int (nI q54)), (0, .ref (ad 30)), (1, .ref (ad rc)), (2, .ref (ad ra)), (3, .int p3), (4, .int (nI s4))] → W p l e { frames := 2, cells := 0, slots := 0, locals := 52 } s m args below meth c Hl19 lol19 0 0 Q (F0 m 49 ls []) := by
          intro n19
          induction n19 with
          | zero =>
            intro q719 Fl19 Hl19 lol19 iv19_0 hm19 hWl19 hFl19 hPl19 hSl19 ls19 hl19
            exact absurd hm19 (Nat.not_lt_zero _)
          | succ n19 ih19 =>
            intro q719 Fl19 Hl19 lol19 iv19_0 hm19 hWl19 hFl19 hPl19 hSl19 ls19 hl19
            refine lv_iload S.1 S.2.1 dX4_spendMonth_49 (lv_at hl19 0 rfl) ?_
            refine lv_aload_n S.1 S.2.1 dX4_spendMonth_51 rfl (lv_at hl19 4 rfl) ?_
            obtain ⟨sl20, fm20, tn20, rn20, bn20, hF20, hb20_1, hb20_2, hb20_3⟩ := wt_C hWl19 hrc
            refine r_get S hK hPl19 rc (lt_C hrc) hF20 (C := RX0) (T := TX0) (N := 10) hiX0 rfl 0 (by decide) (am_at in_wsX4_spendMonth_0 2 rfl) (v := .int (nI sl20)) rfl dX4_spendMonth_52 ?_
            refine lv_icmp_gt (tgt := 137) S.1 S.2.1 dX4_spendMonth_55 (by decide) (fun c21 => ?_) (fun c21 => ?_)
            · skip
              have k22 := ci_lt (nI_toInt (n := sl20) (by omega)) (nI_toInt (n := q719) (by omega)) c21
              refine lv_iinc (v := (nI (q54 + 1))) (lv' := [(5, .int (nI (q54 + 1))), (7, .int (nI q719)), (6, .int (nI 0)), (0, .ref (ad 30)), (1, .ref (ad rc)), (2, .ref (ad ra)), (3, .int p3), (4, .int (nI s4))]) S.1 S.2.1 dX4_spendMonth_137 hl19 (k := 2) rfl (nI_add _ 1) (by decide) rfl (fun ls23 hl23 => ?_)
              refine lv_goto (tgt := 10) S.1 S.2.1 dX4_spendMonth_140 (by decide) ?_
              exact ih4 (q54 + 1) Fl19 Hl19 lol19 (by omega) (by omega) hWl19 hFl19 hPl19 hSl19 ls23 (lv_sub hl23 [0, 3, 4, 5, 6, 7] rfl)
            have k24 := ci_nlt (nI_toInt (n := sl20) (by omega)) (nI_toInt (n := q719) (by omega)) c21
            refine lv_aload_n S.1 S.2.1 dX4_spendMonth_58 rfl (lv_at hl19 3 rfl) ?_
            refine lv_iload S.1 S.2.1 dX4_spendMonth_59 (lv_at hl19 2 rfl) ?_
            refine lv_iload S.1 S.2.1 dX4_spendMonth_61 (lv_at hl19 0 rfl) ?_
            refine r_cSp (As := [.int (nI q54), .int (nI q719)]) (rest := [.ref (ad 30)]) S hK hZ hPl19 hSl19 hl19.1 (c_X4_cell l D cA ad t hI Fl19 hWl19 (nI q54) (nI q719)) (va_cwS 2 S.2.2.2.2 gX4_spendMonth_X4_cell rfl rfl rfl (by decide +kernel) ⟨Nat.le_of_ble_eq_true rfl, Nat.le_of_ble_eq_true rfl⟩) rfl rfl (Nat.le_of_ble_eq_true rfl) ⟨Nat.zero_le _, Nat.zero_le _⟩ dX4_spendMonth_63 (fun r25 hr25 => ?_)
            obtain ⟨hr25, hm25⟩ := hr25
            obtain rfl : r25 = nI ((q54 * 5 + q719) * 4) := hr25.trans (by rw [pk_mul, nI_add, pk_mul])
            obtain ⟨a27, b27, hF27, ha27, hb27⟩ := wt_search hWl19
            refine r_cVp (As := [.int (nI ((q54 * 5 + q719) * 4))]) (rest := []) S hK hZ hPl19 hSl19 hl19.1 30 (by decide) hF27 (C := RX4) rfl (c_X4_isEmpty l D cA ad t hI Fl19 hWl19 ((q54 * 5 + q719) * 4) (by omega)) (cwV 1 S.2.2.2.2 gX4_spendMonth_X4_isEmpty rfl rfl rfl (by decide +kernel) ⟨Nat.le_of_ble_eq_true rfl, Nat.le_of_ble_eq_true rfl⟩) rfl rfl (Nat.le_of_ble_eq_true rfl) ⟨Nat.zero_le _, Nat.zero_le _⟩ dX4_spendMonth_66 (fun r26 hr26 => ?_)
            obtain ⟨b28, hb28, rfl⟩ := hr26
            refine lv_if_eq (tgt := 75) S.1 S.2.1 dX4_spendMonth_69 (by decide) (fun c29 => ?_) (fun c29 => ?_)
            · skip
              have k30 := ci_eq (nI_toInt (n := b28) (Nat.lt_of_le_of_lt hb28 (by decide))) z_ti c29
              refine lv_aload_n S.1 S.2.1 dX4_spendMonth_75 rfl (lv_at hl19 3 rfl) ?_
              refine lv_aload_n S.1 S.2.1 dX4_spendMonth_76 rfl (lv_at hl19 4 rfl) ?_
              refine lv_iload S.1 S.2.1 dX4_spendMonth_77 (lv_at hl19 2 rfl) ?_
              refine lv_iload S.1 S.2.1 dX4_spendMonth_79 (lv_at hl19 0 rfl) ?_
              refine r_cSp (As := [.int (nI q54), .int (nI q719)]) (rest := [.ref (ad rc), .ref (ad 30)]) S hK hZ hPl19 hSl19 hl19.1 (c_X4_cell l D cA ad t hI Fl19 hWl19 (nI q54) (nI q719)) (va_cwS 2 S.2.2.2.2 gX4_spendMonth_X4_cell rfl rfl rfl (by decide +kernel) ⟨Nat.le_of_ble_eq_true rfl, Nat.le_of_ble_eq_true rfl⟩) rfl rfl (Nat.le_of_ble_eq_true rfl) ⟨Nat.zero_le _, Nat.zero_le _⟩ dX4_spendMonth_81 (fun r31 hr31 => ?_)
              obtain ⟨hr31, hm31⟩ := hr31
              obtain rfl : r31 = nI ((q54 * 5 + q719) * 4) := hr31.trans (by rw [pk_mul, nI_add, pk_mul])
              refine lv_aload_n S.1 S.2.1 dX4_spendMonth_84 rfl (lv_at hl19 5 rfl) ?_
              refine lv_iload S.1 S.2.1 dX4_spendMonth_85 (lv_at hl19 2 rfl) ?_
              obtain ⟨g32, hF32, hg32⟩ := wt_I hWl19 hra
              refine r_iald S hK hPl19 ra (lt_I hra) hF32 (vp_in_nI (show q54 < 8 by omega) (by omega)) dX4_spendMonth_87 ?_
              refine lv_topi (fun v34 e34 => ?_)
              refine r_cVv (As := [.ref (ad rc), .int (nI ((q54 * 5 + q719) * 4)), .int v34]) (rest := []) S hK hZ hPl19 hSl19 hl19.1 30 (by decide) hF27 (C := RX4) rfl (c_X4_walkAll l D cA ad t hI Fl19 hWl19 rc hrc ((q54 * 5 + q719) * 4) (by omega) v34) (cwV 3 S.2.2.2.2 gX4_spendMonth_X4_walkAll rfl rfl rfl (by decide +kernel) ⟨Nat.le_of_ble_eq_true rfl, Nat.le_of_ble_eq_true rfl⟩) rfl rfl (Nat.le_of_ble_eq_true rfl) ⟨Nat.zero_le _, Nat.zero_le _⟩ dX4_spendMonth_88 (fun F35 H35 locs35 hr35 hP35 hS35 => ?_)
              obtain ⟨hW35, hFc35, hr35⟩ := hr35
              have hFr35 := hFl19.tr hFc35 (by simp <;> first | omega | (simp only [isC, isJ] at *; omega))
              refine lv_iload S.1 S.2.1 dX4_spendMonth_91 (lv_at hl19 0 rfl) ?_
              refine lv_aload_n S.1 S.2.1 dX4_spendMonth_93 rfl (lv_at hl19 4 rfl) ?_
              have hF36 := (hFc35 rc (by have hh1 := hrc; unfold isC at hh1; simp only [List.mem_cons, List.not_mem_nil, or_false, not_or]; omega)).trans hF20
              refine r_get S hK hP35 rc (lt_C hrc) hF36 (C := RX0) (T := TX0) (N := 10) hiX0 rfl 0 (by decide) (am_at in_wsX4_spendMonth_0 2 rfl) (v := .int (nI sl20)) rfl dX4_spendMonth_94 ?_
              refine lv_icmp_ge (tgt := 131) S.1 S.2.1 dX4_spendMonth_97 (by decide) (fun c37 => ?_) (fun c37 => ?_)
              · skip
                have k38 := ci_le (nI_toInt (n := sl20) (by omega)) (nI_toInt (n := q719) (by omega)) c37
                refine lv_iinc (v := (nI (q719 + 1))) (lv' := [(7, .int (nI (q719 + 1))), (6, .int (nI 0)), (5, .int (nI q54)), (0, .ref (ad 30)), (1, .ref (ad rc)), (2, .ref (ad ra)), (3, .int p3), (4, .int (nI s4))]) S.1 S.2.1 dX4_spendMonth_131 hl19 (k := 0) rfl (nI_add _ 1) (by decide) rfl (fun ls39 hl39 => ?_)
                refine lv_goto (tgt := 49) S.1 S.2.1 dX4_spendMonth_134 (by decide) ?_
                exact ih19 (q719 + 1) F35 H35 locs35 (by omega) (by omega) hW35 hFr35 hP35 hS35 ls39 (lv_sub hl39 [0, 1, 2, 3, 4, 5, 6, 7] rfl)
              have k40 := ci_nle (nI_toInt (n := sl20) (by omega)) (nI_toInt (n := q719) (by omega)) c37
              refine lv_aload_n S.1 S.2.1 dX4_spendMonth_100 rfl (lv_at hl19 3 rfl) ?_
              refine lv_iload S.1 S.2.1 dX4_spendMonth_101 (lv_at hl19 2 rfl) ?_
              refine lv_iload S.1 S.2.1 dX4_spendMonth_103 (lv_at hl19 0 rfl) ?_
              refine r_cSp (As := [.int (nI q54), .int (nI q719)]) (rest := [.ref (ad 30)]) S hK hZ hP35 hS35 hl19.1 (c_X4_cell l D cA ad t hI F35 hW35 (nI q54) (nI q719)) (va_cwS 2 S.2.2.2.2 gX4_spendMonth_X4_cell rfl rfl rfl (by decide +kernel) ⟨Nat.le_of_ble_eq_true rfl, Nat.le_of_ble_eq_true rfl⟩) rfl rfl (Nat.le_of_ble_eq_true rfl) ⟨Nat.zero_le _, Nat.zero_le _⟩ dX4_spendMonth_105 (fun r41 hr41 => ?_)
              obtain ⟨hr41, hm41⟩ := hr41
              obtain rfl : r41 = nI ((q54 * 5 + q719) * 4) := hr41.trans (by rw [pk_mul, nI_add, pk_mul])
              refine lv_iload S.1 S.2.1 dX4_spendMonth_108 (lv_at hl19 2 rfl) ?_
              refine lv_iload S.1 S.2.1 dX4_spendMonth_110 (lv_at hl19 0 rfl) ?_
              refine lv_iconst (v := (nI 1)) S.1 S.2.1 dX4_spendMonth_112 (by decide +kernel) ?_
              refine lv_iadd S.1 S.2.1 dX4_spendMonth_113 ?_
              refine lv_topi (fun v42 e42 => ?_)
              obtain rfl : v42 = nI (q719 + 1) := e42.trans (nI_add _ _)
              refine r_cSp (As := [.int (nI q54), .int (nI (q719 + 1))]) (rest := [.int (nI ((q54 * 5 + q719) * 4)), .ref (ad 30)]) S hK hZ hP35 hS35 hl19.1 (c_X4_cell l D cA ad t hI F35 hW35 (nI q54) (nI (q719 + 1))) (va_cwS 2 S.2.2.2.2 gX4_spendMonth_X4_cell rfl rfl rfl (by decide +kernel) ⟨Nat.le_of_ble_eq_true rfl, Nat.le_of_ble_eq_true rfl⟩) rfl rfl (Nat.le_of_ble_eq_true rfl) ⟨Nat.zero_le _, Nat.zero_le _⟩ dX4_spendMonth_114 (fun r43 hr43 => ?_)
              obtain ⟨hr43, hm43⟩ := hr43
              obtain rfl : r43 = nI ((q54 * 5 + (q719 + 1)) * 4) := hr43.trans (by rw [pk_mul, nI_add, pk_mul])
              refine lv_iload S.1 S.2.1 dX4_spendMonth_117 (lv_at hl19 1 rfl) ?_
              refine lv_if_eq (tgt := 127) S.1 S.2.1 dX4_spendMonth_119 (by decide) (fun c44 => ?_) (fun c44 => absurd (by decide +kernel) c44)
              have k45 := ci_eq (nI_toInt (n := 0) (by decide)) z_ti c44
              refine lv_iconst (v := (-1)) S.1 S.2.1 dX4_spendMonth_127 (by decide +kernel) ?_
              obtain ⟨a47, b47, hF47, ha47, hb47⟩ := wt_search hW35
              refine r_cVv (As := [.int (nI ((q54 * 5 + q719) * 4)), .int (nI ((q54 * 5 + (q719 + 1)) * 4)), .int (-1)]) (rest := []) S hK hZ hP35 hS35 hl19.1 30 (by decide) hF47 (C := RX4) rfl (c_X4_moveAll l D cA ad t hI F35 hW35 ((q54 * 5 + q719) * 4) (by omega) ((q54 * 5 + (q719 + 1)) * 4) (by omega) (-1) (by decide +kernel)) (cwV 3 S.2.2.2.2 gX4_spendMonth_X4_moveAll rfl rfl rfl (by decide +kernel) ⟨Nat.le_of_ble_eq_true rfl, Nat.le_of_ble_eq_true rfl⟩) rfl rfl (Nat.le_of_ble_eq_true rfl) ⟨Nat.zero_le _, Nat.zero_le _⟩ dX4_spendMonth_128 (fun F46 H46 locs46 hr46 hP46 hS46 => ?_)
              obtain ⟨hW46, hFc46, hr46⟩ := hr46
              have hFr46 := hFr35.tr hFc46 (by simp <;> first | omega | (simp only [isC, isJ] at *; omega))
              refine lv_iinc (v := (nI (q719 + 1))) (lv' := [(7, .int (nI (q719 + 1))), (6, .int (nI 0)), (5, .int (nI q54)), (0, .ref (ad 30)), (1, .ref (ad rc)), (2, .ref (ad ra)), (3, .int p3), (4, .int (nI s4))]) S.1 S.2.1 dX4_spendMonth_131 hl19 (k := 0) rfl (nI_add _ 1) (by decide) rfl (fun ls48 hl48 => ?_)
              refine lv_goto (tgt := 49) S.1 S.2.1 dX4_spendMonth_134 (by decide) ?_
              exact ih19 (q719 + 1) F46 H46 locs46 (by omega) (by omega) hW46 hFr46 hP46 hS46 ls48 (lv_sub hl48 [0, 1, 2, 3, 4, 5, 6, 7] rfl)
            have k49 := ci_ne (nI_toInt (n := b28) (Nat.lt_of_le_of_lt hb28 (by decide))) z_ti c29
            refine lv_goto (tgt := 131) S.1 S.2.1 dX4_spendMonth_72 (by decide) ?_
            refine lv_iinc (v := (nI (q719 + 1))) (lv' := [(7, .int (nI (q719 + 1))), (6, .int (nI 0)), (5, .int (nI q54)), (0, .ref (ad 30)), (1, .ref (ad rc)), (2, .ref (ad ra)), (3, .int p3), (4, .int (nI s4))]) S.1 S.2.1 dX4_spendMonth_131 hl19 (k := 0) rfl (nI_add _ 1) (by decide) rfl (fun ls50 hl50 => ?_)
            refine lv_goto (tgt := 49) S.1 S.2.1 dX4_spendMonth_134 (by decide) ?_
            exact ih19 (q719 + 1) Fl19 Hl19 lol19 (by omega) (by omega) hWl19 hFl19 hPl19 hSl19 ls50 (lv_sub hl50 [0, 1, 2, 3, 4, 5, 6, 7] rfl)
        exact lp19 (5 - (0) + 1) (0) Fl4 Hl4 lol4 (by omega) (by omega) hWl4 hFl4 hPl4 hSl4 ls18 (lv_sub hl18 [0, 1, 2, 3, 4, 5, 6, 7] rfl)
      have k51 := ci_ne rfl z_ti c15
      refine lv_aload_n S.1 S.2.1 dX4_spendMonth_29 rfl (lv_at hl4 2 rfl) ?_
      refine lv_iload S.1 S.2.1 dX4_spendMonth_30 (lv_at hl4 0 rfl) ?_
      refine lv_iload_n S.1 S.2.1 dX4_spendMonth_32 rfl (lv_at hl4 4 rfl) ?_
      refine r_cVp (As := [.int (nI q54), .int p3]) (rest := []) S hK hZ hPl4 hSl4 hl4.1 rc (lt_C hrc) hF5 (C := RX0) rfl (c_X0_worksIn l D cA ad t hI Fl4 hWl4 rc hrc (nI q54) p3) (cwV 2 S.2.2.2.2 gX4_spendMonth_X0_worksIn rfl rfl rfl (by decide +kernel) ⟨Nat.le_of_ble_eq_true rfl, Nat.le_of_ble_eq_true rfl⟩) rfl rfl (Nat.le_of_ble_eq_true rfl) ⟨Nat.zero_le _, Nat.zero_le _⟩ dX4_spendMonth_33 (fun r52 hr52 => ?_)
      obtain ⟨hr52, hm52⟩ := hr52
      obtain ⟨⟨b53, hb53, rfl⟩, hx53⟩ := hr52
      have hx53 : b53 ≠ 0 → 0 ≤ (nI q54).toInt ∧ (nI q54).toInt ≤ _ := fun q => hx53 (nI_ne0 (by omega) (by omega))
      refine lv_if_eq (tgt := 43) S.1 S.2.1 dX4_spendMonth_36 (by decide) (fun c54 => ?_) (fun c54 => ?_)
      · skip
        have k55 := ci_eq (nI_toInt (n := b53) (Nat.lt_of_le_of_lt hb53 (by decide))) z_ti c54
        refine lv_iconst (v := (nI 0)) S.1 S.2.1 dX4_spendMonth_43 (by decide +kernel) ?_
        refine lv_istore (lv' := [(6, .int (nI 0)), (5, .int (nI q54)), (0, .ref (ad 30)), (1, .ref (ad rc)), (2, .ref (ad ra)), (3, .int p3), (4, .int (nI s4))]) S.1 S.2.1 dX4_spendMonth_44 hl4 (by decide) rfl (fun ls56 hl56 => ?_)
        refine lv_iconst (v := (nI 0)) S.1 S.2.1 dX4_spendMonth_46 (by decide +kernel) ?_
        refine lv_istore (lv' := [(7, .int (nI 0)), (6, .int (nI 0)), (5, .int (nI q54)), (0, .ref (ad 30)), (1, .ref (ad rc)), (2, .ref (ad ra)), (3, .int p3), (4, .int (nI s4))]) S.1 S.2.1 dX4_spendMonth_47 hl56 (by decide) rfl (fun ls57 hl57 => ?_)
        have lp58 : ∀ (n58 : Nat) (q758 : Nat), ∀ (Fl58 : Nat → va_E) (Hl58 : Heap) (lol58 : List Loc), q758 ≤ 5 → 5 - q758 < n58 → WT cA ad Fl58 → rFr [30, 31, 32] F Fl58 → va_P D vwCl (rW ad Fl58) Hl58 → va_S (rA ad) s.heap Hl58 lol58 → ∀ (ls : Array Slot), lv_has ls 8 [(7, .int (nI q758)), (6, .int (nI 0)), (5, .int (nI q54)), (0, .ref (ad 30)), (1, .ref (ad rc)), (2, .ref (ad ra)), (3, .int p3), (4, .int (nI s4))] → W p l e { frames := 2, cells := 0, slots := 0, locals := 52 } s m args below meth c Hl58 lol58 0 0 Q (F0 m 49 ls []) := by
          intro n58
          induction n58 with
          | zero =>
            intro q758 Fl58 Hl58 lol58 iv58_0 hm58 hWl58 hFl58 hPl58 hSl58 ls58 hl58
            exact absurd hm58 (Nat.not_lt_zero _)
          | succ n58 ih58 =>
            intro q758 Fl58 Hl58 lol58 iv58_0 hm58 hWl58 hFl58 hPl58 hSl58 ls58 hl58
            refine lv_iload S.1 S.2.1 dX4_spendMonth_49 (lv_at hl58 0 rfl) ?_
            refine lv_aload_n S.1 S.2.1 dX4_spendMonth_51 rfl (lv_at hl58 4 rfl) ?_
            obtain ⟨sl59, fm59, tn59, rn59, bn59, hF59, hb59_1, hb59_2, hb59_3⟩ := wt_C hWl58 hrc
            refine r_get S hK hPl58 rc (lt_C hrc) hF59 (C := RX0) (T := TX0) (N := 10) hiX0 rfl 0 (by decide) (am_at in_wsX4_spendMonth_0 2 rfl) (v := .int (nI sl59)) rfl dX4_spendMonth_52 ?_
            refine lv_icmp_gt (tgt := 137) S.1 S.2.1 dX4_spendMonth_55 (by decide) (fun c60 => ?_) (fun c60 => ?_)
            · skip
              have k61 := ci_lt (nI_toInt (n := sl59) (by omega)) (nI_toInt (n := q758) (by omega)) c60
              refine lv_iinc (v := (nI (q54 + 1))) (lv' := [(5, .int (nI (q54 + 1))), (7, .int (nI q758)), (6, .int (nI 0)), (0, .ref (ad 30)), (1, .ref (ad rc)), (2, .ref (ad ra)), (3, .int p3), (4, .int (nI s4))]) S.1 S.2.1 dX4_spendMonth_137 hl58 (k := 2) rfl (nI_add _ 1) (by decide) rfl (fun ls62 hl62 => ?_)
              refine lv_goto (tgt := 10) S.1 S.2.1 dX4_spendMonth_140 (by decide) ?_
              exact ih4 (q54 + 1) Fl58 Hl58 lol58 (by omega) (by omega) hWl58 hFl58 hPl58 hSl58 ls62 (lv_sub hl62 [0, 3, 4, 5, 6, 7] rfl)
            have k63 := ci_nlt (nI_toInt (n := sl59) (by omega)) (nI_toInt (n := q758) (by omega)) c60
            refine lv_aload_n S.1 S.2.1 dX4_spendMonth_58 rfl (lv_at hl58 3 rfl) ?_
            refine lv_iload S.1 S.2.1 dX4_spendMonth_59 (lv_at hl58 2 rfl) ?_
            refine lv_iload S.1 S.2.1 dX4_spendMonth_61 (lv_at hl58 0 rfl) ?_
            refine r_cSp (As := [.int (nI q54), .int (nI q758)]) (rest := [.ref (ad 30)]) S hK hZ hPl58 hSl58 hl58.1 (c_X4_cell l D cA ad t hI Fl58 hWl58 (nI q54) (nI q758)) (va_cwS 2 S.2.2.2.2 gX4_spendMonth_X4_cell rfl rfl rfl (by decide +kernel) ⟨Nat.le_of_ble_eq_true rfl, Nat.le_of_ble_eq_true rfl⟩) rfl rfl (Nat.le_of_ble_eq_true rfl) ⟨Nat.zero_le _, Nat.zero_le _⟩ dX4_spendMonth_63 (fun r64 hr64 => ?_)
            obtain ⟨hr64, hm64⟩ := hr64
            obtain rfl : r64 = nI ((q54 * 5 + q758) * 4) := hr64.trans (by rw [pk_mul, nI_add, pk_mul])
            obtain ⟨a66, b66, hF66, ha66, hb66⟩ := wt_search hWl58
            refine r_cVp (As := [.int (nI ((q54 * 5 + q758) * 4))]) (rest := []) S hK hZ hPl58 hSl58 hl58.1 30 (by decide) hF66 (C := RX4) rfl (c_X4_isEmpty l D cA ad t hI Fl58 hWl58 ((q54 * 5 + q758) * 4) (by omega)) (cwV 1 S.2.2.2.2 gX4_spendMonth_X4_isEmpty rfl rfl rfl (by decide +kernel) ⟨Nat.le_of_ble_eq_true rfl, Nat.le_of_ble_eq_true rfl⟩) rfl rfl (Nat.le_of_ble_eq_true rfl) ⟨Nat.zero_le _, Nat.zero_le _⟩ dX4_spendMonth_66 (fun r65 hr65 => ?_)
            obtain ⟨b67, hb67, rfl⟩ := hr65
            refine lv_if_eq (tgt := 75) S.1 S.2.1 dX4_spendMonth_69 (by decide) (fun c68 => ?_) (fun c68 => ?_)
            · skip
              have k69 := ci_eq (nI_toInt (n := b67) (Nat.lt_of_le_of_lt hb67 (by decide))) z_ti c68
              refine lv_aload_n S.1 S.2.1 dX4_spendMonth_75 rfl (lv_at hl58 3 rfl) ?_
              refine lv_aload_n S.1 S.2.1 dX4_spendMonth_76 rfl (lv_at hl58 4 rfl) ?_
              refine lv_iload S.1 S.2.1 dX4_spendMonth_77 (lv_at hl58 2 rfl) ?_
              refine lv_iload S.1 S.2.1 dX4_spendMonth_79 (lv_at hl58 0 rfl) ?_
              refine r_cSp (As := [.int (nI q54), .int (nI q758)]) (rest := [.ref (ad rc), .ref (ad 30)]) S hK hZ hPl58 hSl58 hl58.1 (c_X4_cell l D cA ad t hI Fl58 hWl58 (nI q54) (nI q758)) (va_cwS 2 S.2.2.2.2 gX4_spendMonth_X4_cell rfl rfl rfl (by decide +kernel) ⟨Nat.le_of_ble_eq_true rfl, Nat.le_of_ble_eq_true rfl⟩) rfl rfl (Nat.le_of_ble_eq_true rfl) ⟨Nat.zero_le _, Nat.zero_le _⟩ dX4_spendMonth_81 (fun r70 hr70 => ?_)
              obtain ⟨hr70, hm70⟩ := hr70
              obtain rfl : r70 = nI ((q54 * 5 + q758) * 4) := hr70.trans (by rw [pk_mul, nI_add, pk_mul])
              refine lv_aload_n S.1 S.2.1 dX4_spendMonth_84 rfl (lv_at hl58 5 rfl) ?_
              refine lv_iload S.1 S.2.1 dX4_spendMonth_85 (lv_at hl58 2 rfl) ?_
              obtain ⟨g71, hF71, hg71⟩ := wt_I hWl58 hra
              refine r_iald S hK hPl58 ra (lt_I hra) hF71 (vp_in_nI (show q54 < 8 by omega) (by omega)) dX4_spendMonth_87 ?_
              refine lv_topi (fun v73 e73 => ?_)
              refine r_cVv (As := [.ref (ad rc), .int (nI ((q54 * 5 + q758) * 4)), .int v73]) (rest := []) S hK hZ hPl58 hSl58 hl58.1 30 (by decide) hF66 (C := RX4) rfl (c_X4_walkAll l D cA ad t hI Fl58 hWl58 rc hrc ((q54 * 5 + q758) * 4) (by omega) v73) (cwV 3 S.2.2.2.2 gX4_spendMonth_X4_walkAll rfl rfl rfl (by decide +kernel) ⟨Nat.le_of_ble_eq_true rfl, Nat.le_of_ble_eq_true rfl⟩) rfl rfl (Nat.le_of_ble_eq_true rfl) ⟨Nat.zero_le _, Nat.zero_le _⟩ dX4_spendMonth_88 (fun F74 H74 locs74 hr74 hP74 hS74 => ?_)
              obtain ⟨hW74, hFc74, hr74⟩ := hr74
              have hFr74 := hFl58.tr hFc74 (by simp <;> first | omega | (simp only [isC, isJ] at *; omega))
              refine lv_iload S.1 S.2.1 dX4_spendMonth_91 (lv_at hl58 0 rfl) ?_
              refine lv_aload_n S.1 S.2.1 dX4_spendMonth_93 rfl (lv_at hl58 4 rfl) ?_
              have hF75 := (hFc74 rc (by have hh1 := hrc; unfold isC at hh1; simp only [List.mem_cons, List.not_mem_nil, or_false, not_or]; omega)).trans hF59
              refine r_get S hK hP74 rc (lt_C hrc) hF75 (C := RX0) (T := TX0) (N := 10) hiX0 rfl 0 (by decide) (am_at in_wsX4_spendMonth_0 2 rfl) (v := .int (nI sl59)) rfl dX4_spendMonth_94 ?_
              refine lv_icmp_ge (tgt := 131) S.1 S.2.1 dX4_spendMonth_97 (by decide) (fun c76 => ?_) (fun c76 => ?_)
              · skip
                have k77 := ci_le (nI_toInt (n := sl59) (by omega)) (nI_toInt (n := q758) (by omega)) c76
                refine lv_iinc (v := (nI (q758 + 1))) (lv' := [(7, .int (nI (q758 + 1))), (6, .int (nI 0)), (5, .int (nI q54)), (0, .ref (ad 30)), (1, .ref (ad rc)), (2, .ref (ad ra)), (3, .int p3), (4, .int (nI s4))]) S.1 S.2.1 dX4_spendMonth_131 hl58 (k := 0) rfl (nI_add _ 1) (by decide) rfl (fun ls78 hl78 => ?_)
                refine lv_goto (tgt := 49) S.1 S.2.1 dX4_spendMonth_134 (by decide) ?_
                exact ih58 (q758 + 1) F74 H74 locs74 (by omega) (by omega) hW74 hFr74 hP74 hS74 ls78 (lv_sub hl78 [0, 1, 2, 3, 4, 5, 6, 7] rfl)
              have k79 := ci_nle (nI_toInt (n := sl59) (by omega)) (nI_toInt (n := q758) (by omega)) c76
              refine lv_aload_n S.1 S.2.1 dX4_spendMonth_100 rfl (lv_at hl58 3 rfl) ?_
              refine lv_iload S.1 S.2.1 dX4_spendMonth_101 (lv_at hl58 2 rfl) ?_
              refine lv_iload S.1 S.2.1 dX4_spendMonth_103 (lv_at hl58 0 rfl) ?_
              refine r_cSp (As := [.int (nI q54), .int (nI q758)]) (rest := [.ref (ad 30)]) S hK hZ hP74 hS74 hl58.1 (c_X4_cell l D cA ad t hI F74 hW74 (nI q54) (nI q758)) (va_cwS 2 S.2.2.2.2 gX4_spendMonth_X4_cell rfl rfl rfl (by decide +kernel) ⟨Nat.le_of_ble_eq_true rfl, Nat.le_of_ble_eq_true rfl⟩) rfl rfl (Nat.le_of_ble_eq_true rfl) ⟨Nat.zero_le _, Nat.zero_le _⟩ dX4_spendMonth_105 (fun r80 hr80 => ?_)
              obtain ⟨hr80, hm80⟩ := hr80
              obtain rfl : r80 = nI ((q54 * 5 + q758) * 4) := hr80.trans (by rw [pk_mul, nI_add, pk_mul])
              refine lv_iload S.1 S.2.1 dX4_spendMonth_108 (lv_at hl58 2 rfl) ?_
              refine lv_iload S.1 S.2.1 dX4_spendMonth_110 (lv_at hl58 0 rfl) ?_
              refine lv_iconst (v := (nI 1)) S.1 S.2.1 dX4_spendMonth_112 (by decide +kernel) ?_
              refine lv_iadd S.1 S.2.1 dX4_spendMonth_113 ?_
              refine lv_topi (fun v81 e81 => ?_)
              obtain rfl : v81 = nI (q758 + 1) := e81.trans (nI_add _ _)
              refine r_cSp (As := [.int (nI q54), .int (nI (q758 + 1))]) (rest := [.int (nI ((q54 * 5 + q758) * 4)), .ref (ad 30)]) S hK hZ hP74 hS74 hl58.1 (c_X4_cell l D cA ad t hI F74 hW74 (nI q54) (nI (q758 + 1))) (va_cwS 2 S.2.2.2.2 gX4_spendMonth_X4_cell rfl rfl rfl (by decide +kernel) ⟨Nat.le_of_ble_eq_true rfl, Nat.le_of_ble_eq_true rfl⟩) rfl rfl (Nat.le_of_ble_eq_true rfl) ⟨Nat.zero_le _, Nat.zero_le _⟩ dX4_spendMonth_114 (fun r82 hr82 => ?_)
              obtain ⟨hr82, hm82⟩ := hr82
              obtain rfl : r82 = nI ((q54 * 5 + (q758 + 1)) * 4) := hr82.trans (by rw [pk_mul, nI_add, pk_mul])
              refine lv_iload S.1 S.2.1 dX4_spendMonth_117 (lv_at hl58 1 rfl) ?_
              refine lv_if_eq (tgt := 127) S.1 S.2.1 dX4_spendMonth_119 (by decide) (fun c83 => ?_) (fun c83 => absurd (by decide +kernel) c83)
              have k84 := ci_eq (nI_toInt (n := 0) (by decide)) z_ti c83
              refine lv_iconst (v := (-1)) S.1 S.2.1 dX4_spendMonth_127 (by decide +kernel) ?_
              obtain ⟨a86, b86, hF86, ha86, hb86⟩ := wt_search hW74
              refine r_cVv (As := [.int (nI ((q54 * 5 + q758) * 4)), .int (nI ((q54 * 5 + (q758 + 1)) * 4)), .int (-1)]) (rest := []) S hK hZ hP74 hS74 hl58.1 30 (by decide) hF86 (C := RX4) rfl (c_X4_moveAll l D cA ad t hI F74 hW74 ((q54 * 5 + q758) * 4) (by omega) ((q54 * 5 + (q758 + 1)) * 4) (by omega) (-1) (by decide +kernel)) (cwV 3 S.2.2.2.2 gX4_spendMonth_X4_moveAll rfl rfl rfl (by decide +kernel) ⟨Nat.le_of_ble_eq_true rfl, Nat.le_of_ble_eq_true rfl⟩) rfl rfl (Nat.le_of_ble_eq_true rfl) ⟨Nat.zero_le _, Nat.zero_le _⟩ dX4_spendMonth_128 (fun F85 H85 locs85 hr85 hP85 hS85 => ?_)
              obtain ⟨hW85, hFc85, hr85⟩ := hr85
              have hFr85 := hFr74.tr hFc85 (by simp <;> first | omega | (simp only [isC, isJ] at *; omega))
              refine lv_iinc (v := (nI (q758 + 1))) (lv' := [(7, .int (nI (q758 + 1))), (6, .int (nI 0)), (5, .int (nI q54)), (0, .ref (ad 30)), (1, .ref (ad rc)), (2, .ref (ad ra)), (3, .int p3), (4, .int (nI s4))]) S.1 S.2.1 dX4_spendMonth_131 hl58 (k := 0) rfl (nI_add _ 1) (by decide) rfl (fun ls87 hl87 => ?_)
              refine lv_goto (tgt := 49) S.1 S.2.1 dX4_spendMonth_134 (by decide) ?_
              exact ih58 (q758 + 1) F85 H85 locs85 (by omega) (by omega) hW85 hFr85 hP85 hS85 ls87 (lv_sub hl87 [0, 1, 2, 3, 4, 5, 6, 7] rfl)
            have k88 := ci_ne (nI_toInt (n := b67) (Nat.lt_of_le_of_lt hb67 (by decide))) z_ti c68
            refine lv_goto (tgt := 131) S.1 S.2.1 dX4_spendMonth_72 (by decide) ?_
            refine lv_iinc (v := (nI (q758 + 1))) (lv' := [(7, .int (nI (q758 + 1))), (6, .int (nI 0)), (5, .int (nI q54)), (0, .ref (ad 30)), (1, .ref (ad rc)), (2, .ref (ad ra)), (3, .int p3), (4, .int (nI s4))]) S.1 S.2.1 dX4_spendMonth_131 hl58 (k := 0) rfl (nI_add _ 1) (by decide) rfl (fun ls89 hl89 => ?_)
            refine lv_goto (tgt := 49) S.1 S.2.1 dX4_spendMonth_134 (by decide) ?_
            exact ih58 (q758 + 1) Fl58 Hl58 lol58 (by omega) (by omega) hWl58 hFl58 hPl58 hSl58 ls89 (lv_sub hl89 [0, 1, 2, 3, 4, 5, 6, 7] rfl)
        exact lp58 (5 - (0) + 1) (0) Fl4 Hl4 lol4 (by omega) (by omega) hWl4 hFl4 hPl4 hSl4 ls57 (lv_sub hl57 [0, 1, 2, 3, 4, 5, 6, 7] rfl)
      have k90 := ci_ne (nI_toInt (n := b53) (Nat.lt_of_le_of_lt hb53 (by decide))) z_ti c54
      refine lv_iconst (v := (nI 1)) S.1 S.2.1 dX4_spendMonth_39 (by decide +kernel) ?_
      refine lv_goto (tgt := 44) S.1 S.2.1 dX4_spendMonth_40 (by decide) ?_
      refine lv_istore (lv' := [(6, .int (nI 1)), (5, .int (nI q54)), (0, .ref (ad 30)), (1, .ref (ad rc)), (2, .ref (ad ra)), (3, .int p3), (4, .int (nI s4))]) S.1 S.2.1 dX4_spendMonth_44 hl4 (by decide) rfl (fun ls91 hl91 => ?_)
      refine lv_iconst (v := (nI 0)) S.1 S.2.1 dX4_spendMonth_46 (by decide +kernel) ?_
      refine lv_istore (lv' := [(7, .int (nI 0)), (6, .int (nI 1)), (5, .int (nI q54)), (0, .ref (ad 30)), (1, .ref (ad rc)), (2, .ref (ad ra)), (3, .int p3), (4, .int (nI s4))]) S.1 S.2.1 dX4_spendMonth_47 hl91 (by decide) rfl (fun ls92 hl92 => ?_)
      have lp93 : ∀ (n93 : Nat) (q793 : Nat), ∀ (Fl93 : Nat → va_E) (Hl93 : Heap) (lol93 : List Loc), q793 ≤ 5 → 5 - q793 < n93 → WT cA ad Fl93 → rFr [30, 31, 32] F Fl93 → va_P D vwCl (rW ad Fl93) Hl93 → va_S (rA ad) s.heap Hl93 lol93 → ∀ (ls : Array Slot), lv_has ls 8 [(7, .int (nI q793)), (6, .int (nI 1)), (5, .int (nI q54)), (0, .ref (ad 30)), (1, .ref (ad rc)), (2, .ref (ad ra)), (3, .int p3), (4, .int (nI s4))] → W p l e { frames := 2, cells := 0, slots := 0, locals := 52 } s m args below meth c Hl93 lol93 0 0 Q (F0 m 49 ls []) := by
        intro n93
        induction n93 with
        | zero =>
          intro q793 Fl93 Hl93 lol93 iv93_0 hm93 hWl93 hFl93 hPl93 hSl93 ls93 hl93
          exact absurd hm93 (Nat.not_lt_zero _)
        | succ n93 ih93 =>
          intro q793 Fl93 Hl93 lol93 iv93_0 hm93 hWl93 hFl93 hPl93 hSl93 ls93 hl93
          refine lv_iload S.1 S.2.1 dX4_spendMonth_49 (lv_at hl93 0 rfl) ?_
          refine lv_aload_n S.1 S.2.1 dX4_spendMonth_51 rfl (lv_at hl93 4 rfl) ?_
          obtain ⟨sl94, fm94, tn94, rn94, bn94, hF94, hb94_1, hb94_2, hb94_3⟩ := wt_C hWl93 hrc
          refine r_get S hK hPl93 rc (lt_C hrc) hF94 (C := RX0) (T := TX0) (N := 10) hiX0 rfl 0 (by decide) (am_at in_wsX4_spendMonth_0 2 rfl) (v := .int (nI sl94)) rfl dX4_spendMonth_52 ?_
          refine lv_icmp_gt (tgt := 137) S.1 S.2.1 dX4_spendMonth_55 (by decide) (fun c95 => ?_) (fun c95 => ?_)
          · skip
            have k96 := ci_lt (nI_toInt (n := sl94) (by omega)) (nI_toInt (n := q793) (by omega)) c95
            refine lv_iinc (v := (nI (q54 + 1))) (lv' := [(5, .int (nI (q54 + 1))), (7, .int (nI q793)), (6, .int (nI 1)), (0, .ref (ad 30)), (1, .ref (ad rc)), (2, .ref (ad ra)), (3, .int p3), (4, .int (nI s4))]) S.1 S.2.1 dX4_spendMonth_137 hl93 (k := 2) rfl (nI_add _ 1) (by decide) rfl (fun ls97 hl97 => ?_)
            refine lv_goto (tgt := 10) S.1 S.2.1 dX4_spendMonth_140 (by decide) ?_
            exact ih4 (q54 + 1) Fl93 Hl93 lol93 (by omega) (by omega) hWl93 hFl93 hPl93 hSl93 ls97 (lv_sub hl97 [0, 3, 4, 5, 6, 7] rfl)
          have k98 := ci_nlt (nI_toInt (n := sl94) (by omega)) (nI_toInt (n := q793) (by omega)) c95
          refine lv_aload_n S.1 S.2.1 dX4_spendMonth_58 rfl (lv_at hl93 3 rfl) ?_
          refine lv_iload S.1 S.2.1 dX4_spendMonth_59 (lv_at hl93 2 rfl) ?_
          refine lv_iload S.1 S.2.1 dX4_spendMonth_61 (lv_at hl93 0 rfl) ?_
          refine r_cSp (As := [.int (nI q54), .int (nI q793)]) (rest := [.ref (ad 30)]) S hK hZ hPl93 hSl93 hl93.1 (c_X4_cell l D cA ad t hI Fl93 hWl93 (nI q54) (nI q793)) (va_cwS 2 S.2.2.2.2 gX4_spendMonth_X4_cell rfl rfl rfl (by decide +kernel) ⟨Nat.le_of_ble_eq_true rfl, Nat.le_of_ble_eq_true rfl⟩) rfl rfl (Nat.le_of_ble_eq_true rfl) ⟨Nat.zero_le _, Nat.zero_le _⟩ dX4_spendMonth_63 (fun r99 hr99 => ?_)
          obtain ⟨hr99, hm99⟩ := hr99
          obtain rfl : r99 = nI ((q54 * 5 + q793) * 4) := hr99.trans (by rw [pk_mul, nI_add, pk_mul])
          obtain ⟨a101, b101, hF101, ha101, hb101⟩ := wt_search hWl93
          refine r_cVp (As := [.int (nI ((q54 * 5 + q793) * 4))]) (rest := []) S hK hZ hPl93 hSl93 hl93.1 30 (by decide) hF101 (C := RX4) rfl (c_X4_isEmpty l D cA ad t hI Fl93 hWl93 ((q54 * 5 + q793) * 4) (by omega)) (cwV 1 S.2.2.2.2 gX4_spendMonth_X4_isEmpty rfl rfl rfl (by decide +kernel) ⟨Nat.le_of_ble_eq_true rfl, Nat.le_of_ble_eq_true rfl⟩) rfl rfl (Nat.le_of_ble_eq_true rfl) ⟨Nat.zero_le _, Nat.zero_le _⟩ dX4_spendMonth_66 (fun r100 hr100 => ?_)
          obtain ⟨b102, hb102, rfl⟩ := hr100
          refine lv_if_eq (tgt := 75) S.1 S.2.1 dX4_spendMonth_69 (by decide) (fun c103 => ?_) (fun c103 => ?_)
          · skip
            have k104 := ci_eq (nI_toInt (n := b102) (Nat.lt_of_le_of_lt hb102 (by decide))) z_ti c103
            refine lv_aload_n S.1 S.2.1 dX4_spendMonth_75 rfl (lv_at hl93 3 rfl) ?_
            refine lv_aload_n S.1 S.2.1 dX4_spendMonth_76 rfl (lv_at hl93 4 rfl) ?_
            refine lv_iload S.1 S.2.1 dX4_spendMonth_77 (lv_at hl93 2 rfl) ?_
            refine lv_iload S.1 S.2.1 dX4_spendMonth_79 (lv_at hl93 0 rfl) ?_
            refine r_cSp (As := [.int (nI q54), .int (nI q793)]) (rest := [.ref (ad rc), .ref (ad 30)]) S hK hZ hPl93 hSl93 hl93.1 (c_X4_cell l D cA ad t hI Fl93 hWl93 (nI q54) (nI q793)) (va_cwS 2 S.2.2.2.2 gX4_spendMonth_X4_cell rfl rfl rfl (by decide +kernel) ⟨Nat.le_of_ble_eq_true rfl, Nat.le_of_ble_eq_true rfl⟩) rfl rfl (Nat.le_of_ble_eq_true rfl) ⟨Nat.zero_le _, Nat.zero_le _⟩ dX4_spendMonth_81 (fun r105 hr105 => ?_)
            obtain ⟨hr105, hm105⟩ := hr105
            obtain rfl : r105 = nI ((q54 * 5 + q793) * 4) := hr105.trans (by rw [pk_mul, nI_add, pk_mul])
            refine lv_aload_n S.1 S.2.1 dX4_spendMonth_84 rfl (lv_at hl93 5 rfl) ?_
            refine lv_iload S.1 S.2.1 dX4_spendMonth_85 (lv_at hl93 2 rfl) ?_
            obtain ⟨g106, hF106, hg106⟩ := wt_I hWl93 hra
            refine r_iald S hK hPl93 ra (lt_I hra) hF106 (vp_in_nI (show q54 < 8 by omega) (by omega)) dX4_spendMonth_87 ?_
            refine lv_topi (fun v108 e108 => ?_)
            refine r_cVv (As := [.ref (ad rc), .int (nI ((q54 * 5 + q793) * 4)), .int v108]) (rest := []) S hK hZ hPl93 hSl93 hl93.1 30 (by decide) hF101 (C := RX4) rfl (c_X4_walkAll l D cA ad t hI Fl93 hWl93 rc hrc ((q54 * 5 + q793) * 4) (by omega) v108) (cwV 3 S.2.2.2.2 gX4_spendMonth_X4_walkAll rfl rfl rfl (by decide +kernel) ⟨Nat.le_of_ble_eq_true rfl, Nat.le_of_ble_eq_true rfl⟩) rfl rfl (Nat.le_of_ble_eq_true rfl) ⟨Nat.zero_le _, Nat.zero_le _⟩ dX4_spendMonth_88 (fun F109 H109 locs109 hr109 hP109 hS109 => ?_)
            obtain ⟨hW109, hFc109, hr109⟩ := hr109
            have hFr109 := hFl93.tr hFc109 (by simp <;> first | omega | (simp only [isC, isJ] at *; omega))
            refine lv_iload S.1 S.2.1 dX4_spendMonth_91 (lv_at hl93 0 rfl) ?_
            refine lv_aload_n S.1 S.2.1 dX4_spendMonth_93 rfl (lv_at hl93 4 rfl) ?_
            have hF110 := (hFc109 rc (by have hh1 := hrc; unfold isC at hh1; simp only [List.mem_cons, List.not_mem_nil, or_false, not_or]; omega)).trans hF94
            refine r_get S hK hP109 rc (lt_C hrc) hF110 (C := RX0) (T := TX0) (N := 10) hiX0 rfl 0 (by decide) (am_at in_wsX4_spendMonth_0 2 rfl) (v := .int (nI sl94)) rfl dX4_spendMonth_94 ?_
            refine lv_icmp_ge (tgt := 131) S.1 S.2.1 dX4_spendMonth_97 (by decide) (fun c111 => ?_) (fun c111 => ?_)
            · skip
              have k112 := ci_le (nI_toInt (n := sl94) (by omega)) (nI_toInt (n := q793) (by omega)) c111
              refine lv_iinc (v := (nI (q793 + 1))) (lv' := [(7, .int (nI (q793 + 1))), (6, .int (nI 1)), (5, .int (nI q54)), (0, .ref (ad 30)), (1, .ref (ad rc)), (2, .ref (ad ra)), (3, .int p3), (4, .int (nI s4))]) S.1 S.2.1 dX4_spendMonth_131 hl93 (k := 0) rfl (nI_add _ 1) (by decide) rfl (fun ls113 hl113 => ?_)
              refine lv_goto (tgt := 49) S.1 S.2.1 dX4_spendMonth_134 (by decide) ?_
              exact ih93 (q793 + 1) F109 H109 locs109 (by omega) (by omega) hW109 hFr109 hP109 hS109 ls113 (lv_sub hl113 [0, 1, 2, 3, 4, 5, 6, 7] rfl)
            have k114 := ci_nle (nI_toInt (n := sl94) (by omega)) (nI_toInt (n := q793) (by omega)) c111
            refine lv_aload_n S.1 S.2.1 dX4_spendMonth_100 rfl (lv_at hl93 3 rfl) ?_
            refine lv_iload S.1 S.2.1 dX4_spendMonth_101 (lv_at hl93 2 rfl) ?_
            refine lv_iload S.1 S.2.1 dX4_spendMonth_103 (lv_at hl93 0 rfl) ?_
            refine r_cSp (As := [.int (nI q54), .int (nI q793)]) (rest := [.ref (ad 30)]) S hK hZ hP109 hS109 hl93.1 (c_X4_cell l D cA ad t hI F109 hW109 (nI q54) (nI q793)) (va_cwS 2 S.2.2.2.2 gX4_spendMonth_X4_cell rfl rfl rfl (by decide +kernel) ⟨Nat.le_of_ble_eq_true rfl, Nat.le_of_ble_eq_true rfl⟩) rfl rfl (Nat.le_of_ble_eq_true rfl) ⟨Nat.zero_le _, Nat.zero_le _⟩ dX4_spendMonth_105 (fun r115 hr115 => ?_)
            obtain ⟨hr115, hm115⟩ := hr115
            obtain rfl : r115 = nI ((q54 * 5 + q793) * 4) := hr115.trans (by rw [pk_mul, nI_add, pk_mul])
            refine lv_iload S.1 S.2.1 dX4_spendMonth_108 (lv_at hl93 2 rfl) ?_
            refine lv_iload S.1 S.2.1 dX4_spendMonth_110 (lv_at hl93 0 rfl) ?_
            refine lv_iconst (v := (nI 1)) S.1 S.2.1 dX4_spendMonth_112 (by decide +kernel) ?_
            refine lv_iadd S.1 S.2.1 dX4_spendMonth_113 ?_
            refine lv_topi (fun v116 e116 => ?_)
            obtain rfl : v116 = nI (q793 + 1) := e116.trans (nI_add _ _)
            refine r_cSp (As := [.int (nI q54), .int (nI (q793 + 1))]) (rest := [.int (nI ((q54 * 5 + q793) * 4)), .ref (ad 30)]) S hK hZ hP109 hS109 hl93.1 (c_X4_cell l D cA ad t hI F109 hW109 (nI q54) (nI (q793 + 1))) (va_cwS 2 S.2.2.2.2 gX4_spendMonth_X4_cell rfl rfl rfl (by decide +kernel) ⟨Nat.le_of_ble_eq_true rfl, Nat.le_of_ble_eq_true rfl⟩) rfl rfl (Nat.le_of_ble_eq_true rfl) ⟨Nat.zero_le _, Nat.zero_le _⟩ dX4_spendMonth_114 (fun r117 hr117 => ?_)
            obtain ⟨hr117, hm117⟩ := hr117
            obtain rfl : r117 = nI ((q54 * 5 + (q793 + 1)) * 4) := hr117.trans (by rw [pk_mul, nI_add, pk_mul])
            refine lv_iload S.1 S.2.1 dX4_spendMonth_117 (lv_at hl93 1 rfl) ?_
            refine lv_if_eq (tgt := 127) S.1 S.2.1 dX4_spendMonth_119 (by decide) (fun c118 => absurd c118 (by decide +kernel)) (fun c118 => ?_)
            have k119 := ci_ne (nI_toInt (n := 1) (by decide)) z_ti c118
            refine lv_iload S.1 S.2.1 dX4_spendMonth_122 (lv_at hl93 2 rfl) ?_
            refine lv_goto (tgt := 128) S.1 S.2.1 dX4_spendMonth_124 (by decide) ?_
            obtain ⟨a121, b121, hF121, ha121, hb121⟩ := wt_search hW109
            refine r_cVv (As := [.int (nI ((q54 * 5 + q793) * 4)), .int (nI ((q54 * 5 + (q793 + 1)) * 4)), .int (nI q54)]) (rest := []) S hK hZ hP109 hS109 hl93.1 30 (by decide) hF121 (C := RX4) rfl (c_X4_moveAll l D cA ad t hI F109 hW109 ((q54 * 5 + q793) * 4) (by omega) ((q54 * 5 + (q793 + 1)) * 4) (by omega) (nI q54) (by have := nI_toInt (n := q54) (by omega); omega)) (cwV 3 S.2.2.2.2 gX4_spendMonth_X4_moveAll rfl rfl rfl (by decide +kernel) ⟨Nat.le_of_ble_eq_true rfl, Nat.le_of_ble_eq_true rfl⟩) rfl rfl (Nat.le_of_ble_eq_true rfl) ⟨Nat.zero_le _, Nat.zero_le _⟩ dX4_spendMonth_128 (fun F120 H120 locs120 hr120 hP120 hS120 => ?_)
            obtain ⟨hW120, hFc120, hr120⟩ := hr120
            have hFr120 := hFr109.tr hFc120 (by simp <;> first | omega | (simp only [isC, isJ] at *; omega))
            refine lv_iinc (v := (nI (q793 + 1))) (lv' := [(7, .int (nI (q793 + 1))), (6, .int (nI 1)), (5, .int (nI q54)), (0, .ref (ad 30)), (1, .ref (ad rc)), (2, .ref (ad ra)), (3, .int p3), (4, .int (nI s4))]) S.1 S.2.1 dX4_spendMonth_131 hl93 (k := 0) rfl (nI_add _ 1) (by decide) rfl (fun ls122 hl122 => ?_)
            refine lv_goto (tgt := 49) S.1 S.2.1 dX4_spendMonth_134 (by decide) ?_
            exact ih93 (q793 + 1) F120 H120 locs120 (by omega) (by omega) hW120 hFr120 hP120 hS120 ls122 (lv_sub hl122 [0, 1, 2, 3, 4, 5, 6, 7] rfl)
          have k123 := ci_ne (nI_toInt (n := b102) (Nat.lt_of_le_of_lt hb102 (by decide))) z_ti c103
          refine lv_goto (tgt := 131) S.1 S.2.1 dX4_spendMonth_72 (by decide) ?_
          refine lv_iinc (v := (nI (q793 + 1))) (lv' := [(7, .int (nI (q793 + 1))), (6, .int (nI 1)), (5, .int (nI q54)), (0, .ref (ad 30)), (1, .ref (ad rc)), (2, .ref (ad ra)), (3, .int p3), (4, .int (nI s4))]) S.1 S.2.1 dX4_spendMonth_131 hl93 (k := 0) rfl (nI_add _ 1) (by decide) rfl (fun ls124 hl124 => ?_)
          refine lv_goto (tgt := 49) S.1 S.2.1 dX4_spendMonth_134 (by decide) ?_
          exact ih93 (q793 + 1) Fl93 Hl93 lol93 (by omega) (by omega) hWl93 hFl93 hPl93 hSl93 ls124 (lv_sub hl124 [0, 1, 2, 3, 4, 5, 6, 7] rfl)
      exact lp93 (5 - (0) + 1) (0) Fl4 Hl4 lol4 (by omega) (by omega) hWl4 hFl4 hPl4 hSl4 ls92 (lv_sub hl92 [0, 1, 2, 3, 4, 5, 6, 7] rfl)
  exact lp4 (8 - (0) + 1) (0) F2 H2 locs2 (by omega) (by omega) hW2 hFr2 hP2 hS2 ls3 (lv_sub hl3 [0, 1, 2, 3, 4, 5] rfl)
set_option maxHeartbeats 4000000 in
set_option maxRecDepth 100000 in
theorem c_X4_fewestMonths (l : Launch) (D : va_G) (cA ad : Nat → Nat) (t : Nat) (hI : rI ad) (F : Nat → va_E) (hW : WT cA ad F) (rc : Nat) (hrc : isC rc) (ra : Nat) (hra : (ra, 8) ∈ rLI) (hura : ra ∉ [60, 61, 62, 63, 64, 66]) (rj : Nat) (hrj : isJ rj) (s4 : Nat) (hs4 : s4 ≤ 255) : MI l D cA ad t yX4_fewestMonths wsX4_fewestMonths { frames := 3, cells := 0, slots := 0, locals := 79 } [.ref (ad 30), .ref (ad rc), .ref (ad ra), .ref (ad rj), .int (nI s4)] F (fun r F' => WT cA ad F' ∧ rFr [30, 31, 32] F F' ∧ (True)) := by
  refine en_I rfl (by decide +kernel) (Nat.le_of_ble_eq_true rfl) ?_
  intro p e s m args below meth c ls0 Q S hK hZ hP hS hl0 hret
  have hl0 : lv_has ls0 8 [(0, .ref (ad 30)), (1, .ref (ad rc)), (2, .ref (ad ra)), (3, .ref (ad rj)), (4, .int (nI s4))] := hl0
  have hFr : rFr [30, 31, 32] F F := rFr.rf
  have hiX1 : ∀ w ∈ u_ws RX1 TX1 7, w ∈ wsX4_fewestMonths := in_wsX4_fewestMonths_3
  have hiX4 : ∀ w ∈ u_ws RX4 TX4 2, w ∈ wsX4_fewestMonths := in_wsX4_fewestMonths_2
  refine lv_aload_n S.1 S.2.1 dX4_fewestMonths_0 rfl (lv_at hl0 0 rfl) ?_
  obtain ⟨a1, b1, hF1, ha1, hb1⟩ := wt_search hW
  refine r_get S hK hP 30 (by decide) hF1 (C := RX4) (T := TX4) (N := 2) hiX4 rfl 0 (by decide) (am_at in_wsX4_fewestMonths_0 0 rfl) (v := .ref (ad a1)) rfl dX4_fewestMonths_1 ?_
  refine r_cSv (As := [.ref (ad a1)]) (rest := []) S hK hZ hP hS hl0.1 (c_X4_clear l D cA ad t hI F hW a1 (S_L ha1)) (va_cwS 1 S.2.2.2.2 gX4_fewestMonths_X4_clear rfl rfl rfl (by decide +kernel) ⟨Nat.le_of_ble_eq_true rfl, Nat.le_of_ble_eq_true rfl⟩) rfl rfl (Nat.le_of_ble_eq_true rfl) ⟨Nat.zero_le _, Nat.zero_le _⟩ dX4_fewestMonths_4 (fun F2 H2 locs2 hr2 hP2 hS2 => ?_)
  obtain ⟨hW2, hFc2, hr2⟩ := hr2
  have hFr2 := hFr.tr hFc2 (by simp <;> first | omega | (simp only [isC, isJ] at *; omega))
  refine lv_aload_n S.1 S.2.1 dX4_fewestMonths_7 rfl (lv_at hl0 3 rfl) ?_
  obtain ⟨ja3, jb3, jc3, jd3, jx3, jy3, jk3, hF3, hk3⟩ := wt_J hW2 hrj
  refine r_get S hK hP2 rj (lt_J hrj) hF3 (C := RX1) (T := TX1) (N := 7) hiX1 rfl 4 (by decide) (am_at in_wsX4_fewestMonths_0 1 rfl) (v := .int jx3) rfl dX4_fewestMonths_8 ?_
  refine lv_iload S.1 S.2.1 dX4_fewestMonths_11 (lv_at hl0 4 rfl) ?_
  refine lv_iand S.1 S.2.1 dX4_fewestMonths_13 ?_
  refine lv_topi (fun v4 e4 => ?_)
  refine lv_istore (lv' := [(5, .int v4), (0, .ref (ad 30)), (1, .ref (ad rc)), (2, .ref (ad ra)), (3, .ref (ad rj)), (4, .int (nI s4))]) S.1 S.2.1 dX4_fewestMonths_14 hl0 (by decide) rfl (fun ls5 hl5 => ?_)
  refine lv_aload_n S.1 S.2.1 dX4_fewestMonths_16 rfl (lv_at hl5 4 rfl) ?_
  refine r_get S hK hP2 rj (lt_J hrj) hF3 (C := RX1) (T := TX1) (N := 7) hiX1 rfl 0 (by decide) (am_at in_wsX4_fewestMonths_0 2 rfl) (v := .int ja3) rfl dX4_fewestMonths_17 ?_
  refine lv_aload_n S.1 S.2.1 dX4_fewestMonths_20 rfl (lv_at hl5 4 rfl) ?_
  refine r_get S hK hP2 rj (lt_J hrj) hF3 (C := RX1) (T := TX1) (N := 7) hiX1 rfl 2 (by decide) (am_at in_wsX4_fewestMonths_0 3 rfl) (v := .int jc3) rfl dX4_fewestMonths_21 ?_
  refine r_cSp (As := [.int ja3, .int jc3]) (rest := []) S hK hZ hP2 hS2 hl5.1 (c_X4_cell l D cA ad t hI F2 hW2 ja3 jc3) (va_cwS 2 S.2.2.2.2 gX4_fewestMonths_X4_cell rfl rfl rfl (by decide +kernel) ⟨Nat.le_of_ble_eq_true rfl, Nat.le_of_ble_eq_true rfl⟩) rfl rfl (Nat.le_of_ble_eq_true rfl) ⟨Nat.zero_le _, Nat.zero_le _⟩ dX4_fewestMonths_24 (fun r6 hr6 => ?_)
  obtain ⟨hr6, hm6⟩ := hr6
  refine lv_iload S.1 S.2.1 dX4_fewestMonths_27 (lv_at hl5 0 rfl) ?_
  refine lv_bipush (v := (nI 6)) S.1 S.2.1 dX4_fewestMonths_29 (by decide +kernel) ?_
  refine lv_ishr S.1 S.2.1 dX4_fewestMonths_31 ?_
  refine lv_topi (fun v7 e7 => ?_)
  refine lv_iadd S.1 S.2.1 dX4_fewestMonths_32 ?_
  refine lv_topi (fun v8 e8 => ?_)
  refine lv_istore (lv' := [(6, .int v8), (5, .int v4), (0, .ref (ad 30)), (1, .ref (ad rc)), (2, .ref (ad ra)), (3, .ref (ad rj)), (4, .int (nI s4))]) S.1 S.2.1 dX4_fewestMonths_33 hl5 (by decide) rfl (fun ls9 hl9 => ?_)
  refine lv_iload S.1 S.2.1 dX4_fewestMonths_35 (lv_at hl9 0 rfl) ?_
  refine lv_if_lt (tgt := 48) S.1 S.2.1 dX4_fewestMonths_37 (by decide) (fun c10 => ?_) (fun c10 => ?_)
  · skip
    have k11 := ci_lt rfl z_ti c10
    refine lv_iconst (v := (-1)) S.1 S.2.1 dX4_fewestMonths_48 (by decide +kernel) ?_
    exact hret 49 _ _ _ _ _ dX4_fewestMonths_49 rfl hP2 hS2 ⟨hW2, hFr2, trivial⟩
  have k12 := ci_nlt rfl z_ti c10
  refine lv_iload S.1 S.2.1 dX4_fewestMonths_40 (lv_at hl9 0 rfl) ?_
  refine lv_sipush (v := (nI 160)) S.1 S.2.1 dX4_fewestMonths_42 (by decide +kernel) ?_
  refine lv_icmp_lt (tgt := 50) S.1 S.2.1 dX4_fewestMonths_45 (by decide) (fun c13 => ?_) (fun c13 => ?_)
  · skip
    have k14 := ci_lt rfl (nI_toInt (n := 160) (by decide)) c13
    refine lv_aload_n S.1 S.2.1 dX4_fewestMonths_50 rfl (lv_at hl9 2 rfl) ?_
    obtain ⟨a15, b15, hF15, ha15, hb15⟩ := wt_search hW2
    refine r_get S hK hP2 30 (by decide) hF15 (C := RX4) (T := TX4) (N := 2) hiX4 rfl 0 (by decide) (am_at in_wsX4_fewestMonths_0 0 rfl) (v := .ref (ad a15)) rfl dX4_fewestMonths_51 ?_
    refine lv_iload S.1 S.2.1 dX4_fewestMonths_54 (lv_at hl9 0 rfl) ?_
    refine lv_lconst (v := 1) S.1 S.2.1 dX4_fewestMonths_56 (by decide +kernel) ?_
    refine lv_iload S.1 S.2.1 dX4_fewestMonths_57 (lv_at hl9 1 rfl) ?_
    refine lv_bipush (v := (nI 63)) S.1 S.2.1 dX4_fewestMonths_59 (by decide +kernel) ?_
    refine lv_iand S.1 S.2.1 dX4_fewestMonths_61 ?_
    refine lv_topi (fun v16 e16 => ?_)
    refine lv_lshl S.1 S.2.1 dX4_fewestMonths_62 rfl ?_
    refine lv_topl (fun v17 e17 => ?_)
    obtain ⟨g18, hF18⟩ := wt_L hW2 (S_L ha15)
    refine r_last S hI hK hP2 hS2 a15 (lt_L (S_L ha15)) hF18 (in_of (n := 160) (a := v8.toInt) rfl (by omega) (by omega)) dX4_fewestMonths_63 (fun F19 H19 locs19 eF19 hP19 hS19 => ?_)
    have hW19 := hW2.up eF19 (ok_L (S_L ha15) ⟨_, rfl⟩)
    have hFr19 := hFr2.up eF19 (by simp <;> first | omega | (simp only [isC, isJ] at *; omega))
    refine lv_iconst (v := (nI 0)) S.1 S.2.1 dX4_fewestMonths_64 (by decide +kernel) ?_
    refine lv_istore (lv' := [(7, .int (nI 0)), (6, .int v8), (5, .int v4), (0, .ref (ad 30)), (1, .ref (ad rc)), (2, .ref (ad ra)), (3, .ref (ad rj)), (4, .int (nI s4))]) S.1 S.2.1 dX4_fewestMonths_65 hl9 (by decide) rfl (fun ls20 hl20 => ?_)
    have lp21 : ∀ (n21 : Nat) (q721 : Nat), ∀ (Fl21 : Nat → va_E) (Hl21 : Heap) (lol21 : List Loc), q721 ≤ 61 → 61 - q721 < n21 → WT cA ad Fl21 → rFr [30, 31, 32] F Fl21 → va_P D vwCl (rW ad Fl21) Hl21 → va_S (rA ad) s.heap Hl21 lol21 → ∀ (ls : Array Slot), lv_has ls 8 [(7, .int (nI q721)), (6, .int v8), (5, .int v4), (0, .ref (ad 30)), (1, .ref (ad rc)), (2, .ref (ad ra)), (3, .ref (ad rj)), (4, .int (nI s4))] → W p l e { frames := 3, cells := 0, slots := 0, locals := 79 } s m args below meth c Hl21 lol21 0 0 Q (F0 m 67 ls []) := by
      intro n21
      induction n21 with
      | zero =>
        intro q721 Fl21 Hl21 lol21 iv21_0 hm21 hWl21 hFl21 hPl21 hSl21 ls21 hl21
        exact absurd hm21 (Nat.not_lt_zero _)
      | succ n21 ih21 =>
        intro q721 Fl21 Hl21 lol21 iv21_0 hm21 hWl21 hFl21 hPl21 hSl21 ls21 hl21
        refine lv_iload S.1 S.2.1 dX4_fewestMonths_67 (lv_at hl21 0 rfl) ?_
        refine lv_bipush (v := (nI 60)) S.1 S.2.1 dX4_fewestMonths_69 (by decide +kernel) ?_
        refine lv_icmp_gt (tgt := 108) S.1 S.2.1 dX4_fewestMonths_71 (by decide) (fun c22 => ?_) (fun c22 => ?_)
        · skip
          have k23 := ci_lt (nI_toInt (n := 60) (by decide)) (nI_toInt (n := q721) (by omega)) c22
          refine lv_iconst (v := (-1)) S.1 S.2.1 dX4_fewestMonths_108 (by decide +kernel) ?_
          exact hret 109 _ _ _ _ _ dX4_fewestMonths_109 rfl hPl21 hSl21 ⟨hWl21, hFl21, trivial⟩
        have k24 := ci_nlt (nI_toInt (n := 60) (by decide)) (nI_toInt (n := q721) (by omega)) c22
        refine lv_aload_n S.1 S.2.1 dX4_fewestMonths_74 rfl (lv_at hl21 3 rfl) ?_
        refine lv_aload_n S.1 S.2.1 dX4_fewestMonths_75 rfl (lv_at hl21 4 rfl) ?_
        refine lv_iload S.1 S.2.1 dX4_fewestMonths_76 (lv_at hl21 7 rfl) ?_
        obtain ⟨a26, b26, hF26, ha26, hb26⟩ := wt_search hWl21
        refine r_cVp (As := [.ref (ad rc), .int (nI s4)]) (rest := []) S hK hZ hPl21 hSl21 hl21.1 30 (by decide) hF26 (C := RX4) rfl (c_X4_holds l D cA ad t hI Fl21 hWl21 rc hrc (s4) (by omega)) (cwV 2 S.2.2.2.2 gX4_fewestMonths_X4_holds rfl rfl rfl (by decide +kernel) ⟨Nat.le_of_ble_eq_true rfl, Nat.le_of_ble_eq_true rfl⟩) rfl rfl (Nat.le_of_ble_eq_true rfl) ⟨Nat.zero_le _, Nat.zero_le _⟩ dX4_fewestMonths_78 (fun r25 hr25 => ?_)
        obtain ⟨b27, hb27, rfl⟩ := hr25
        refine lv_if_eq (tgt := 87) S.1 S.2.1 dX4_fewestMonths_81 (by decide) (fun c28 => ?_) (fun c28 => ?_)
        · skip
          have k29 := ci_eq (nI_toInt (n := b27) (Nat.lt_of_le_of_lt hb27 (by decide))) z_ti c28
          refine lv_aload_n S.1 S.2.1 dX4_fewestMonths_87 rfl (lv_at hl21 3 rfl) ?_
          refine lv_aload_n S.1 S.2.1 dX4_fewestMonths_88 rfl (lv_at hl21 4 rfl) ?_
          refine lv_aload_n S.1 S.2.1 dX4_fewestMonths_89 rfl (lv_at hl21 5 rfl) ?_
          refine lv_aload_n S.1 S.2.1 dX4_fewestMonths_90 rfl (lv_at hl21 6 rfl) ?_
          obtain ⟨ja30, jb30, jc30, jd30, jx30, jy30, jk30, hF30, hk30⟩ := wt_J hWl21 hrj
          refine r_get S hK hPl21 rj (lt_J hrj) hF30 (C := RX1) (T := TX1) (N := 7) hiX1 rfl 1 (by decide) (am_at in_wsX4_fewestMonths_0 4 rfl) (v := .int jb30) rfl dX4_fewestMonths_91 ?_
          refine lv_iload S.1 S.2.1 dX4_fewestMonths_94 (lv_at hl21 0 rfl) ?_
          refine lv_iadd S.1 S.2.1 dX4_fewestMonths_96 ?_
          refine lv_topi (fun v31 e31 => ?_)
          refine lv_iload S.1 S.2.1 dX4_fewestMonths_97 (lv_at hl21 7 rfl) ?_
          refine r_cVv (As := [.ref (ad rc), .ref (ad ra), .int v31, .int (nI s4)]) (rest := []) S hK hZ hPl21 hSl21 hl21.1 30 (by decide) hF26 (C := RX4) rfl (c_X4_spendMonth l D cA ad t hI Fl21 hWl21 rc hrc ra hra hura v31 (s4) (by omega)) (cwV 4 S.2.2.2.2 gX4_fewestMonths_X4_spendMonth rfl rfl rfl (by decide +kernel) ⟨Nat.le_of_ble_eq_true rfl, Nat.le_of_ble_eq_true rfl⟩) rfl rfl (Nat.le_of_ble_eq_true rfl) ⟨Nat.zero_le _, Nat.zero_le _⟩ dX4_fewestMonths_99 (fun F32 H32 locs32 hr32 hP32 hS32 => ?_)
          obtain ⟨hW32, hFc32, hr32⟩ := hr32
          have hFr32 := hFl21.tr hFc32 (by simp <;> first | omega | (simp only [isC, isJ] at *; omega))
          refine lv_iinc (v := (nI (q721 + 1))) (lv' := [(7, .int (nI (q721 + 1))), (6, .int v8), (5, .int v4), (0, .ref (ad 30)), (1, .ref (ad rc)), (2, .ref (ad ra)), (3, .ref (ad rj)), (4, .int (nI s4))]) S.1 S.2.1 dX4_fewestMonths_102 hl21 (k := 0) rfl (nI_add _ 1) (by decide) rfl (fun ls33 hl33 => ?_)
          refine lv_goto (tgt := 67) S.1 S.2.1 dX4_fewestMonths_105 (by decide) ?_
          exact ih21 (q721 + 1) F32 H32 locs32 (by omega) (by omega) hW32 hFr32 hP32 hS32 ls33 (lv_sub hl33 [0, 1, 2, 3, 4, 5, 6, 7] rfl)
        have k34 := ci_ne (nI_toInt (n := b27) (Nat.lt_of_le_of_lt hb27 (by decide))) z_ti c28
        refine lv_iload S.1 S.2.1 dX4_fewestMonths_84 (lv_at hl21 0 rfl) ?_
        exact hret 86 _ _ _ _ _ dX4_fewestMonths_86 rfl hPl21 hSl21 ⟨hWl21, hFl21, trivial⟩
    exact lp21 (61 - (0) + 1) (0) F19 H19 locs19 (by omega) (by omega) hW19 hFr19 hP19 hS19 ls20 (lv_sub hl20 [0, 1, 2, 3, 4, 5, 6, 7] rfl)
  have k35 := ci_nlt rfl (nI_toInt (n := 160) (by decide)) c13
  refine lv_iconst (v := (-1)) S.1 S.2.1 dX4_fewestMonths_48 (by decide +kernel) ?_
  exact hret 49 _ _ _ _ _ dX4_fewestMonths_49 rfl hP2 hS2 ⟨hW2, hFr2, trivial⟩
