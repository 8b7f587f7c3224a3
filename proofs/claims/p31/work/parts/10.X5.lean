set_option maxHeartbeats 4000000 in
set_option maxRecDepth 100000 in
theorem c_X5_blame (l : Launch) (D : va_G) (cA ad : Nat → Nat) (t : Nat) (hI : rI ad) (F : Nat → va_E) (hW : WT cA ad F) (p1 : Int32) (p2 : Int32) : MV l D cA ad t yX5_blame wsX5_blame { frames := 0, cells := 0, slots := 0, locals := 0 } [.ref (ad 1), .int p1, .int p2] F (fun F' => WT cA ad F' ∧ rFr [1] F F' ∧ (True)) := by
  refine en_V rfl (by decide +kernel) (Nat.le_of_ble_eq_true rfl) ?_
  intro p e s m args below meth c ls0 Q S hK hZ hP hS hl0 hret
  have hl0 : lv_has ls0 3 [(0, .ref (ad 1)), (1, .int p1), (2, .int p2)] := hl0
  have hFr : rFr [1] F F := rFr.rf
  have hiX5 : ∀ w ∈ u_ws RX5 TX5 6, w ∈ wsX5_blame := by decide +kernel
  refine lv_aload_n S.1 S.2.1 dX5_blame_0 rfl (lv_at hl0 0 rfl) ?_
  obtain ⟨n1, a1, f1, fa1, nu1, hF1, hn1, ha1⟩ := wt_text hW
  refine r_get S hK hP 1 (by decide) hF1 (C := RX5) (T := TX5) (N := 6) hiX5 rfl 2 (by decide) (by decide +kernel) (v := .int f1) rfl dX5_blame_1 ?_
  refine lv_if_ne (tgt := 17) S.1 S.2.1 dX5_blame_4 (by decide) (fun c2 => ?_) (fun c2 => ?_)
  · skip
    have k3 := ci_ne rfl z_ti c2
    exact hret 17 _ _ _ _ dX5_blame_17 hP hS ⟨hW, hFr, trivial⟩
  have k4 := ci_eq rfl z_ti c2
  refine lv_aload_n S.1 S.2.1 dX5_blame_7 rfl (lv_at hl0 0 rfl) ?_
  refine lv_iload_n S.1 S.2.1 dX5_blame_8 rfl (lv_at hl0 1 rfl) ?_
  refine r_put S hI hK hP hS 1 (by decide) hF1 (C := RX5) (T := TX5) (N := 6) hiX5 tyX5_ok nmX5 rfl 2 (by decide) (by decide +kernel) rfl rfl rfl (Nat.le_of_ble_eq_true rfl) dX5_blame_9 (fun F5 H5 locs5 eF5 hP5 hS5 => ?_)
  have hF5 : F5 1 = .inr (5, [.ref (ad 2), .int (nI n1), .int p1, .int fa1, .int (nI a1), .int nu1]) := by rw [eF5]; exact va_up_self _ _ _
  have hW5 := hW.up eF5 (ok_text ⟨n1, a1, p1, fa1, nu1, rfl, by omega, by omega⟩)
  have hFr5 := hFr.up eF5 (by simp <;> first | omega | (simp only [isC, isJ] at *; omega))
  refine lv_aload_n S.1 S.2.1 dX5_blame_12 rfl (lv_at hl0 0 rfl) ?_
  refine lv_iload_n S.1 S.2.1 dX5_blame_13 rfl (lv_at hl0 2 rfl) ?_
  refine r_put S hI hK hP5 hS5 1 (by decide) hF5 (C := RX5) (T := TX5) (N := 6) hiX5 tyX5_ok nmX5 rfl 3 (by decide) (by decide +kernel) rfl rfl rfl (Nat.le_of_ble_eq_true rfl) dX5_blame_14 (fun F6 H6 locs6 eF6 hP6 hS6 => ?_)
  have hF6 : F6 1 = .inr (5, [.ref (ad 2), .int (nI n1), .int p1, .int p2, .int (nI a1), .int nu1]) := by rw [eF6]; exact va_up_self _ _ _
  have hW6 := hW5.up eF6 (ok_text ⟨n1, a1, p1, p2, nu1, rfl, by omega, by omega⟩)
  have hFr6 := hFr5.up eF6 (by simp <;> first | omega | (simp only [isC, isJ] at *; omega))
  exact hret 17 _ _ _ _ dX5_blame_17 hP6 hS6 ⟨hW6, hFr6, trivial⟩
set_option maxHeartbeats 4000000 in
set_option maxRecDepth 100000 in
theorem c_X5_isFigure (l : Launch) (D : va_G) (cA ad : Nat → Nat) (t : Nat) (hI : rI ad) (F : Nat → va_E) (hW : WT cA ad F) (p1 : Int32) : MP l D cA ad t yX5_isFigure wsX5_isFigure { frames := 0, cells := 0, slots := 0, locals := 0 } [.int p1] F (fun r => le32 1 r) := by
  refine en_P rfl (by decide +kernel) (Nat.le_of_ble_eq_true rfl) ?_
  intro p e s m args below meth c ls0 Q S hK hZ hP hS hl0 hret
  have hl0 : lv_has ls0 1 [(0, .int p1)] := hl0
  refine lv_iload_n S.1 S.2.1 dX5_isFigure_0 rfl (lv_at hl0 0 rfl) ?_
  refine lv_bipush (v := (nI 48)) S.1 S.2.1 dX5_isFigure_1 (by decide +kernel) ?_
  refine lv_icmp_lt (tgt := 16) S.1 S.2.1 dX5_isFigure_3 (by decide) (fun c1 => ?_) (fun c1 => ?_)
  · skip
    have k2 := ci_lt rfl (nI_toInt (n := 48) (by omega)) c1
    refine lv_iconst (v := (nI 0)) S.1 S.2.1 dX5_isFigure_16 (by decide +kernel) ?_
    exact hret 17 _ _ dX5_isFigure_17 rfl (⟨0, by omega, rfl⟩)
  have k3 := ci_nlt rfl (nI_toInt (n := 48) (by omega)) c1
  refine lv_iload_n S.1 S.2.1 dX5_isFigure_6 rfl (lv_at hl0 0 rfl) ?_
  refine lv_bipush (v := (nI 57)) S.1 S.2.1 dX5_isFigure_7 (by decide +kernel) ?_
  refine lv_icmp_gt (tgt := 16) S.1 S.2.1 dX5_isFigure_9 (by decide) (fun c4 => ?_) (fun c4 => ?_)
  · skip
    have k5 := ci_lt (nI_toInt (n := 57) (by omega)) rfl c4
    refine lv_iconst (v := (nI 0)) S.1 S.2.1 dX5_isFigure_16 (by decide +kernel) ?_
    exact hret 17 _ _ dX5_isFigure_17 rfl (⟨0, by omega, rfl⟩)
  have k6 := ci_nlt (nI_toInt (n := 57) (by omega)) rfl c4
  refine lv_iconst (v := (nI 1)) S.1 S.2.1 dX5_isFigure_12 (by decide +kernel) ?_
  refine lv_goto (tgt := 17) S.1 S.2.1 dX5_isFigure_13 (by decide) ?_
  exact hret 17 _ _ dX5_isFigure_17 rfl (⟨1, by omega, rfl⟩)
set_option maxHeartbeats 4000000 in
set_option maxRecDepth 100000 in
theorem c_X5_skipBlanks (l : Launch) (D : va_G) (cA ad : Nat → Nat) (t : Nat) (hI : rI ad) (F : Nat → va_E) (hW : WT cA ad F) : MI l D cA ad t yX5_skipBlanks wsX5_skipBlanks { frames := 0, cells := 0, slots := 0, locals := 0 } [.ref (ad 1)] F (fun r F' => WT cA ad F' ∧ rFr [1] F F' ∧ (le32 1 r ∧ (r ≠ 0 → fN (F' 1) 4 < fN (F' 1) 1))) := by
  refine en_I rfl (by decide +kernel) (Nat.le_of_ble_eq_true rfl) ?_
  intro p e s m args below meth c ls0 Q S hK hZ hP hS hl0 hret
  have hl0 : lv_has ls0 1 [(0, .ref (ad 1))] := hl0
  have hFr : rFr [1] F F := rFr.rf
  have hiX5 : ∀ w ∈ u_ws RX5 TX5 6, w ∈ wsX5_skipBlanks := by decide +kernel
  have lp1 : ∀ (n1 : Nat), ∀ (Fl1 : Nat → va_E) (Hl1 : Heap) (lol1 : List Loc), 240 - fN (Fl1 1) 4 < n1 → WT cA ad Fl1 → rFr [1] F Fl1 → va_P D vwCl (rW ad Fl1) Hl1 → va_S (rA ad) s.heap Hl1 lol1 → ∀ (ls : Array Slot), lv_has ls 1 [(0, .ref (ad 1))] → W p l e { frames := 0, cells := 0, slots := 0, locals := 0 } s m args below meth c Hl1 lol1 0 0 Q (F0 m 0 ls []) := by
    intro n1
    induction n1 with
    | zero =>
      intro Fl1 Hl1 lol1 hm1 hWl1 hFl1 hPl1 hSl1 ls1 hl1
      exact absurd hm1 (Nat.not_lt_zero _)
    | succ n1 ih1 =>
      intro Fl1 Hl1 lol1 hm1 hWl1 hFl1 hPl1 hSl1 ls1 hl1
      obtain ⟨n2, a2, f2, fa2, nu2, hF2, hn2, ha2⟩ := wt_text hWl1
      have hA3 := fN_of (k := 4) (a := a2) hF2 rfl (by omega)
      have hL3 := fN_of (k := 1) (a := n2) hF2 rfl (by omega)
      refine lv_aload_n S.1 S.2.1 dX5_skipBlanks_0 rfl (lv_at hl1 0 rfl) ?_
      refine r_get S hK hPl1 1 (by decide) hF2 (C := RX5) (T := TX5) (N := 6) hiX5 rfl 4 (by decide) (by decide +kernel) (v := .int (nI a2)) rfl dX5_skipBlanks_1 ?_
      refine lv_aload_n S.1 S.2.1 dX5_skipBlanks_4 rfl (lv_at hl1 0 rfl) ?_
      refine r_get S hK hPl1 1 (by decide) hF2 (C := RX5) (T := TX5) (N := 6) hiX5 rfl 1 (by decide) (by decide +kernel) (v := .int (nI n2)) rfl dX5_skipBlanks_5 ?_
      refine lv_icmp_ge (tgt := 38) S.1 S.2.1 dX5_skipBlanks_8 (by decide) (fun c4 => ?_) (fun c4 => ?_)
      · skip
        have k5 := ci_le (nI_toInt (n := n2) (by omega)) (nI_toInt (n := a2) (by omega)) c4
        refine lv_aload_n S.1 S.2.1 dX5_skipBlanks_38 rfl (lv_at hl1 0 rfl) ?_
        refine r_get S hK hPl1 1 (by decide) hF2 (C := RX5) (T := TX5) (N := 6) hiX5 rfl 4 (by decide) (by decide +kernel) (v := .int (nI a2)) rfl dX5_skipBlanks_39 ?_
        refine lv_aload_n S.1 S.2.1 dX5_skipBlanks_42 rfl (lv_at hl1 0 rfl) ?_
        refine r_get S hK hPl1 1 (by decide) hF2 (C := RX5) (T := TX5) (N := 6) hiX5 rfl 1 (by decide) (by decide +kernel) (v := .int (nI n2)) rfl dX5_skipBlanks_43 ?_
        refine lv_icmp_ge (tgt := 53) S.1 S.2.1 dX5_skipBlanks_46 (by decide) (fun c6 => ?_) (fun c6 => absurd c4 c6)
        have k7 := ci_le (nI_toInt (n := n2) (by omega)) (nI_toInt (n := a2) (by omega)) c6
        refine lv_iconst (v := (nI 0)) S.1 S.2.1 dX5_skipBlanks_53 (by decide +kernel) ?_
        have hA8 := fN_of (k := 4) (a := a2) hF2 rfl (by omega)
        have hL8 := fN_of (k := 1) (a := n2) hF2 rfl (by omega)
        exact hret 54 _ _ _ _ _ dX5_skipBlanks_54 rfl hPl1 hSl1 ⟨hWl1, hFl1, ⟨⟨0, by omega, rfl⟩, fun h => absurd rfl h⟩⟩
      have k9 := ci_nle (nI_toInt (n := n2) (by omega)) (nI_toInt (n := a2) (by omega)) c4
      refine lv_aload_n S.1 S.2.1 dX5_skipBlanks_11 rfl (lv_at hl1 0 rfl) ?_
      refine r_get S hK hPl1 1 (by decide) hF2 (C := RX5) (T := TX5) (N := 6) hiX5 rfl 0 (by decide) (by decide +kernel) (v := .ref (ad 2)) rfl dX5_skipBlanks_12 ?_
      refine lv_aload_n S.1 S.2.1 dX5_skipBlanks_15 rfl (lv_at hl1 0 rfl) ?_
      refine r_get S hK hPl1 1 (by decide) hF2 (C := RX5) (T := TX5) (N := 6) hiX5 rfl 4 (by decide) (by decide +kernel) (v := .int (nI a2)) rfl dX5_skipBlanks_16 ?_
      obtain ⟨g10, hF10⟩ := wt_let hWl1
      refine r_cald S hK hPl1 2 (by decide) hF10 (vp_in_nI (show a2 < 240 by omega) (by omega)) dX5_skipBlanks_19 ?_
      refine lv_topi (fun v12 e12 => ?_)
      refine lv_bipush (v := (nI 32)) S.1 S.2.1 dX5_skipBlanks_20 (by decide +kernel) ?_
      refine lv_icmp_ne (tgt := 38) S.1 S.2.1 dX5_skipBlanks_22 (by decide) (fun c13 => ?_) (fun c13 => ?_)
      · skip
        have k14 := ci_ne rfl (nI_toInt (n := 32) (by omega)) c13
        refine lv_aload_n S.1 S.2.1 dX5_skipBlanks_38 rfl (lv_at hl1 0 rfl) ?_
        refine r_get S hK hPl1 1 (by decide) hF2 (C := RX5) (T := TX5) (N := 6) hiX5 rfl 4 (by decide) (by decide +kernel) (v := .int (nI a2)) rfl dX5_skipBlanks_39 ?_
        refine lv_aload_n S.1 S.2.1 dX5_skipBlanks_42 rfl (lv_at hl1 0 rfl) ?_
        refine r_get S hK hPl1 1 (by decide) hF2 (C := RX5) (T := TX5) (N := 6) hiX5 rfl 1 (by decide) (by decide +kernel) (v := .int (nI n2)) rfl dX5_skipBlanks_43 ?_
        refine lv_icmp_ge (tgt := 53) S.1 S.2.1 dX5_skipBlanks_46 (by decide) (fun c15 => absurd c15 c4) (fun c15 => ?_)
        have k16 := ci_nle (nI_toInt (n := n2) (by omega)) (nI_toInt (n := a2) (by omega)) c15
        refine lv_iconst (v := (nI 1)) S.1 S.2.1 dX5_skipBlanks_49 (by decide +kernel) ?_
        refine lv_goto (tgt := 54) S.1 S.2.1 dX5_skipBlanks_50 (by decide) ?_
        have hA17 := fN_of (k := 4) (a := a2) hF2 rfl (by omega)
        have hL17 := fN_of (k := 1) (a := n2) hF2 rfl (by omega)
        exact hret 54 _ _ _ _ _ dX5_skipBlanks_54 rfl hPl1 hSl1 ⟨hWl1, hFl1, ⟨⟨1, by omega, rfl⟩, fun _ => by omega⟩⟩
      have k18 := ci_eq rfl (nI_toInt (n := 32) (by omega)) c13
      refine lv_aload_n S.1 S.2.1 dX5_skipBlanks_25 rfl (lv_at hl1 0 rfl) ?_
      refine lv_dup S.1 S.2.1 dX5_skipBlanks_26 rfl ?_
      refine r_get S hK hPl1 1 (by decide) hF2 (C := RX5) (T := TX5) (N := 6) hiX5 rfl 4 (by decide) (by decide +kernel) (v := .int (nI a2)) rfl dX5_skipBlanks_27 ?_
      refine lv_iconst (v := (nI 1)) S.1 S.2.1 dX5_skipBlanks_30 (by decide +kernel) ?_
      refine lv_iadd S.1 S.2.1 dX5_skipBlanks_31 ?_
      refine lv_topi (fun v19 e19 => ?_)
      obtain rfl : v19 = nI (a2 + 1) := e19.trans (nI_add _ _)
      refine r_put S hI hK hPl1 hSl1 1 (by decide) hF2 (C := RX5) (T := TX5) (N := 6) hiX5 tyX5_ok nmX5 rfl 4 (by decide) (by decide +kernel) rfl rfl rfl (Nat.le_of_ble_eq_true rfl) dX5_skipBlanks_32 (fun F20 H20 locs20 eF20 hP20 hS20 => ?_)
      have hF20 : F20 1 = .inr (5, [.ref (ad 2), .int (nI n2), .int f2, .int fa2, .int (nI (a2 + 1)), .int nu2]) := by rw [eF20]; exact va_up_self _ _ _
      have hW20 := hWl1.up eF20 (ok_text ⟨n2, a2 + 1, f2, fa2, nu2, rfl, by omega, by omega⟩)
      have hFr20 := hFl1.up eF20 (by simp <;> first | omega | (simp only [isC, isJ] at *; omega))
      refine lv_goto (tgt := 0) S.1 S.2.1 dX5_skipBlanks_35 (by decide) ?_
      have hA21 := fN_of (k := 4) (a := a2 + 1) hF20 rfl (by omega)
      have hL21 := fN_of (k := 1) (a := n2) hF20 rfl (by omega)
      exact ih1 F20 H20 locs20 (by omega) hW20 hFr20 hP20 hS20 ls1 (lv_sub hl1 [0] rfl)
  exact lp1 (240 - fN (F 1) 4 + 1) F s.heap [] (by omega) hW hFr hP hS ls0 (lv_sub hl0 [0] rfl)
set_option maxHeartbeats 4000000 in
set_option maxRecDepth 100000 in
theorem c_X5_readEnd (l : Launch) (D : va_G) (cA ad : Nat → Nat) (t : Nat) (hI : rI ad) (F : Nat → va_E) (hW : WT cA ad F) : MV l D cA ad t yX5_readEnd wsX5_readEnd { frames := 1, cells := 0, slots := 0, locals := 22 } [.ref (ad 1)] F (fun F' => WT cA ad F' ∧ rFr [1] F F' ∧ (True)) := by
  refine en_V rfl (by decide +kernel) (Nat.le_of_ble_eq_true rfl) ?_
  intro p e s m args below meth c ls0 Q S hK hZ hP hS hl0 hret
  have hl0 : lv_has ls0 1 [(0, .ref (ad 1))] := hl0
  have hFr : rFr [1] F F := rFr.rf
  have hiX5 : ∀ w ∈ u_ws RX5 TX5 6, w ∈ wsX5_readEnd := by decide +kernel
  refine lv_aload_n S.1 S.2.1 dX5_readEnd_0 rfl (lv_at hl0 0 rfl) ?_
  obtain ⟨n1, a1, f1, fa1, nu1, hF1, hn1, ha1⟩ := wt_text hW
  refine r_get S hK hP 1 (by decide) hF1 (C := RX5) (T := TX5) (N := 6) hiX5 rfl 2 (by decide) (by decide +kernel) (v := .int f1) rfl dX5_readEnd_1 ?_
  refine lv_if_eq (tgt := 8) S.1 S.2.1 dX5_readEnd_4 (by decide) (fun c2 => ?_) (fun c2 => ?_)
  · skip
    have k3 := ci_eq rfl z_ti c2
    refine lv_aload_n S.1 S.2.1 dX5_readEnd_8 rfl (lv_at hl0 0 rfl) ?_
    refine r_cVi (As := []) (rest := []) S hK hZ hP hS hl0.1 1 (by decide) hF1 (C := RX5) rfl (c_X5_skipBlanks l D cA ad t hI F hW ) (cwV 0 S.2.2.2.2 gX5_readEnd_X5_skipBlanks rfl rfl rfl (by decide +kernel) ⟨Nat.le_of_ble_eq_true rfl, Nat.le_of_ble_eq_true rfl⟩) rfl rfl (Nat.le_of_ble_eq_true rfl) ⟨Nat.zero_le _, Nat.zero_le _⟩ dX5_readEnd_9 (fun r4 F4 H4 locs4 hr4 hP4 hS4 => ?_)
    obtain ⟨hW4, hFc4, hr4⟩ := hr4
    have hFr4 := hFr.tr hFc4 (by simp <;> first | omega | (simp only [isC, isJ] at *; omega))
    obtain ⟨⟨b5, hb5, rfl⟩, hx5⟩ := hr4
    obtain ⟨n6, a6, f6, fa6, nu6, hF6, hn6, ha6⟩ := wt_text hW4
    have hA7 := fN_of (k := 4) (a := a6) hF6 rfl (by omega)
    have hL7 := fN_of (k := 1) (a := n6) hF6 rfl (by omega)
    have hy5 : b5 ≠ 0 → a6 < n6 := fun q => by have := hx5 (nI_ne0 (by omega) (by omega)); omega
    refine lv_if_eq (tgt := 29) S.1 S.2.1 dX5_readEnd_12 (by decide) (fun c8 => ?_) (fun c8 => ?_)
    · skip
      have k9 := ci_eq (nI_toInt (n := b5) (by omega)) z_ti c8
      refine lv_aload_n S.1 S.2.1 dX5_readEnd_29 rfl (lv_at hl0 0 rfl) ?_
      refine lv_iconst (v := (nI 1)) S.1 S.2.1 dX5_readEnd_30 (by decide +kernel) ?_
      refine lv_aload_n S.1 S.2.1 dX5_readEnd_31 rfl (lv_at hl0 0 rfl) ?_
      refine r_get S hK hP4 1 (by decide) hF6 (C := RX5) (T := TX5) (N := 6) hiX5 rfl 4 (by decide) (by decide +kernel) (v := .int (nI a6)) rfl dX5_readEnd_32 ?_
      refine r_cVv (As := [.int (nI 1), .int (nI a6)]) (rest := []) S hK hZ hP4 hS4 hl0.1 1 (by decide) hF6 (C := RX5) rfl (c_X5_blame l D cA ad t hI F4 hW4 (nI 1) (nI a6)) (cwV 2 S.2.2.2.2 gX5_readEnd_X5_blame rfl rfl rfl (by decide +kernel) ⟨Nat.le_of_ble_eq_true rfl, Nat.le_of_ble_eq_true rfl⟩) rfl rfl (Nat.le_of_ble_eq_true rfl) ⟨Nat.zero_le _, Nat.zero_le _⟩ dX5_readEnd_35 (fun F10 H10 locs10 hr10 hP10 hS10 => ?_)
      obtain ⟨hW10, hFc10, hr10⟩ := hr10
      have hFr10 := hFr4.tr hFc10 (by simp <;> first | omega | (simp only [isC, isJ] at *; omega))
      exact hret 38 _ _ _ _ dX5_readEnd_38 hP10 hS10 ⟨hW10, hFr10, trivial⟩
    have k11 := ci_ne (nI_toInt (n := b5) (by omega)) z_ti c8
    refine lv_aload_n S.1 S.2.1 dX5_readEnd_15 rfl (lv_at hl0 0 rfl) ?_
    refine r_get S hK hP4 1 (by decide) hF6 (C := RX5) (T := TX5) (N := 6) hiX5 rfl 0 (by decide) (by decide +kernel) (v := .ref (ad 2)) rfl dX5_readEnd_16 ?_
    refine lv_aload_n S.1 S.2.1 dX5_readEnd_19 rfl (lv_at hl0 0 rfl) ?_
    refine r_get S hK hP4 1 (by decide) hF6 (C := RX5) (T := TX5) (N := 6) hiX5 rfl 4 (by decide) (by decide +kernel) (v := .int (nI a6)) rfl dX5_readEnd_20 ?_
    obtain ⟨g12, hF12⟩ := wt_let hW4
    refine r_cald S hK hP4 2 (by decide) hF12 (vp_in_nI (show a6 < 240 by omega) (by omega)) dX5_readEnd_23 ?_
    refine lv_topi (fun v14 e14 => ?_)
    refine lv_bipush (v := (nI 59)) S.1 S.2.1 dX5_readEnd_24 (by decide +kernel) ?_
    refine lv_icmp_eq (tgt := 39) S.1 S.2.1 dX5_readEnd_26 (by decide) (fun c15 => ?_) (fun c15 => ?_)
    · skip
      have k16 := ci_eq rfl (nI_toInt (n := 59) (by omega)) c15
      refine lv_aload_n S.1 S.2.1 dX5_readEnd_39 rfl (lv_at hl0 0 rfl) ?_
      refine lv_dup S.1 S.2.1 dX5_readEnd_40 rfl ?_
      refine r_get S hK hP4 1 (by decide) hF6 (C := RX5) (T := TX5) (N := 6) hiX5 rfl 4 (by decide) (by decide +kernel) (v := .int (nI a6)) rfl dX5_readEnd_41 ?_
      refine lv_iconst (v := (nI 1)) S.1 S.2.1 dX5_readEnd_44 (by decide +kernel) ?_
      refine lv_iadd S.1 S.2.1 dX5_readEnd_45 ?_
      refine lv_topi (fun v17 e17 => ?_)
      obtain rfl : v17 = nI (a6 + 1) := e17.trans (nI_add _ _)
      refine r_put S hI hK hP4 hS4 1 (by decide) hF6 (C := RX5) (T := TX5) (N := 6) hiX5 tyX5_ok nmX5 rfl 4 (by decide) (by decide +kernel) rfl rfl rfl (Nat.le_of_ble_eq_true rfl) dX5_readEnd_46 (fun F18 H18 locs18 eF18 hP18 hS18 => ?_)
      have hF18 : F18 1 = .inr (5, [.ref (ad 2), .int (nI n6), .int f6, .int fa6, .int (nI (a6 + 1)), .int nu6]) := by rw [eF18]; exact va_up_self _ _ _
      have hW18 := hW4.up eF18 (ok_text ⟨n6, a6 + 1, f6, fa6, nu6, rfl, by omega, by omega⟩)
      have hFr18 := hFr4.up eF18 (by simp <;> first | omega | (simp only [isC, isJ] at *; omega))
      exact hret 49 _ _ _ _ dX5_readEnd_49 hP18 hS18 ⟨hW18, hFr18, trivial⟩
    have k19 := ci_ne rfl (nI_toInt (n := 59) (by omega)) c15
    refine lv_aload_n S.1 S.2.1 dX5_readEnd_29 rfl (lv_at hl0 0 rfl) ?_
    refine lv_iconst (v := (nI 1)) S.1 S.2.1 dX5_readEnd_30 (by decide +kernel) ?_
    refine lv_aload_n S.1 S.2.1 dX5_readEnd_31 rfl (lv_at hl0 0 rfl) ?_
    refine r_get S hK hP4 1 (by decide) hF6 (C := RX5) (T := TX5) (N := 6) hiX5 rfl 4 (by decide) (by decide +kernel) (v := .int (nI a6)) rfl dX5_readEnd_32 ?_
    refine r_cVv (As := [.int (nI 1), .int (nI a6)]) (rest := []) S hK hZ hP4 hS4 hl0.1 1 (by decide) hF6 (C := RX5) rfl (c_X5_blame l D cA ad t hI F4 hW4 (nI 1) (nI a6)) (cwV 2 S.2.2.2.2 gX5_readEnd_X5_blame rfl rfl rfl (by decide +kernel) ⟨Nat.le_of_ble_eq_true rfl, Nat.le_of_ble_eq_true rfl⟩) rfl rfl (Nat.le_of_ble_eq_true rfl) ⟨Nat.zero_le _, Nat.zero_le _⟩ dX5_readEnd_35 (fun F20 H20 locs20 hr20 hP20 hS20 => ?_)
    obtain ⟨hW20, hFc20, hr20⟩ := hr20
    have hFr20 := hFr4.tr hFc20 (by simp <;> first | omega | (simp only [isC, isJ] at *; omega))
    exact hret 38 _ _ _ _ dX5_readEnd_38 hP20 hS20 ⟨hW20, hFr20, trivial⟩
  have k21 := ci_ne rfl z_ti c2
  exact hret 7 _ _ _ _ dX5_readEnd_7 hP hS ⟨hW, hFr, trivial⟩
set_option maxHeartbeats 4000000 in
set_option maxRecDepth 100000 in
theorem c_X5_readNumber (l : Launch) (D : va_G) (cA ad : Nat → Nat) (t : Nat) (hI : rI ad) (F : Nat → va_E) (hW : WT cA ad F) (p1 : Int32) (p2 : Int32) : MI l D cA ad t yX5_readNumber wsX5_readNumber { frames := 1, cells := 0, slots := 0, locals := 22 } [.ref (ad 1), .int p1, .int p2] F (fun r F' => WT cA ad F' ∧ rFr [1] F F' ∧ (p1.toInt ≤ p2.toInt → p1.toInt ≤ r.toInt ∧ r.toInt ≤ p2.toInt)) := by
  refine en_I rfl (by decide +kernel) (Nat.le_of_ble_eq_true rfl) ?_
  intro p e s m args below meth c ls0 Q S hK hZ hP hS hl0 hret
  have hl0 : lv_has ls0 4 [(0, .ref (ad 1)), (1, .int p1), (2, .int p2)] := hl0
  have hFr : rFr [1] F F := rFr.rf
  have hiX5 : ∀ w ∈ u_ws RX5 TX5 6, w ∈ wsX5_readNumber := by decide +kernel
  refine lv_aload_n S.1 S.2.1 dX5_readNumber_0 rfl (lv_at hl0 0 rfl) ?_
  obtain ⟨n1, a1, f1, fa1, nu1, hF1, hn1, ha1⟩ := wt_text hW
  refine r_get S hK hP 1 (by decide) hF1 (C := RX5) (T := TX5) (N := 6) hiX5 rfl 2 (by decide) (by decide +kernel) (v := .int f1) rfl dX5_readNumber_1 ?_
  refine lv_if_eq (tgt := 9) S.1 S.2.1 dX5_readNumber_4 (by decide) (fun c2 => ?_) (fun c2 => ?_)
  · skip
    have k3 := ci_eq rfl z_ti c2
    refine lv_aload_n S.1 S.2.1 dX5_readNumber_9 rfl (lv_at hl0 0 rfl) ?_
    refine r_cVi (As := []) (rest := []) S hK hZ hP hS hl0.1 1 (by decide) hF1 (C := RX5) rfl (c_X5_skipBlanks l D cA ad t hI F hW ) (cwV 0 S.2.2.2.2 gX5_readNumber_X5_skipBlanks rfl rfl rfl (by decide +kernel) ⟨Nat.le_of_ble_eq_true rfl, Nat.le_of_ble_eq_true rfl⟩) rfl rfl (Nat.le_of_ble_eq_true rfl) ⟨Nat.zero_le _, Nat.zero_le _⟩ dX5_readNumber_10 (fun r4 F4 H4 locs4 hr4 hP4 hS4 => ?_)
    obtain ⟨hW4, hFc4, hr4⟩ := hr4
    have hFr4 := hFr.tr hFc4 (by simp <;> first | omega | (simp only [isC, isJ] at *; omega))
    obtain ⟨⟨b5, hb5, rfl⟩, hx5⟩ := hr4
    obtain ⟨n6, a6, f6, fa6, nu6, hF6, hn6, ha6⟩ := wt_text hW4
    have hA7 := fN_of (k := 4) (a := a6) hF6 rfl (by omega)
    have hL7 := fN_of (k := 1) (a := n6) hF6 rfl (by omega)
    have hy5 : b5 ≠ 0 → a6 < n6 := fun q => by have := hx5 (nI_ne0 (by omega) (by omega)); omega
    refine lv_if_eq (tgt := 31) S.1 S.2.1 dX5_readNumber_13 (by decide) (fun c8 => ?_) (fun c8 => ?_)
    · skip
      have k9 := ci_eq (nI_toInt (n := b5) (by omega)) z_ti c8
      refine lv_aload_n S.1 S.2.1 dX5_readNumber_31 rfl (lv_at hl0 0 rfl) ?_
      refine lv_iconst (v := (nI 1)) S.1 S.2.1 dX5_readNumber_32 (by decide +kernel) ?_
      refine lv_aload_n S.1 S.2.1 dX5_readNumber_33 rfl (lv_at hl0 0 rfl) ?_
      refine r_get S hK hP4 1 (by decide) hF6 (C := RX5) (T := TX5) (N := 6) hiX5 rfl 4 (by decide) (by decide +kernel) (v := .int (nI a6)) rfl dX5_readNumber_34 ?_
      refine r_cVv (As := [.int (nI 1), .int (nI a6)]) (rest := []) S hK hZ hP4 hS4 hl0.1 1 (by decide) hF6 (C := RX5) rfl (c_X5_blame l D cA ad t hI F4 hW4 (nI 1) (nI a6)) (cwV 2 S.2.2.2.2 gX5_readNumber_X5_blame rfl rfl rfl (by decide +kernel) ⟨Nat.le_of_ble_eq_true rfl, Nat.le_of_ble_eq_true rfl⟩) rfl rfl (Nat.le_of_ble_eq_true rfl) ⟨Nat.zero_le _, Nat.zero_le _⟩ dX5_readNumber_37 (fun F10 H10 locs10 hr10 hP10 hS10 => ?_)
      obtain ⟨hW10, hFc10, hr10⟩ := hr10
      have hFr10 := hFr4.tr hFc10 (by simp <;> first | omega | (simp only [isC, isJ] at *; omega))
      refine lv_iload_n S.1 S.2.1 dX5_readNumber_40 rfl (lv_at hl0 1 rfl) ?_
      exact hret 41 _ _ _ _ _ dX5_readNumber_41 rfl hP10 hS10 ⟨hW10, hFr10, fun _ => ⟨by omega, by omega⟩⟩
    have k11 := ci_ne (nI_toInt (n := b5) (by omega)) z_ti c8
    refine lv_aload_n S.1 S.2.1 dX5_readNumber_16 rfl (lv_at hl0 0 rfl) ?_
    refine r_get S hK hP4 1 (by decide) hF6 (C := RX5) (T := TX5) (N := 6) hiX5 rfl 0 (by decide) (by decide +kernel) (v := .ref (ad 2)) rfl dX5_readNumber_17 ?_
    refine lv_aload_n S.1 S.2.1 dX5_readNumber_20 rfl (lv_at hl0 0 rfl) ?_
    refine r_get S hK hP4 1 (by decide) hF6 (C := RX5) (T := TX5) (N := 6) hiX5 rfl 4 (by decide) (by decide +kernel) (v := .int (nI a6)) rfl dX5_readNumber_21 ?_
    obtain ⟨g12, hF12⟩ := wt_let hW4
    refine r_cald S hK hP4 2 (by decide) hF12 (vp_in_nI (show a6 < 240 by omega) (by omega)) dX5_readNumber_24 ?_
    refine lv_topi (fun v14 e14 => ?_)
    refine r_cSp (As := [.int v14]) (rest := []) S hK hZ hP4 hS4 hl0.1 (c_X5_isFigure l D cA ad t hI F4 hW4 v14) (va_cwS 1 S.2.2.2.2 gX5_readNumber_X5_isFigure rfl rfl rfl (by decide +kernel) ⟨Nat.le_of_ble_eq_true rfl, Nat.le_of_ble_eq_true rfl⟩) rfl rfl (Nat.le_of_ble_eq_true rfl) ⟨Nat.zero_le _, Nat.zero_le _⟩ dX5_readNumber_25 (fun r15 hr15 => ?_)
    obtain ⟨b16, hb16, rfl⟩ := hr15
    refine lv_if_ne (tgt := 42) S.1 S.2.1 dX5_readNumber_28 (by decide) (fun c17 => ?_) (fun c17 => ?_)
    · skip
      have k18 := ci_ne (nI_toInt (n := b16) (by omega)) z_ti c17
      refine lv_aload_n S.1 S.2.1 dX5_readNumber_42 rfl (lv_at hl0 0 rfl) ?_
      refine lv_aload_n S.1 S.2.1 dX5_readNumber_43 rfl (lv_at hl0 0 rfl) ?_
      refine r_get S hK hP4 1 (by decide) hF6 (C := RX5) (T := TX5) (N := 6) hiX5 rfl 4 (by decide) (by decide +kernel) (v := .int (nI a6)) rfl dX5_readNumber_44 ?_
      refine r_put S hI hK hP4 hS4 1 (by decide) hF6 (C := RX5) (T := TX5) (N := 6) hiX5 tyX5_ok nmX5 rfl 5 (by decide) (by decide +kernel) rfl rfl rfl (Nat.le_of_ble_eq_true rfl) dX5_readNumber_47 (fun F19 H19 locs19 eF19 hP19 hS19 => ?_)
      have hF19 : F19 1 = .inr (5, [.ref (ad 2), .int (nI n6), .int f6, .int fa6, .int (nI a6), .int (nI a6)]) := by rw [eF19]; exact va_up_self _ _ _
      have hW19 := hW4.up eF19 (ok_text ⟨n6, a6, f6, fa6, (nI a6), rfl, by omega, by omega⟩)
      have hFr19 := hFr4.up eF19 (by simp <;> first | omega | (simp only [isC, isJ] at *; omega))
      refine lv_iconst (v := (nI 0)) S.1 S.2.1 dX5_readNumber_50 (by decide +kernel) ?_
      refine lv_istore_n (lv' := [(3, .int (nI 0)), (0, .ref (ad 1)), (1, .int p1), (2, .int p2)]) S.1 S.2.1 dX5_readNumber_51 rfl hl0 (by decide) rfl (fun ls20 hl20 => ?_)
      have lp21 : ∀ (n21 : Nat) (x21_3 : Int32), ∀ (Fl21 : Nat → va_E) (Hl21 : Heap) (lol21 : List Loc), 240 - fN (Fl21 1) 4 < n21 → WT cA ad Fl21 → rFr [1] F Fl21 → va_P D vwCl (rW ad Fl21) Hl21 → va_S (rA ad) s.heap Hl21 lol21 → ∀ (ls : Array Slot), lv_has ls 4 [(3, .int x21_3), (0, .ref (ad 1)), (1, .int p1), (2, .int p2)] → W p l e { frames := 1, cells := 0, slots := 0, locals := 22 } s m args below meth c Hl21 lol21 0 0 Q (F0 m 52 ls []) := by
        intro n21
        induction n21 with
        | zero =>
          intro x21_3 Fl21 Hl21 lol21 hm21 hWl21 hFl21 hPl21 hSl21 ls21 hl21
          exact absurd hm21 (Nat.not_lt_zero _)
        | succ n21 ih21 =>
          intro x21_3 Fl21 Hl21 lol21 hm21 hWl21 hFl21 hPl21 hSl21 ls21 hl21
          obtain ⟨n22, a22, f22, fa22, nu22, hF22, hn22, ha22⟩ := wt_text hWl21
          have hA23 := fN_of (k := 4) (a := a22) hF22 rfl (by omega)
          have hL23 := fN_of (k := 1) (a := n22) hF22 rfl (by omega)
          refine lv_aload_n S.1 S.2.1 dX5_readNumber_52 rfl (lv_at hl21 1 rfl) ?_
          refine r_get S hK hPl21 1 (by decide) hF22 (C := RX5) (T := TX5) (N := 6) hiX5 rfl 4 (by decide) (by decide +kernel) (v := .int (nI a22)) rfl dX5_readNumber_53 ?_
          refine lv_aload_n S.1 S.2.1 dX5_readNumber_56 rfl (lv_at hl21 1 rfl) ?_
          refine r_get S hK hPl21 1 (by decide) hF22 (C := RX5) (T := TX5) (N := 6) hiX5 rfl 1 (by decide) (by decide +kernel) (v := .int (nI n22)) rfl dX5_readNumber_57 ?_
          refine lv_icmp_ge (tgt := 122) S.1 S.2.1 dX5_readNumber_60 (by decide) (fun c24 => ?_) (fun c24 => ?_)
          · skip
            have k25 := ci_le (nI_toInt (n := n22) (by omega)) (nI_toInt (n := a22) (by omega)) c24
            refine lv_aload_n S.1 S.2.1 dX5_readNumber_122 rfl (lv_at hl21 1 rfl) ?_
            refine r_get S hK hPl21 1 (by decide) hF22 (C := RX5) (T := TX5) (N := 6) hiX5 rfl 4 (by decide) (by decide +kernel) (v := .int (nI a22)) rfl dX5_readNumber_123 ?_
            refine lv_aload_n S.1 S.2.1 dX5_readNumber_126 rfl (lv_at hl21 1 rfl) ?_
            refine r_get S hK hPl21 1 (by decide) hF22 (C := RX5) (T := TX5) (N := 6) hiX5 rfl 5 (by decide) (by decide +kernel) (v := .int nu22) rfl dX5_readNumber_127 ?_
            refine lv_isub S.1 S.2.1 dX5_readNumber_130 ?_
            refine lv_topi (fun v26 e26 => ?_)
            refine lv_iconst (v := (nI 4)) S.1 S.2.1 dX5_readNumber_131 (by decide +kernel) ?_
            refine lv_icmp_gt (tgt := 145) S.1 S.2.1 dX5_readNumber_132 (by decide) (fun c27 => ?_) (fun c27 => ?_)
            · skip
              have k28 := ci_lt (nI_toInt (n := 4) (by omega)) rfl c27
              refine lv_aload_n S.1 S.2.1 dX5_readNumber_145 rfl (lv_at hl21 1 rfl) ?_
              refine lv_iconst (v := (nI 2)) S.1 S.2.1 dX5_readNumber_146 (by decide +kernel) ?_
              refine lv_aload_n S.1 S.2.1 dX5_readNumber_147 rfl (lv_at hl21 1 rfl) ?_
              refine r_get S hK hPl21 1 (by decide) hF22 (C := RX5) (T := TX5) (N := 6) hiX5 rfl 5 (by decide) (by decide +kernel) (v := .int nu22) rfl dX5_readNumber_148 ?_
              refine r_cVv (As := [.int (nI 2), .int nu22]) (rest := []) S hK hZ hPl21 hSl21 hl21.1 1 (by decide) hF22 (C := RX5) rfl (c_X5_blame l D cA ad t hI Fl21 hWl21 (nI 2) nu22) (cwV 2 S.2.2.2.2 gX5_readNumber_X5_blame rfl rfl rfl (by decide +kernel) ⟨Nat.le_of_ble_eq_true rfl, Nat.le_of_ble_eq_true rfl⟩) rfl rfl (Nat.le_of_ble_eq_true rfl) ⟨Nat.zero_le _, Nat.zero_le _⟩ dX5_readNumber_151 (fun F29 H29 locs29 hr29 hP29 hS29 => ?_)
              obtain ⟨hW29, hFc29, hr29⟩ := hr29
              have hFr29 := hFl21.tr hFc29 (by simp <;> first | omega | (simp only [isC, isJ] at *; omega))
              refine lv_iload_n S.1 S.2.1 dX5_readNumber_154 rfl (lv_at hl21 2 rfl) ?_
              exact hret 155 _ _ _ _ _ dX5_readNumber_155 rfl hP29 hS29 ⟨hW29, hFr29, fun _ => ⟨by omega, by omega⟩⟩
            have k30 := ci_nlt (nI_toInt (n := 4) (by omega)) rfl c27
            refine lv_iload_n S.1 S.2.1 dX5_readNumber_135 rfl (lv_at hl21 0 rfl) ?_
            refine lv_iload_n S.1 S.2.1 dX5_readNumber_136 rfl (lv_at hl21 2 rfl) ?_
            refine lv_icmp_lt (tgt := 145) S.1 S.2.1 dX5_readNumber_137 (by decide) (fun c31 => ?_) (fun c31 => ?_)
            · skip
              have k32 := ci_lt rfl rfl c31
              refine lv_aload_n S.1 S.2.1 dX5_readNumber_145 rfl (lv_at hl21 1 rfl) ?_
              refine lv_iconst (v := (nI 2)) S.1 S.2.1 dX5_readNumber_146 (by decide +kernel) ?_
              refine lv_aload_n S.1 S.2.1 dX5_readNumber_147 rfl (lv_at hl21 1 rfl) ?_
              refine r_get S hK hPl21 1 (by decide) hF22 (C := RX5) (T := TX5) (N := 6) hiX5 rfl 5 (by decide) (by decide +kernel) (v := .int nu22) rfl dX5_readNumber_148 ?_
              refine r_cVv (As := [.int (nI 2), .int nu22]) (rest := []) S hK hZ hPl21 hSl21 hl21.1 1 (by decide) hF22 (C := RX5) rfl (c_X5_blame l D cA ad t hI Fl21 hWl21 (nI 2) nu22) (cwV 2 S.2.2.2.2 gX5_readNumber_X5_blame rfl rfl rfl (by decide +kernel) ⟨Nat.le_of_ble_eq_true rfl, Nat.le_of_ble_eq_true rfl⟩) rfl rfl (Nat.le_of_ble_eq_true rfl) ⟨Nat.zero_le _, Nat.zero_le _⟩ dX5_readNumber_151 (fun F33 H33 locs33 hr33 hP33 hS33 => ?_)
              obtain ⟨hW33, hFc33, hr33⟩ := hr33
              have hFr33 := hFl21.tr hFc33 (by simp <;> first | omega | (simp only [isC, isJ] at *; omega))
              refine lv_iload_n S.1 S.2.1 dX5_readNumber_154 rfl (lv_at hl21 2 rfl) ?_
              exact hret 155 _ _ _ _ _ dX5_readNumber_155 rfl hP33 hS33 ⟨hW33, hFr33, fun _ => ⟨by omega, by omega⟩⟩
            have k34 := ci_nlt rfl rfl c31
            refine lv_iload_n S.1 S.2.1 dX5_readNumber_140 rfl (lv_at hl21 0 rfl) ?_
            refine lv_iload_n S.1 S.2.1 dX5_readNumber_141 rfl (lv_at hl21 3 rfl) ?_
            refine lv_icmp_le (tgt := 156) S.1 S.2.1 dX5_readNumber_142 (by decide) (fun c35 => ?_) (fun c35 => ?_)
            · skip
              have k36 := ci_le rfl rfl c35
              refine lv_iload_n S.1 S.2.1 dX5_readNumber_156 rfl (lv_at hl21 0 rfl) ?_
              exact hret 157 _ _ _ _ _ dX5_readNumber_157 rfl hPl21 hSl21 ⟨hWl21, hFl21, fun _ => ⟨by omega, by omega⟩⟩
            have k37 := ci_nle rfl rfl c35
            refine lv_aload_n S.1 S.2.1 dX5_readNumber_145 rfl (lv_at hl21 1 rfl) ?_
            refine lv_iconst (v := (nI 2)) S.1 S.2.1 dX5_readNumber_146 (by decide +kernel) ?_
            refine lv_aload_n S.1 S.2.1 dX5_readNumber_147 rfl (lv_at hl21 1 rfl) ?_
            refine r_get S hK hPl21 1 (by decide) hF22 (C := RX5) (T := TX5) (N := 6) hiX5 rfl 5 (by decide) (by decide +kernel) (v := .int nu22) rfl dX5_readNumber_148 ?_
            refine r_cVv (As := [.int (nI 2), .int nu22]) (rest := []) S hK hZ hPl21 hSl21 hl21.1 1 (by decide) hF22 (C := RX5) rfl (c_X5_blame l D cA ad t hI Fl21 hWl21 (nI 2) nu22) (cwV 2 S.2.2.2.2 gX5_readNumber_X5_blame rfl rfl rfl (by decide +kernel) ⟨Nat.le_of_ble_eq_true rfl, Nat.le_of_ble_eq_true rfl⟩) rfl rfl (Nat.le_of_ble_eq_true rfl) ⟨Nat.zero_le _, Nat.zero_le _⟩ dX5_readNumber_151 (fun F38 H38 locs38 hr38 hP38 hS38 => ?_)
            obtain ⟨hW38, hFc38, hr38⟩ := hr38
            have hFr38 := hFl21.tr hFc38 (by simp <;> first | omega | (simp only [isC, isJ] at *; omega))
            refine lv_iload_n S.1 S.2.1 dX5_readNumber_154 rfl (lv_at hl21 2 rfl) ?_
            exact hret 155 _ _ _ _ _ dX5_readNumber_155 rfl hP38 hS38 ⟨hW38, hFr38, fun _ => ⟨by omega, by omega⟩⟩
          have k39 := ci_nle (nI_toInt (n := n22) (by omega)) (nI_toInt (n := a22) (by omega)) c24
          refine lv_aload_n S.1 S.2.1 dX5_readNumber_63 rfl (lv_at hl21 1 rfl) ?_
          refine r_get S hK hPl21 1 (by decide) hF22 (C := RX5) (T := TX5) (N := 6) hiX5 rfl 0 (by decide) (by decide +kernel) (v := .ref (ad 2)) rfl dX5_readNumber_64 ?_
          refine lv_aload_n S.1 S.2.1 dX5_readNumber_67 rfl (lv_at hl21 1 rfl) ?_
          refine r_get S hK hPl21 1 (by decide) hF22 (C := RX5) (T := TX5) (N := 6) hiX5 rfl 4 (by decide) (by decide +kernel) (v := .int (nI a22)) rfl dX5_readNumber_68 ?_
          obtain ⟨g40, hF40⟩ := wt_let hWl21
          refine r_cald S hK hPl21 2 (by decide) hF40 (vp_in_nI (show a22 < 240 by omega) (by omega)) dX5_readNumber_71 ?_
          refine lv_topi (fun v42 e42 => ?_)
          refine r_cSp (As := [.int v42]) (rest := []) S hK hZ hPl21 hSl21 hl21.1 (c_X5_isFigure l D cA ad t hI Fl21 hWl21 v42) (va_cwS 1 S.2.2.2.2 gX5_readNumber_X5_isFigure rfl rfl rfl (by decide +kernel) ⟨Nat.le_of_ble_eq_true rfl, Nat.le_of_ble_eq_true rfl⟩) rfl rfl (Nat.le_of_ble_eq_true rfl) ⟨Nat.zero_le _, Nat.zero_le _⟩ dX5_readNumber_72 (fun r43 hr43 => ?_)
          obtain ⟨b44, hb44, rfl⟩ := hr43
          refine lv_if_eq (tgt := 122) S.1 S.2.1 dX5_readNumber_75 (by decide) (fun c45 => ?_) (fun c45 => ?_)
          · skip
            have k46 := ci_eq (nI_toInt (n := b44) (by omega)) z_ti c45
            refine lv_aload_n S.1 S.2.1 dX5_readNumber_122 rfl (lv_at hl21 1 rfl) ?_
            refine r_get S hK hPl21 1 (by decide) hF22 (C := RX5) (T := TX5) (N := 6) hiX5 rfl 4 (by decide) (by decide +kernel) (v := .int (nI a22)) rfl dX5_readNumber_123 ?_
            refine lv_aload_n S.1 S.2.1 dX5_readNumber_126 rfl (lv_at hl21 1 rfl) ?_
            refine r_get S hK hPl21 1 (by decide) hF22 (C := RX5) (T := TX5) (N := 6) hiX5 rfl 5 (by decide) (by decide +kernel) (v := .int nu22) rfl dX5_readNumber_127 ?_
            refine lv_isub S.1 S.2.1 dX5_readNumber_130 ?_
            refine lv_topi (fun v47 e47 => ?_)
            refine lv_iconst (v := (nI 4)) S.1 S.2.1 dX5_readNumber_131 (by decide +kernel) ?_
            refine lv_icmp_gt (tgt := 145) S.1 S.2.1 dX5_readNumber_132 (by decide) (fun c48 => ?_) (fun c48 => ?_)
            · skip
              have k49 := ci_lt (nI_toInt (n := 4) (by omega)) rfl c48
              refine lv_aload_n S.1 S.2.1 dX5_readNumber_145 rfl (lv_at hl21 1 rfl) ?_
              refine lv_iconst (v := (nI 2)) S.1 S.2.1 dX5_readNumber_146 (by decide +kernel) ?_
              refine lv_aload_n S.1 S.2.1 dX5_readNumber_147 rfl (lv_at hl21 1 rfl) ?_
              refine r_get S hK hPl21 1 (by decide) hF22 (C := RX5) (T := TX5) (N := 6) hiX5 rfl 5 (by decide) (by decide +kernel) (v := .int nu22) rfl dX5_readNumber_148 ?_
              refine r_cVv (As := [.int (nI 2), .int nu22]) (rest := []) S hK hZ hPl21 hSl21 hl21.1 1 (by decide) hF22 (C := RX5) rfl (c_X5_blame l D cA ad t hI Fl21 hWl21 (nI 2) nu22) (cwV 2 S.2.2.2.2 gX5_readNumber_X5_blame rfl rfl rfl (by decide +kernel) ⟨Nat.le_of_ble_eq_true rfl, Nat.le_of_ble_eq_true rfl⟩) rfl rfl (Nat.le_of_ble_eq_true rfl) ⟨Nat.zero_le _, Nat.zero_le _⟩ dX5_readNumber_151 (fun F50 H50 locs50 hr50 hP50 hS50 => ?_)
              obtain ⟨hW50, hFc50, hr50⟩ := hr50
              have hFr50 := hFl21.tr hFc50 (by simp <;> first | omega | (simp only [isC, isJ] at *; omega))
              refine lv_iload_n S.1 S.2.1 dX5_readNumber_154 rfl (lv_at hl21 2 rfl) ?_
              exact hret 155 _ _ _ _ _ dX5_readNumber_155 rfl hP50 hS50 ⟨hW50, hFr50, fun _ => ⟨by omega, by omega⟩⟩
            have k51 := ci_nlt (nI_toInt (n := 4) (by omega)) rfl c48
            refine lv_iload_n S.1 S.2.1 dX5_readNumber_135 rfl (lv_at hl21 0 rfl) ?_
            refine lv_iload_n S.1 S.2.1 dX5_readNumber_136 rfl (lv_at hl21 2 rfl) ?_
            refine lv_icmp_lt (tgt := 145) S.1 S.2.1 dX5_readNumber_137 (by decide) (fun c52 => ?_) (fun c52 => ?_)
            · skip
              have k53 := ci_lt rfl rfl c52
              refine lv_aload_n S.1 S.2.1 dX5_readNumber_145 rfl (lv_at hl21 1 rfl) ?_
              refine lv_iconst (v := (nI 2)) S.1 S.2.1 dX5_readNumber_146 (by decide +kernel) ?_
              refine lv_aload_n S.1 S.2.1 dX5_readNumber_147 rfl (lv_at hl21 1 rfl) ?_
              refine r_get S hK hPl21 1 (by decide) hF22 (C := RX5) (T := TX5) (N := 6) hiX5 rfl 5 (by decide) (by decide +kernel) (v := .int nu22) rfl dX5_readNumber_148 ?_
              refine r_cVv (As := [.int (nI 2), .int nu22]) (rest := []) S hK hZ hPl21 hSl21 hl21.1 1 (by decide) hF22 (C := RX5) rfl (c_X5_blame l D cA ad t hI Fl21 hWl21 (nI 2) nu22) (cwV 2 S.2.2.2.2 gX5_readNumber_X5_blame rfl rfl rfl (by decide +kernel) ⟨Nat.le_of_ble_eq_true rfl, Nat.le_of_ble_eq_true rfl⟩) rfl rfl (Nat.le_of_ble_eq_true rfl) ⟨Nat.zero_le _, Nat.zero_le _⟩ dX5_readNumber_151 (fun F54 H54 locs54 hr54 hP54 hS54 => ?_)
              obtain ⟨hW54, hFc54, hr54⟩ := hr54
              have hFr54 := hFl21.tr hFc54 (by simp <;> first | omega | (simp only [isC, isJ] at *; omega))
              refine lv_iload_n S.1 S.2.1 dX5_readNumber_154 rfl (lv_at hl21 2 rfl) ?_
              exact hret 155 _ _ _ _ _ dX5_readNumber_155 rfl hP54 hS54 ⟨hW54, hFr54, fun _ => ⟨by omega, by omega⟩⟩
            have k55 := ci_nlt rfl rfl c52
            refine lv_iload_n S.1 S.2.1 dX5_readNumber_140 rfl (lv_at hl21 0 rfl) ?_
            refine lv_iload_n S.1 S.2.1 dX5_readNumber_141 rfl (lv_at hl21 3 rfl) ?_
            refine lv_icmp_le (tgt := 156) S.1 S.2.1 dX5_readNumber_142 (by decide) (fun c56 => ?_) (fun c56 => ?_)
            · skip
              have k57 := ci_le rfl rfl c56
              refine lv_iload_n S.1 S.2.1 dX5_readNumber_156 rfl (lv_at hl21 0 rfl) ?_
              exact hret 157 _ _ _ _ _ dX5_readNumber_157 rfl hPl21 hSl21 ⟨hWl21, hFl21, fun _ => ⟨by omega, by omega⟩⟩
            have k58 := ci_nle rfl rfl c56
            refine lv_aload_n S.1 S.2.1 dX5_readNumber_145 rfl (lv_at hl21 1 rfl) ?_
            refine lv_iconst (v := (nI 2)) S.1 S.2.1 dX5_readNumber_146 (by decide +kernel) ?_
            refine lv_aload_n S.1 S.2.1 dX5_readNumber_147 rfl (lv_at hl21 1 rfl) ?_
            refine r_get S hK hPl21 1 (by decide) hF22 (C := RX5) (T := TX5) (N := 6) hiX5 rfl 5 (by decide) (by decide +kernel) (v := .int nu22) rfl dX5_readNumber_148 ?_
            refine r_cVv (As := [.int (nI 2), .int nu22]) (rest := []) S hK hZ hPl21 hSl21 hl21.1 1 (by decide) hF22 (C := RX5) rfl (c_X5_blame l D cA ad t hI Fl21 hWl21 (nI 2) nu22) (cwV 2 S.2.2.2.2 gX5_readNumber_X5_blame rfl rfl rfl (by decide +kernel) ⟨Nat.le_of_ble_eq_true rfl, Nat.le_of_ble_eq_true rfl⟩) rfl rfl (Nat.le_of_ble_eq_true rfl) ⟨Nat.zero_le _, Nat.zero_le _⟩ dX5_readNumber_151 (fun F59 H59 locs59 hr59 hP59 hS59 => ?_)
            obtain ⟨hW59, hFc59, hr59⟩ := hr59
            have hFr59 := hFl21.tr hFc59 (by simp <;> first | omega | (simp only [isC, isJ] at *; omega))
            refine lv_iload_n S.1 S.2.1 dX5_readNumber_154 rfl (lv_at hl21 2 rfl) ?_
            exact hret 155 _ _ _ _ _ dX5_readNumber_155 rfl hP59 hS59 ⟨hW59, hFr59, fun _ => ⟨by omega, by omega⟩⟩
          have k60 := ci_ne (nI_toInt (n := b44) (by omega)) z_ti c45
          refine lv_aload_n S.1 S.2.1 dX5_readNumber_78 rfl (lv_at hl21 1 rfl) ?_
          refine r_get S hK hPl21 1 (by decide) hF22 (C := RX5) (T := TX5) (N := 6) hiX5 rfl 4 (by decide) (by decide +kernel) (v := .int (nI a22)) rfl dX5_readNumber_79 ?_
          refine lv_aload_n S.1 S.2.1 dX5_readNumber_82 rfl (lv_at hl21 1 rfl) ?_
          refine r_get S hK hPl21 1 (by decide) hF22 (C := RX5) (T := TX5) (N := 6) hiX5 rfl 5 (by decide) (by decide +kernel) (v := .int nu22) rfl dX5_readNumber_83 ?_
          refine lv_isub S.1 S.2.1 dX5_readNumber_86 ?_
          refine lv_topi (fun v61 e61 => ?_)
          refine lv_iconst (v := (nI 4)) S.1 S.2.1 dX5_readNumber_87 (by decide +kernel) ?_
          refine lv_icmp_ge (tgt := 109) S.1 S.2.1 dX5_readNumber_88 (by decide) (fun c62 => ?_) (fun c62 => ?_)
          · skip
            have k63 := ci_le (nI_toInt (n := 4) (by omega)) rfl c62
            refine lv_aload_n S.1 S.2.1 dX5_readNumber_109 rfl (lv_at hl21 1 rfl) ?_
            refine lv_dup S.1 S.2.1 dX5_readNumber_110 rfl ?_
            refine r_get S hK hPl21 1 (by decide) hF22 (C := RX5) (T := TX5) (N := 6) hiX5 rfl 4 (by decide) (by decide +kernel) (v := .int (nI a22)) rfl dX5_readNumber_111 ?_
            refine lv_iconst (v := (nI 1)) S.1 S.2.1 dX5_readNumber_114 (by decide +kernel) ?_
            refine lv_iadd S.1 S.2.1 dX5_readNumber_115 ?_
            refine lv_topi (fun v64 e64 => ?_)
            obtain rfl : v64 = nI (a22 + 1) := e64.trans (nI_add _ _)
            refine r_put S hI hK hPl21 hSl21 1 (by decide) hF22 (C := RX5) (T := TX5) (N := 6) hiX5 tyX5_ok nmX5 rfl 4 (by decide) (by decide +kernel) rfl rfl rfl (Nat.le_of_ble_eq_true rfl) dX5_readNumber_116 (fun F65 H65 locs65 eF65 hP65 hS65 => ?_)
            have hF65 : F65 1 = .inr (5, [.ref (ad 2), .int (nI n22), .int f22, .int fa22, .int (nI (a22 + 1)), .int nu22]) := by rw [eF65]; exact va_up_self _ _ _
            have hW65 := hWl21.up eF65 (ok_text ⟨n22, a22 + 1, f22, fa22, nu22, rfl, by omega, by omega⟩)
            have hFr65 := hFl21.up eF65 (by simp <;> first | omega | (simp only [isC, isJ] at *; omega))
            refine lv_goto (tgt := 52) S.1 S.2.1 dX5_readNumber_119 (by decide) ?_
            have hA66 := fN_of (k := 4) (a := a22 + 1) hF65 rfl (by omega)
            have hL66 := fN_of (k := 1) (a := n22) hF65 rfl (by omega)
            exact ih21 (x21_3) F65 H65 locs65 (by omega) hW65 hFr65 hP65 hS65 ls21 (lv_sub hl21 [0, 1, 2, 3] rfl)
          have k67 := ci_nle (nI_toInt (n := 4) (by omega)) rfl c62
          refine lv_iload_n S.1 S.2.1 dX5_readNumber_91 rfl (lv_at hl21 0 rfl) ?_
          refine lv_bipush (v := (nI 10)) S.1 S.2.1 dX5_readNumber_92 (by decide +kernel) ?_
          refine lv_imul S.1 S.2.1 dX5_readNumber_94 ?_
          refine lv_topi (fun v68 e68 => ?_)
          refine lv_aload_n S.1 S.2.1 dX5_readNumber_95 rfl (lv_at hl21 1 rfl) ?_
          refine r_get S hK hPl21 1 (by decide) hF22 (C := RX5) (T := TX5) (N := 6) hiX5 rfl 0 (by decide) (by decide +kernel) (v := .ref (ad 2)) rfl dX5_readNumber_96 ?_
          refine lv_aload_n S.1 S.2.1 dX5_readNumber_99 rfl (lv_at hl21 1 rfl) ?_
          refine r_get S hK hPl21 1 (by decide) hF22 (C := RX5) (T := TX5) (N := 6) hiX5 rfl 4 (by decide) (by decide +kernel) (v := .int (nI a22)) rfl dX5_readNumber_100 ?_
          refine r_cald S hK hPl21 2 (by decide) hF40 (vp_in_nI (show a22 < 240 by omega) (by omega)) dX5_readNumber_103 ?_
          refine lv_topi (fun v70 e70 => ?_)
          refine lv_iadd S.1 S.2.1 dX5_readNumber_104 ?_
          refine lv_topi (fun v71 e71 => ?_)
          refine lv_bipush (v := (nI 48)) S.1 S.2.1 dX5_readNumber_105 (by decide +kernel) ?_
          refine lv_isub S.1 S.2.1 dX5_readNumber_107 ?_
          refine lv_topi (fun v72 e72 => ?_)
          refine lv_istore_n (lv' := [(3, .int v72), (0, .ref (ad 1)), (1, .int p1), (2, .int p2)]) S.1 S.2.1 dX5_readNumber_108 rfl hl21 (by decide) rfl (fun ls73 hl73 => ?_)
          refine lv_aload_n S.1 S.2.1 dX5_readNumber_109 rfl (lv_at hl73 1 rfl) ?_
          refine lv_dup S.1 S.2.1 dX5_readNumber_110 rfl ?_
          refine r_get S hK hPl21 1 (by decide) hF22 (C := RX5) (T := TX5) (N := 6) hiX5 rfl 4 (by decide) (by decide +kernel) (v := .int (nI a22)) rfl dX5_readNumber_111 ?_
          refine lv_iconst (v := (nI 1)) S.1 S.2.1 dX5_readNumber_114 (by decide +kernel) ?_
          refine lv_iadd S.1 S.2.1 dX5_readNumber_115 ?_
          refine lv_topi (fun v74 e74 => ?_)
          obtain rfl : v74 = nI (a22 + 1) := e74.trans (nI_add _ _)
          refine r_put S hI hK hPl21 hSl21 1 (by decide) hF22 (C := RX5) (T := TX5) (N := 6) hiX5 tyX5_ok nmX5 rfl 4 (by decide) (by decide +kernel) rfl rfl rfl (Nat.le_of_ble_eq_true rfl) dX5_readNumber_116 (fun F75 H75 locs75 eF75 hP75 hS75 => ?_)
          have hF75 : F75 1 = .inr (5, [.ref (ad 2), .int (nI n22), .int f22, .int fa22, .int (nI (a22 + 1)), .int nu22]) := by rw [eF75]; exact va_up_self _ _ _
          have hW75 := hWl21.up eF75 (ok_text ⟨n22, a22 + 1, f22, fa22, nu22, rfl, by omega, by omega⟩)
          have hFr75 := hFl21.up eF75 (by simp <;> first | omega | (simp only [isC, isJ] at *; omega))
          refine lv_goto (tgt := 52) S.1 S.2.1 dX5_readNumber_119 (by decide) ?_
          have hA76 := fN_of (k := 4) (a := a22 + 1) hF75 rfl (by omega)
          have hL76 := fN_of (k := 1) (a := n22) hF75 rfl (by omega)
          exact ih21 (v72) F75 H75 locs75 (by omega) hW75 hFr75 hP75 hS75 ls73 (lv_sub hl73 [0, 1, 2, 3] rfl)
      exact lp21 (240 - fN (F19 1) 4 + 1) ((nI 0)) F19 H19 locs19 (by omega) hW19 hFr19 hP19 hS19 ls20 (lv_sub hl20 [0, 1, 2, 3] rfl)
    have k77 := ci_eq (nI_toInt (n := b16) (by omega)) z_ti c17
    refine lv_aload_n S.1 S.2.1 dX5_readNumber_31 rfl (lv_at hl0 0 rfl) ?_
    refine lv_iconst (v := (nI 1)) S.1 S.2.1 dX5_readNumber_32 (by decide +kernel) ?_
    refine lv_aload_n S.1 S.2.1 dX5_readNumber_33 rfl (lv_at hl0 0 rfl) ?_
    refine r_get S hK hP4 1 (by decide) hF6 (C := RX5) (T := TX5) (N := 6) hiX5 rfl 4 (by decide) (by decide +kernel) (v := .int (nI a6)) rfl dX5_readNumber_34 ?_
    refine r_cVv (As := [.int (nI 1), .int (nI a6)]) (rest := []) S hK hZ hP4 hS4 hl0.1 1 (by decide) hF6 (C := RX5) rfl (c_X5_blame l D cA ad t hI F4 hW4 (nI 1) (nI a6)) (cwV 2 S.2.2.2.2 gX5_readNumber_X5_blame rfl rfl rfl (by decide +kernel) ⟨Nat.le_of_ble_eq_true rfl, Nat.le_of_ble_eq_true rfl⟩) rfl rfl (Nat.le_of_ble_eq_true rfl) ⟨Nat.zero_le _, Nat.zero_le _⟩ dX5_readNumber_37 (fun F78 H78 locs78 hr78 hP78 hS78 => ?_)
    obtain ⟨hW78, hFc78, hr78⟩ := hr78
    have hFr78 := hFr4.tr hFc78 (by simp <;> first | omega | (simp only [isC, isJ] at *; omega))
    refine lv_iload_n S.1 S.2.1 dX5_readNumber_40 rfl (lv_at hl0 1 rfl) ?_
    exact hret 41 _ _ _ _ _ dX5_readNumber_41 rfl hP78 hS78 ⟨hW78, hFr78, fun _ => ⟨by omega, by omega⟩⟩
  have k79 := ci_ne rfl z_ti c2
  refine lv_iload_n S.1 S.2.1 dX5_readNumber_7 rfl (lv_at hl0 1 rfl) ?_
  exact hret 8 _ _ _ _ _ dX5_readNumber_8 rfl hP hS ⟨hW, hFr, fun _ => ⟨by omega, by omega⟩⟩
set_option maxHeartbeats 4000000 in
set_option maxRecDepth 100000 in
theorem c_X5_readLimits (l : Launch) (D : va_G) (cA ad : Nat → Nat) (t : Nat) (hI : rI ad) (F : Nat → va_E) (hW : WT cA ad F) (rc : Nat) (hrc : isC rc) : MV l D cA ad t yX5_readLimits wsX5_readLimits { frames := 2, cells := 0, slots := 0, locals := 45 } [.ref (ad 1), .ref (ad rc)] F (fun F' => WT cA ad F' ∧ rFr [1, rc] F F' ∧ (True)) := by
  refine en_V rfl (by decide +kernel) (Nat.le_of_ble_eq_true rfl) ?_
  intro p e s m args below meth c ls0 Q S hK hZ hP hS hl0 hret
  have hl0 : lv_has ls0 4 [(0, .ref (ad 1)), (1, .ref (ad rc))] := hl0
  have hFr : rFr [1, rc] F F := rFr.rf
  have hiX0 : ∀ w ∈ u_ws RX0 TX0 10, w ∈ wsX5_readLimits := by decide +kernel
  refine lv_aload_n S.1 S.2.1 dX5_readLimits_0 rfl (lv_at hl0 0 rfl) ?_
  refine lv_iconst (v := (nI 1)) S.1 S.2.1 dX5_readLimits_1 (by decide +kernel) ?_
  refine lv_iconst (v := (nI 4)) S.1 S.2.1 dX5_readLimits_2 (by decide +kernel) ?_
  obtain ⟨n2, a2, f2, fa2, nu2, hF2, hn2, ha2⟩ := wt_text hW
  refine r_cVi (As := [.int (nI 1), .int (nI 4)]) (rest := []) S hK hZ hP hS hl0.1 1 (by decide) hF2 (C := RX5) rfl (c_X5_readNumber l D cA ad t hI F hW (nI 1) (nI 4)) (cwV 2 S.2.2.2.2 gX5_readLimits_X5_readNumber rfl rfl rfl (by decide +kernel) ⟨Nat.le_of_ble_eq_true rfl, Nat.le_of_ble_eq_true rfl⟩) rfl rfl (Nat.le_of_ble_eq_true rfl) ⟨Nat.zero_le _, Nat.zero_le _⟩ dX5_readLimits_3 (fun r1 F1 H1 locs1 hr1 hP1 hS1 => ?_)
  obtain ⟨hW1, hFc1, hr1⟩ := hr1
  have hFr1 := hFr.tr hFc1 (by simp <;> first | omega | (simp only [isC, isJ] at *; omega))
  have hq3 : 1 ≤ r1.toInt ∧ r1.toInt ≤ 4 := by have h1 := nI_toInt (n := 1) (by omega); have h2 := nI_toInt (n := 4) (by omega); have h3 := hr1 (by omega); omega
  refine lv_istore_n (lv' := [(2, .int r1), (0, .ref (ad 1)), (1, .ref (ad rc))]) S.1 S.2.1 dX5_readLimits_6 rfl hl0 (by decide) rfl (fun ls4 hl4 => ?_)
  refine lv_aload_n S.1 S.2.1 dX5_readLimits_7 rfl (lv_at hl4 1 rfl) ?_
  refine lv_iconst (v := (nI 0)) S.1 S.2.1 dX5_readLimits_8 (by decide +kernel) ?_
  refine lv_bipush (v := (nI 11)) S.1 S.2.1 dX5_readLimits_9 (by decide +kernel) ?_
  obtain ⟨n6, a6, f6, fa6, nu6, hF6, hn6, ha6⟩ := wt_text hW1
  refine r_cVi (As := [.int (nI 0), .int (nI 11)]) (rest := []) S hK hZ hP1 hS1 hl4.1 1 (by decide) hF6 (C := RX5) rfl (c_X5_readNumber l D cA ad t hI F1 hW1 (nI 0) (nI 11)) (cwV 2 S.2.2.2.2 gX5_readLimits_X5_readNumber rfl rfl rfl (by decide +kernel) ⟨Nat.le_of_ble_eq_true rfl, Nat.le_of_ble_eq_true rfl⟩) rfl rfl (Nat.le_of_ble_eq_true rfl) ⟨Nat.zero_le _, Nat.zero_le _⟩ dX5_readLimits_11 (fun r5 F5 H5 locs5 hr5 hP5 hS5 => ?_)
  obtain ⟨hW5, hFc5, hr5⟩ := hr5
  have hFr5 := hFr1.tr hFc5 (by simp <;> first | omega | (simp only [isC, isJ] at *; omega))
  have hq7 : 0 ≤ r5.toInt ∧ r5.toInt ≤ 11 := by have h1 := nI_toInt (n := 0) (by omega); have h2 := nI_toInt (n := 11) (by omega); have h3 := hr5 (by omega); omega
  refine lv_istore_n (lv' := [(3, .int r5), (2, .int r1), (0, .ref (ad 1)), (1, .ref (ad rc))]) S.1 S.2.1 dX5_readLimits_14 rfl hl4 (by decide) rfl (fun ls8 hl8 => ?_)
  refine lv_aload_n S.1 S.2.1 dX5_readLimits_15 rfl (lv_at hl8 2 rfl) ?_
  obtain ⟨n10, a10, f10, fa10, nu10, hF10, hn10, ha10⟩ := wt_text hW5
  refine r_cVv (As := []) (rest := []) S hK hZ hP5 hS5 hl8.1 1 (by decide) hF10 (C := RX5) rfl (c_X5_readEnd l D cA ad t hI F5 hW5 ) (cwV 0 S.2.2.2.2 gX5_readLimits_X5_readEnd rfl rfl rfl (by decide +kernel) ⟨Nat.le_of_ble_eq_true rfl, Nat.le_of_ble_eq_true rfl⟩) rfl rfl (Nat.le_of_ble_eq_true rfl) ⟨Nat.zero_le _, Nat.zero_le _⟩ dX5_readLimits_16 (fun F9 H9 locs9 hr9 hP9 hS9 => ?_)
  obtain ⟨hW9, hFc9, hr9⟩ := hr9
  have hFr9 := hFr5.tr hFc9 (by simp <;> first | omega | (simp only [isC, isJ] at *; omega))
  refine lv_aload_n S.1 S.2.1 dX5_readLimits_19 rfl (lv_at hl8 3 rfl) ?_
  refine lv_iload_n S.1 S.2.1 dX5_readLimits_20 rfl (lv_at hl8 1 rfl) ?_
  obtain ⟨sl11, fm11, tn11, rn11, bn11, hF11, hb11_1, hb11_2, hb11_3⟩ := wt_C hW9 hrc
  obtain ⟨j12, hj12, rfl⟩ := nI_of_le (x := r1) (B := 4) (by omega) (by omega)
  have kj12 := nI_toInt (n := j12) (by omega)
  refine r_put S hI hK hP9 hS9 rc (lt_C hrc) hF11 (C := RX0) (T := TX0) (N := 10) hiX0 tyX0_ok nmX0 rfl 0 (by decide) (by decide +kernel) rfl rfl rfl (Nat.le_of_ble_eq_true rfl) dX5_readLimits_21 (fun F13 H13 locs13 eF13 hP13 hS13 => ?_)
  have hF13 : F13 rc = .inr (0, [.int (nI j12), .int fm11, .int (nI tn11), .int (nI rn11), .int bn11, .ref (ad (rc + 1)), .ref (ad (rc + 2)), .ref (ad (rc + 3)), .ref (ad (rc + 4)), .ref (ad (rc + 5))]) := by rw [eF13]; exact va_up_self _ _ _
  have hW13 := hW9.up eF13 (ok_C hrc ⟨j12, fm11, tn11, rn11, bn11, rfl, by omega, by omega, by omega⟩)
  have hFr13 := hFr9.up eF13 (by simp <;> first | omega | (simp only [isC, isJ] at *; omega))
  refine lv_aload_n S.1 S.2.1 dX5_readLimits_24 rfl (lv_at hl8 3 rfl) ?_
  refine lv_iload_n S.1 S.2.1 dX5_readLimits_25 rfl (lv_at hl8 0 rfl) ?_
  refine r_put S hI hK hP13 hS13 rc (lt_C hrc) hF13 (C := RX0) (T := TX0) (N := 10) hiX0 tyX0_ok nmX0 rfl 1 (by decide) (by decide +kernel) rfl rfl rfl (Nat.le_of_ble_eq_true rfl) dX5_readLimits_26 (fun F14 H14 locs14 eF14 hP14 hS14 => ?_)
  have hF14 : F14 rc = .inr (0, [.int (nI j12), .int r5, .int (nI tn11), .int (nI rn11), .int bn11, .ref (ad (rc + 1)), .ref (ad (rc + 2)), .ref (ad (rc + 3)), .ref (ad (rc + 4)), .ref (ad (rc + 5))]) := by rw [eF14]; exact va_up_self _ _ _
  have hW14 := hW13.up eF14 (ok_C hrc ⟨j12, r5, tn11, rn11, bn11, rfl, by omega, by omega, by omega⟩)
  have hFr14 := hFr13.up eF14 (by simp <;> first | omega | (simp only [isC, isJ] at *; omega))
  exact hret 29 _ _ _ _ dX5_readLimits_29 hP14 hS14 ⟨hW14, hFr14, trivial⟩
set_option maxHeartbeats 4000000 in
set_option maxRecDepth 100000 in
theorem c_X5_readTown (l : Launch) (D : va_G) (cA ad : Nat → Nat) (t : Nat) (hI : rI ad) (F : Nat → va_E) (hW : WT cA ad F) (rc : Nat) (hrc : isC rc) : MV l D cA ad t yX5_readTown wsX5_readTown { frames := 2, cells := 0, slots := 0, locals := 45 } [.ref (ad 1), .ref (ad rc)] F (fun F' => WT cA ad F' ∧ rFr [1, rc, rc + 1, rc + 2, rc + 3] F F' ∧ (True)) := by
  refine en_V rfl (by decide +kernel) (Nat.le_of_ble_eq_true rfl) ?_
  intro p e s m args below meth c ls0 Q S hK hZ hP hS hl0 hret
  have hl0 : lv_has ls0 5 [(0, .ref (ad 1)), (1, .ref (ad rc))] := hl0
  have hFr : rFr [1, rc, rc + 1, rc + 2, rc + 3] F F := rFr.rf
  refine lv_aload_n S.1 S.2.1 dX5_readTown_0 rfl (lv_at hl0 0 rfl) ?_
  refine lv_iconst (v := (nI 0)) S.1 S.2.1 dX5_readTown_1 (by decide +kernel) ?_
  refine lv_sipush (v := (nI 999)) S.1 S.2.1 dX5_readTown_2 (by decide +kernel) ?_
  obtain ⟨n2, a2, f2, fa2, nu2, hF2, hn2, ha2⟩ := wt_text hW
  refine r_cVi (As := [.int (nI 0), .int (nI 999)]) (rest := []) S hK hZ hP hS hl0.1 1 (by decide) hF2 (C := RX5) rfl (c_X5_readNumber l D cA ad t hI F hW (nI 0) (nI 999)) (cwV 2 S.2.2.2.2 gX5_readTown_X5_readNumber rfl rfl rfl (by decide +kernel) ⟨Nat.le_of_ble_eq_true rfl, Nat.le_of_ble_eq_true rfl⟩) rfl rfl (Nat.le_of_ble_eq_true rfl) ⟨Nat.zero_le _, Nat.zero_le _⟩ dX5_readTown_5 (fun r1 F1 H1 locs1 hr1 hP1 hS1 => ?_)
  obtain ⟨hW1, hFc1, hr1⟩ := hr1
  have hFr1 := hFr.tr hFc1 (by simp <;> first | omega | (simp only [isC, isJ] at *; omega))
  have hq3 : 0 ≤ r1.toInt ∧ r1.toInt ≤ 999 := by have h1 := nI_toInt (n := 0) (by omega); have h2 := nI_toInt (n := 999) (by omega); have h3 := hr1 (by omega); omega
  refine lv_istore_n (lv' := [(2, .int r1), (0, .ref (ad 1)), (1, .ref (ad rc))]) S.1 S.2.1 dX5_readTown_8 rfl hl0 (by decide) rfl (fun ls4 hl4 => ?_)
  refine lv_aload_n S.1 S.2.1 dX5_readTown_9 rfl (lv_at hl4 1 rfl) ?_
  refine lv_iconst (v := (nI 0)) S.1 S.2.1 dX5_readTown_10 (by decide +kernel) ?_
  refine lv_sipush (v := (nI 4095)) S.1 S.2.1 dX5_readTown_11 (by decide +kernel) ?_
  obtain ⟨n6, a6, f6, fa6, nu6, hF6, hn6, ha6⟩ := wt_text hW1
  refine r_cVi (As := [.int (nI 0), .int (nI 4095)]) (rest := []) S hK hZ hP1 hS1 hl4.1 1 (by decide) hF6 (C := RX5) rfl (c_X5_readNumber l D cA ad t hI F1 hW1 (nI 0) (nI 4095)) (cwV 2 S.2.2.2.2 gX5_readTown_X5_readNumber rfl rfl rfl (by decide +kernel) ⟨Nat.le_of_ble_eq_true rfl, Nat.le_of_ble_eq_true rfl⟩) rfl rfl (Nat.le_of_ble_eq_true rfl) ⟨Nat.zero_le _, Nat.zero_le _⟩ dX5_readTown_14 (fun r5 F5 H5 locs5 hr5 hP5 hS5 => ?_)
  obtain ⟨hW5, hFc5, hr5⟩ := hr5
  have hFr5 := hFr1.tr hFc5 (by simp <;> first | omega | (simp only [isC, isJ] at *; omega))
  have hq7 : 0 ≤ r5.toInt ∧ r5.toInt ≤ 4095 := by have h1 := nI_toInt (n := 0) (by omega); have h2 := nI_toInt (n := 4095) (by omega); have h3 := hr5 (by omega); omega
  refine lv_istore_n (lv' := [(3, .int r5), (2, .int r1), (0, .ref (ad 1)), (1, .ref (ad rc))]) S.1 S.2.1 dX5_readTown_17 rfl hl4 (by decide) rfl (fun ls8 hl8 => ?_)
  refine lv_aload_n S.1 S.2.1 dX5_readTown_18 rfl (lv_at hl8 2 rfl) ?_
  refine lv_iconst (v := (nI 0)) S.1 S.2.1 dX5_readTown_19 (by decide +kernel) ?_
  refine lv_bipush (v := (nI 20)) S.1 S.2.1 dX5_readTown_20 (by decide +kernel) ?_
  obtain ⟨n10, a10, f10, fa10, nu10, hF10, hn10, ha10⟩ := wt_text hW5
  refine r_cVi (As := [.int (nI 0), .int (nI 20)]) (rest := []) S hK hZ hP5 hS5 hl8.1 1 (by decide) hF10 (C := RX5) rfl (c_X5_readNumber l D cA ad t hI F5 hW5 (nI 0) (nI 20)) (cwV 2 S.2.2.2.2 gX5_readTown_X5_readNumber rfl rfl rfl (by decide +kernel) ⟨Nat.le_of_ble_eq_true rfl, Nat.le_of_ble_eq_true rfl⟩) rfl rfl (Nat.le_of_ble_eq_true rfl) ⟨Nat.zero_le _, Nat.zero_le _⟩ dX5_readTown_22 (fun r9 F9 H9 locs9 hr9 hP9 hS9 => ?_)
  obtain ⟨hW9, hFc9, hr9⟩ := hr9
  have hFr9 := hFr5.tr hFc9 (by simp <;> first | omega | (simp only [isC, isJ] at *; omega))
  have hq11 : 0 ≤ r9.toInt ∧ r9.toInt ≤ 20 := by have h1 := nI_toInt (n := 0) (by omega); have h2 := nI_toInt (n := 20) (by omega); have h3 := hr9 (by omega); omega
  refine lv_istore (lv' := [(4, .int r9), (3, .int r5), (2, .int r1), (0, .ref (ad 1)), (1, .ref (ad rc))]) S.1 S.2.1 dX5_readTown_25 hl8 (by decide) rfl (fun ls12 hl12 => ?_)
  refine lv_aload_n S.1 S.2.1 dX5_readTown_27 rfl (lv_at hl12 3 rfl) ?_
  obtain ⟨n14, a14, f14, fa14, nu14, hF14, hn14, ha14⟩ := wt_text hW9
  refine r_cVv (As := []) (rest := []) S hK hZ hP9 hS9 hl12.1 1 (by decide) hF14 (C := RX5) rfl (c_X5_readEnd l D cA ad t hI F9 hW9 ) (cwV 0 S.2.2.2.2 gX5_readTown_X5_readEnd rfl rfl rfl (by decide +kernel) ⟨Nat.le_of_ble_eq_true rfl, Nat.le_of_ble_eq_true rfl⟩) rfl rfl (Nat.le_of_ble_eq_true rfl) ⟨Nat.zero_le _, Nat.zero_le _⟩ dX5_readTown_28 (fun F13 H13 locs13 hr13 hP13 hS13 => ?_)
  obtain ⟨hW13, hFc13, hr13⟩ := hr13
  have hFr13 := hFr9.tr hFc13 (by simp <;> first | omega | (simp only [isC, isJ] at *; omega))
  refine lv_aload_n S.1 S.2.1 dX5_readTown_31 rfl (lv_at hl12 4 rfl) ?_
  refine lv_iload_n S.1 S.2.1 dX5_readTown_32 rfl (lv_at hl12 2 rfl) ?_
  refine lv_iload_n S.1 S.2.1 dX5_readTown_33 rfl (lv_at hl12 1 rfl) ?_
  refine lv_iload S.1 S.2.1 dX5_readTown_34 (lv_at hl12 0 rfl) ?_
  obtain ⟨sl16, fm16, tn16, rn16, bn16, hF16, hb16_1, hb16_2, hb16_3⟩ := wt_C hW13 hrc
  refine r_cVv (As := [.int r1, .int r5, .int r9]) (rest := []) S hK hZ hP13 hS13 hl12.1 rc (lt_C hrc) hF16 (C := RX0) rfl (c_X0_addTown l D cA ad t hI F13 hW13 rc hrc r1 r5 r9) (cwV 3 S.2.2.2.2 gX5_readTown_X0_addTown rfl rfl rfl (by decide +kernel) ⟨Nat.le_of_ble_eq_true rfl, Nat.le_of_ble_eq_true rfl⟩) rfl rfl (Nat.le_of_ble_eq_true rfl) ⟨Nat.zero_le _, Nat.zero_le _⟩ dX5_readTown_36 (fun F15 H15 locs15 hr15 hP15 hS15 => ?_)
  obtain ⟨hW15, hFc15, hr15⟩ := hr15
  have hFr15 := hFr13.tr hFc15 (by simp <;> first | omega | (simp only [isC, isJ] at *; omega))
  exact hret 39 _ _ _ _ dX5_readTown_39 hP15 hS15 ⟨hW15, hFr15, trivial⟩
set_option maxHeartbeats 4000000 in
set_option maxRecDepth 100000 in
theorem c_X5_readRoad (l : Launch) (D : va_G) (cA ad : Nat → Nat) (t : Nat) (hI : rI ad) (F : Nat → va_E) (hW : WT cA ad F) (rc : Nat) (hrc : isC rc) : MV l D cA ad t yX5_readRoad wsX5_readRoad { frames := 2, cells := 0, slots := 0, locals := 45 } [.ref (ad 1), .ref (ad rc)] F (fun F' => WT cA ad F' ∧ rFr [1, rc, rc + 4, rc + 5] F F' ∧ (True)) := by
  refine en_V rfl (by decide +kernel) (Nat.le_of_ble_eq_true rfl) ?_
  intro p e s m args below meth c ls0 Q S hK hZ hP hS hl0 hret
  have hl0 : lv_has ls0 4 [(0, .ref (ad 1)), (1, .ref (ad rc))] := hl0
  have hFr : rFr [1, rc, rc + 4, rc + 5] F F := rFr.rf
  have hiX0 : ∀ w ∈ u_ws RX0 TX0 10, w ∈ wsX5_readRoad := by decide +kernel
  have hiX5 : ∀ w ∈ u_ws RX5 TX5 6, w ∈ wsX5_readRoad := by decide +kernel
  refine lv_aload_n S.1 S.2.1 dX5_readRoad_0 rfl (lv_at hl0 0 rfl) ?_
  refine lv_iconst (v := (nI 0)) S.1 S.2.1 dX5_readRoad_1 (by decide +kernel) ?_
  refine lv_aload_n S.1 S.2.1 dX5_readRoad_2 rfl (lv_at hl0 1 rfl) ?_
  obtain ⟨sl1, fm1, tn1, rn1, bn1, hF1, hb1_1, hb1_2, hb1_3⟩ := wt_C hW hrc
  refine r_get S hK hP rc (lt_C hrc) hF1 (C := RX0) (T := TX0) (N := 10) hiX0 rfl 2 (by decide) (by decide +kernel) (v := .int (nI tn1)) rfl dX5_readRoad_3 ?_
  refine lv_iconst (v := (nI 1)) S.1 S.2.1 dX5_readRoad_6 (by decide +kernel) ?_
  refine lv_isub S.1 S.2.1 dX5_readRoad_7 ?_
  refine lv_topi (fun v2 e2 => ?_)
  have ks2 : v2.toInt = ((tn1 : Nat) : Int) - ((1 : Nat) : Int) := by rw [e2]; exact pk_sub_toInt (by omega) (by omega)
  obtain ⟨n4, a4, f4, fa4, nu4, hF4, hn4, ha4⟩ := wt_text hW
  refine r_cVi (As := [.int (nI 0), .int v2]) (rest := []) S hK hZ hP hS hl0.1 1 (by decide) hF4 (C := RX5) rfl (c_X5_readNumber l D cA ad t hI F hW (nI 0) v2) (cwV 2 S.2.2.2.2 gX5_readRoad_X5_readNumber rfl rfl rfl (by decide +kernel) ⟨Nat.le_of_ble_eq_true rfl, Nat.le_of_ble_eq_true rfl⟩) rfl rfl (Nat.le_of_ble_eq_true rfl) ⟨Nat.zero_le _, Nat.zero_le _⟩ dX5_readRoad_8 (fun r3 F3 H3 locs3 hr3 hP3 hS3 => ?_)
  obtain ⟨hW3, hFc3, hr3⟩ := hr3
  have hFr3 := hFr.tr hFc3 (by simp <;> first | omega | (simp only [isC, isJ] at *; omega))
  refine lv_istore_n (lv' := [(2, .int r3), (0, .ref (ad 1)), (1, .ref (ad rc))]) S.1 S.2.1 dX5_readRoad_11 rfl hl0 (by decide) rfl (fun ls5 hl5 => ?_)
  refine lv_aload_n S.1 S.2.1 dX5_readRoad_12 rfl (lv_at hl5 1 rfl) ?_
  refine lv_iconst (v := (nI 0)) S.1 S.2.1 dX5_readRoad_13 (by decide +kernel) ?_
  refine lv_aload_n S.1 S.2.1 dX5_readRoad_14 rfl (lv_at hl5 2 rfl) ?_
  have hF6 := (hFc3 rc (by have hh1 := hrc; unfold isC at hh1; simp only [List.mem_cons, List.not_mem_nil, or_false, not_or]; omega)).trans hF1
  refine r_get S hK hP3 rc (lt_C hrc) hF6 (C := RX0) (T := TX0) (N := 10) hiX0 rfl 2 (by decide) (by decide +kernel) (v := .int (nI tn1)) rfl dX5_readRoad_15 ?_
  refine lv_iconst (v := (nI 1)) S.1 S.2.1 dX5_readRoad_18 (by decide +kernel) ?_
  refine lv_isub S.1 S.2.1 dX5_readRoad_19 ?_
  refine lv_topi (fun v7 e7 => ?_)
  have ks7 : v7.toInt = ((tn1 : Nat) : Int) - ((1 : Nat) : Int) := by rw [e7]; exact pk_sub_toInt (by omega) (by omega)
  obtain ⟨n9, a9, f9, fa9, nu9, hF9, hn9, ha9⟩ := wt_text hW3
  refine r_cVi (As := [.int (nI 0), .int v7]) (rest := []) S hK hZ hP3 hS3 hl5.1 1 (by decide) hF9 (C := RX5) rfl (c_X5_readNumber l D cA ad t hI F3 hW3 (nI 0) v7) (cwV 2 S.2.2.2.2 gX5_readRoad_X5_readNumber rfl rfl rfl (by decide +kernel) ⟨Nat.le_of_ble_eq_true rfl, Nat.le_of_ble_eq_true rfl⟩) rfl rfl (Nat.le_of_ble_eq_true rfl) ⟨Nat.zero_le _, Nat.zero_le _⟩ dX5_readRoad_20 (fun r8 F8 H8 locs8 hr8 hP8 hS8 => ?_)
  obtain ⟨hW8, hFc8, hr8⟩ := hr8
  have hFr8 := hFr3.tr hFc8 (by simp <;> first | omega | (simp only [isC, isJ] at *; omega))
  refine lv_istore_n (lv' := [(3, .int r8), (2, .int r3), (0, .ref (ad 1)), (1, .ref (ad rc))]) S.1 S.2.1 dX5_readRoad_23 rfl hl5 (by decide) rfl (fun ls10 hl10 => ?_)
  refine lv_iload_n S.1 S.2.1 dX5_readRoad_24 rfl (lv_at hl10 1 rfl) ?_
  refine lv_iload_n S.1 S.2.1 dX5_readRoad_25 rfl (lv_at hl10 0 rfl) ?_
  refine lv_icmp_eq (tgt := 42) S.1 S.2.1 dX5_readRoad_26 (by decide) (fun c11 => ?_) (fun c11 => ?_)
  · skip
    have k12 := ci_eq rfl rfl c11
    refine lv_aload_n S.1 S.2.1 dX5_readRoad_42 rfl (lv_at hl10 2 rfl) ?_
    refine lv_iconst (v := (nI 4)) S.1 S.2.1 dX5_readRoad_43 (by decide +kernel) ?_
    refine lv_aload_n S.1 S.2.1 dX5_readRoad_44 rfl (lv_at hl10 2 rfl) ?_
    obtain ⟨n13, a13, f13, fa13, nu13, hF13, hn13, ha13⟩ := wt_text hW8
    refine r_get S hK hP8 1 (by decide) hF13 (C := RX5) (T := TX5) (N := 6) hiX5 rfl 5 (by decide) (by decide +kernel) (v := .int nu13) rfl dX5_readRoad_45 ?_
    refine r_cVv (As := [.int (nI 4), .int nu13]) (rest := []) S hK hZ hP8 hS8 hl10.1 1 (by decide) hF13 (C := RX5) rfl (c_X5_blame l D cA ad t hI F8 hW8 (nI 4) nu13) (cwV 2 S.2.2.2.2 gX5_readRoad_X5_blame rfl rfl rfl (by decide +kernel) ⟨Nat.le_of_ble_eq_true rfl, Nat.le_of_ble_eq_true rfl⟩) rfl rfl (Nat.le_of_ble_eq_true rfl) ⟨Nat.zero_le _, Nat.zero_le _⟩ dX5_readRoad_48 (fun F14 H14 locs14 hr14 hP14 hS14 => ?_)
    obtain ⟨hW14, hFc14, hr14⟩ := hr14
    have hFr14 := hFr8.tr hFc14 (by simp <;> first | omega | (simp only [isC, isJ] at *; omega))
    refine lv_aload_n S.1 S.2.1 dX5_readRoad_51 rfl (lv_at hl10 2 rfl) ?_
    obtain ⟨n16, a16, f16, fa16, nu16, hF16, hn16, ha16⟩ := wt_text hW14
    refine r_cVv (As := []) (rest := []) S hK hZ hP14 hS14 hl10.1 1 (by decide) hF16 (C := RX5) rfl (c_X5_readEnd l D cA ad t hI F14 hW14 ) (cwV 0 S.2.2.2.2 gX5_readRoad_X5_readEnd rfl rfl rfl (by decide +kernel) ⟨Nat.le_of_ble_eq_true rfl, Nat.le_of_ble_eq_true rfl⟩) rfl rfl (Nat.le_of_ble_eq_true rfl) ⟨Nat.zero_le _, Nat.zero_le _⟩ dX5_readRoad_52 (fun F15 H15 locs15 hr15 hP15 hS15 => ?_)
    obtain ⟨hW15, hFc15, hr15⟩ := hr15
    have hFr15 := hFr14.tr hFc15 (by simp <;> first | omega | (simp only [isC, isJ] at *; omega))
    refine lv_aload_n S.1 S.2.1 dX5_readRoad_55 rfl (lv_at hl10 3 rfl) ?_
    refine lv_iload_n S.1 S.2.1 dX5_readRoad_56 rfl (lv_at hl10 1 rfl) ?_
    refine lv_iload_n S.1 S.2.1 dX5_readRoad_57 rfl (lv_at hl10 0 rfl) ?_
    have hF18 := (hFc8 rc (by have hh1 := hrc; unfold isC at hh1; simp only [List.mem_cons, List.not_mem_nil, or_false, not_or]; omega)).trans hF6
    have hF19 := (hFc14 rc (by have hh1 := hrc; unfold isC at hh1; simp only [List.mem_cons, List.not_mem_nil, or_false, not_or]; omega)).trans hF18
    have hF20 := (hFc15 rc (by have hh1 := hrc; unfold isC at hh1; simp only [List.mem_cons, List.not_mem_nil, or_false, not_or]; omega)).trans hF19
    refine r_cVv (As := [.int r3, .int r8]) (rest := []) S hK hZ hP15 hS15 hl10.1 rc (lt_C hrc) hF20 (C := RX0) rfl (c_X0_addRoad l D cA ad t hI F15 hW15 rc hrc r3 r8) (cwV 2 S.2.2.2.2 gX5_readRoad_X0_addRoad rfl rfl rfl (by decide +kernel) ⟨Nat.le_of_ble_eq_true rfl, Nat.le_of_ble_eq_true rfl⟩) rfl rfl (Nat.le_of_ble_eq_true rfl) ⟨Nat.zero_le _, Nat.zero_le _⟩ dX5_readRoad_58 (fun F17 H17 locs17 hr17 hP17 hS17 => ?_)
    obtain ⟨hW17, hFc17, hr17⟩ := hr17
    have hFr17 := hFr15.tr hFc17 (by simp <;> first | omega | (simp only [isC, isJ] at *; omega))
    exact hret 61 _ _ _ _ dX5_readRoad_61 hP17 hS17 ⟨hW17, hFr17, trivial⟩
  have k21 := ci_ne rfl rfl c11
  refine lv_aload_n S.1 S.2.1 dX5_readRoad_29 rfl (lv_at hl10 3 rfl) ?_
  refine lv_iload_n S.1 S.2.1 dX5_readRoad_30 rfl (lv_at hl10 1 rfl) ?_
  refine lv_iconst (v := (nI 0)) S.1 S.2.1 dX5_readRoad_31 (by decide +kernel) ?_
  have hF23 := (hFc8 rc (by have hh1 := hrc; unfold isC at hh1; simp only [List.mem_cons, List.not_mem_nil, or_false, not_or]; omega)).trans hF6
  refine r_cVp (As := [.int r3, .int (nI 0)]) (rest := []) S hK hZ hP8 hS8 hl10.1 rc (lt_C hrc) hF23 (C := RX0) rfl (c_X0_neighbours l D cA ad t hI F8 hW8 rc hrc r3 (nI 0)) (cwV 2 S.2.2.2.2 gX5_readRoad_X0_neighbours rfl rfl rfl (by decide +kernel) ⟨Nat.le_of_ble_eq_true rfl, Nat.le_of_ble_eq_true rfl⟩) rfl rfl (Nat.le_of_ble_eq_true rfl) ⟨Nat.zero_le _, Nat.zero_le _⟩ dX5_readRoad_32 (fun r22 hr22 => ?_)
  refine lv_iload_n S.1 S.2.1 dX5_readRoad_35 rfl (lv_at hl10 0 rfl) ?_
  refine lv_ishr S.1 S.2.1 dX5_readRoad_36 ?_
  refine lv_topi (fun v24 e24 => ?_)
  refine lv_iconst (v := (nI 1)) S.1 S.2.1 dX5_readRoad_37 (by decide +kernel) ?_
  refine lv_iand S.1 S.2.1 dX5_readRoad_38 ?_
  refine lv_topi (fun v25 e25 => ?_)
  refine lv_if_eq (tgt := 51) S.1 S.2.1 dX5_readRoad_39 (by decide) (fun c26 => ?_) (fun c26 => ?_)
  · skip
    have k27 := ci_eq rfl z_ti c26
    refine lv_aload_n S.1 S.2.1 dX5_readRoad_51 rfl (lv_at hl10 2 rfl) ?_
    obtain ⟨n29, a29, f29, fa29, nu29, hF29, hn29, ha29⟩ := wt_text hW8
    refine r_cVv (As := []) (rest := []) S hK hZ hP8 hS8 hl10.1 1 (by decide) hF29 (C := RX5) rfl (c_X5_readEnd l D cA ad t hI F8 hW8 ) (cwV 0 S.2.2.2.2 gX5_readRoad_X5_readEnd rfl rfl rfl (by decide +kernel) ⟨Nat.le_of_ble_eq_true rfl, Nat.le_of_ble_eq_true rfl⟩) rfl rfl (Nat.le_of_ble_eq_true rfl) ⟨Nat.zero_le _, Nat.zero_le _⟩ dX5_readRoad_52 (fun F28 H28 locs28 hr28 hP28 hS28 => ?_)
    obtain ⟨hW28, hFc28, hr28⟩ := hr28
    have hFr28 := hFr8.tr hFc28 (by simp <;> first | omega | (simp only [isC, isJ] at *; omega))
    refine lv_aload_n S.1 S.2.1 dX5_readRoad_55 rfl (lv_at hl10 3 rfl) ?_
    refine lv_iload_n S.1 S.2.1 dX5_readRoad_56 rfl (lv_at hl10 1 rfl) ?_
    refine lv_iload_n S.1 S.2.1 dX5_readRoad_57 rfl (lv_at hl10 0 rfl) ?_
    have hF31 := (hFc28 rc (by have hh1 := hrc; unfold isC at hh1; simp only [List.mem_cons, List.not_mem_nil, or_false, not_or]; omega)).trans hF23
    refine r_cVv (As := [.int r3, .int r8]) (rest := []) S hK hZ hP28 hS28 hl10.1 rc (lt_C hrc) hF31 (C := RX0) rfl (c_X0_addRoad l D cA ad t hI F28 hW28 rc hrc r3 r8) (cwV 2 S.2.2.2.2 gX5_readRoad_X0_addRoad rfl rfl rfl (by decide +kernel) ⟨Nat.le_of_ble_eq_true rfl, Nat.le_of_ble_eq_true rfl⟩) rfl rfl (Nat.le_of_ble_eq_true rfl) ⟨Nat.zero_le _, Nat.zero_le _⟩ dX5_readRoad_58 (fun F30 H30 locs30 hr30 hP30 hS30 => ?_)
    obtain ⟨hW30, hFc30, hr30⟩ := hr30
    have hFr30 := hFr28.tr hFc30 (by simp <;> first | omega | (simp only [isC, isJ] at *; omega))
    exact hret 61 _ _ _ _ dX5_readRoad_61 hP30 hS30 ⟨hW30, hFr30, trivial⟩
  have k32 := ci_ne rfl z_ti c26
  refine lv_aload_n S.1 S.2.1 dX5_readRoad_42 rfl (lv_at hl10 2 rfl) ?_
  refine lv_iconst (v := (nI 4)) S.1 S.2.1 dX5_readRoad_43 (by decide +kernel) ?_
  refine lv_aload_n S.1 S.2.1 dX5_readRoad_44 rfl (lv_at hl10 2 rfl) ?_
  obtain ⟨n33, a33, f33, fa33, nu33, hF33, hn33, ha33⟩ := wt_text hW8
  refine r_get S hK hP8 1 (by decide) hF33 (C := RX5) (T := TX5) (N := 6) hiX5 rfl 5 (by decide) (by decide +kernel) (v := .int nu33) rfl dX5_readRoad_45 ?_
  refine r_cVv (As := [.int (nI 4), .int nu33]) (rest := []) S hK hZ hP8 hS8 hl10.1 1 (by decide) hF33 (C := RX5) rfl (c_X5_blame l D cA ad t hI F8 hW8 (nI 4) nu33) (cwV 2 S.2.2.2.2 gX5_readRoad_X5_blame rfl rfl rfl (by decide +kernel) ⟨Nat.le_of_ble_eq_true rfl, Nat.le_of_ble_eq_true rfl⟩) rfl rfl (Nat.le_of_ble_eq_true rfl) ⟨Nat.zero_le _, Nat.zero_le _⟩ dX5_readRoad_48 (fun F34 H34 locs34 hr34 hP34 hS34 => ?_)
  obtain ⟨hW34, hFc34, hr34⟩ := hr34
  have hFr34 := hFr8.tr hFc34 (by simp <;> first | omega | (simp only [isC, isJ] at *; omega))
  refine lv_aload_n S.1 S.2.1 dX5_readRoad_51 rfl (lv_at hl10 2 rfl) ?_
  obtain ⟨n36, a36, f36, fa36, nu36, hF36, hn36, ha36⟩ := wt_text hW34
  refine r_cVv (As := []) (rest := []) S hK hZ hP34 hS34 hl10.1 1 (by decide) hF36 (C := RX5) rfl (c_X5_readEnd l D cA ad t hI F34 hW34 ) (cwV 0 S.2.2.2.2 gX5_readRoad_X5_readEnd rfl rfl rfl (by decide +kernel) ⟨Nat.le_of_ble_eq_true rfl, Nat.le_of_ble_eq_true rfl⟩) rfl rfl (Nat.le_of_ble_eq_true rfl) ⟨Nat.zero_le _, Nat.zero_le _⟩ dX5_readRoad_52 (fun F35 H35 locs35 hr35 hP35 hS35 => ?_)
  obtain ⟨hW35, hFc35, hr35⟩ := hr35
  have hFr35 := hFr34.tr hFc35 (by simp <;> first | omega | (simp only [isC, isJ] at *; omega))
  refine lv_aload_n S.1 S.2.1 dX5_readRoad_55 rfl (lv_at hl10 3 rfl) ?_
  refine lv_iload_n S.1 S.2.1 dX5_readRoad_56 rfl (lv_at hl10 1 rfl) ?_
  refine lv_iload_n S.1 S.2.1 dX5_readRoad_57 rfl (lv_at hl10 0 rfl) ?_
  have hF38 := (hFc34 rc (by have hh1 := hrc; unfold isC at hh1; simp only [List.mem_cons, List.not_mem_nil, or_false, not_or]; omega)).trans hF23
  have hF39 := (hFc35 rc (by have hh1 := hrc; unfold isC at hh1; simp only [List.mem_cons, List.not_mem_nil, or_false, not_or]; omega)).trans hF38
  refine r_cVv (As := [.int r3, .int r8]) (rest := []) S hK hZ hP35 hS35 hl10.1 rc (lt_C hrc) hF39 (C := RX0) rfl (c_X0_addRoad l D cA ad t hI F35 hW35 rc hrc r3 r8) (cwV 2 S.2.2.2.2 gX5_readRoad_X0_addRoad rfl rfl rfl (by decide +kernel) ⟨Nat.le_of_ble_eq_true rfl, Nat.le_of_ble_eq_true rfl⟩) rfl rfl (Nat.le_of_ble_eq_true rfl) ⟨Nat.zero_le _, Nat.zero_le _⟩ dX5_readRoad_58 (fun F37 H37 locs37 hr37 hP37 hS37 => ?_)
  obtain ⟨hW37, hFc37, hr37⟩ := hr37
  have hFr37 := hFr35.tr hFc37 (by simp <;> first | omega | (simp only [isC, isJ] at *; omega))
  exact hret 61 _ _ _ _ dX5_readRoad_61 hP37 hS37 ⟨hW37, hFr37, trivial⟩
set_option maxHeartbeats 4000000 in
set_option maxRecDepth 100000 in
theorem c_X5_faultOfWord (l : Launch) (D : va_G) (cA ad : Nat → Nat) (t : Nat) (hI : rI ad) (F : Nat → va_E) (hW : WT cA ad F) (rc : Nat) (hrc : isC rc) (p2 : Int32) : MP l D cA ad t yX5_faultOfWord wsX5_faultOfWord { frames := 0, cells := 0, slots := 0, locals := 0 } [.ref (ad 1), .ref (ad rc), .int p2] F (fun r => True) := by
  refine en_P rfl (by decide +kernel) (Nat.le_of_ble_eq_true rfl) ?_
  intro p e s m args below meth c ls0 Q S hK hZ hP hS hl0 hret
  have hl0 : lv_has ls0 4 [(0, .ref (ad 1)), (1, .ref (ad rc)), (2, .int p2)] := hl0
  have hiX0 : ∀ w ∈ u_ws RX0 TX0 10, w ∈ wsX5_faultOfWord := by decide +kernel
  refine lv_aload_n S.1 S.2.1 dX5_faultOfWord_0 rfl (lv_at hl0 1 rfl) ?_
  obtain ⟨sl1, fm1, tn1, rn1, bn1, hF1, hb1_1, hb1_2, hb1_3⟩ := wt_C hW hrc
  refine r_get S hK hP rc (lt_C hrc) hF1 (C := RX0) (T := TX0) (N := 10) hiX0 rfl 0 (by decide) (by decide +kernel) (v := .int (nI sl1)) rfl dX5_faultOfWord_1 ?_
  refine lv_if_ne (tgt := 11) S.1 S.2.1 dX5_faultOfWord_4 (by decide) (fun c2 => ?_) (fun c2 => ?_)
  · skip
    have k3 := ci_ne (nI_toInt (n := sl1) (by omega)) z_ti c2
    refine lv_iconst (v := (nI 0)) S.1 S.2.1 dX5_faultOfWord_11 (by decide +kernel) ?_
    refine lv_istore_n (lv' := [(3, .int (nI 0)), (0, .ref (ad 1)), (1, .ref (ad rc)), (2, .int p2)]) S.1 S.2.1 dX5_faultOfWord_12 rfl hl0 (by decide) rfl (fun ls4 hl4 => ?_)
    refine lv_iload_n S.1 S.2.1 dX5_faultOfWord_13 rfl (lv_at hl4 3 rfl) ?_
    refine lv_bipush (v := (nI 108)) S.1 S.2.1 dX5_faultOfWord_14 (by decide +kernel) ?_
    refine lv_icmp_ne (tgt := 29) S.1 S.2.1 dX5_faultOfWord_16 (by decide) (fun c5 => ?_) (fun c5 => ?_)
    · skip
      have k6 := ci_ne rfl (nI_toInt (n := 108) (by omega)) c5
      refine lv_iload_n S.1 S.2.1 dX5_faultOfWord_29 rfl (lv_at hl4 0 rfl) ?_
      refine lv_if_eq (tgt := 35) S.1 S.2.1 dX5_faultOfWord_30 (by decide) (fun c7 => ?_) (fun c7 => absurd (by decide +kernel) c7)
      have k8 := ci_eq (nI_toInt (n := 0) (by omega)) z_ti c7
      refine lv_iload_n S.1 S.2.1 dX5_faultOfWord_35 rfl (lv_at hl4 3 rfl) ?_
      refine lv_bipush (v := (nI 116)) S.1 S.2.1 dX5_faultOfWord_36 (by decide +kernel) ?_
      refine lv_icmp_ne (tgt := 56) S.1 S.2.1 dX5_faultOfWord_38 (by decide) (fun c9 => ?_) (fun c9 => ?_)
      · skip
        have k10 := ci_ne rfl (nI_toInt (n := 116) (by omega)) c9
        refine lv_iload_n S.1 S.2.1 dX5_faultOfWord_56 rfl (lv_at hl4 3 rfl) ?_
        refine lv_bipush (v := (nI 114)) S.1 S.2.1 dX5_faultOfWord_57 (by decide +kernel) ?_
        refine lv_icmp_ne (tgt := 77) S.1 S.2.1 dX5_faultOfWord_59 (by decide) (fun c11 => ?_) (fun c11 => ?_)
        · skip
          have k12 := ci_ne rfl (nI_toInt (n := 114) (by omega)) c11
          refine lv_iconst (v := (nI 1)) S.1 S.2.1 dX5_faultOfWord_77 (by decide +kernel) ?_
          exact hret 78 _ _ dX5_faultOfWord_78 rfl (trivial)
        have k13 := ci_eq rfl (nI_toInt (n := 114) (by omega)) c11
        refine lv_aload_n S.1 S.2.1 dX5_faultOfWord_62 rfl (lv_at hl4 2 rfl) ?_
        refine r_get S hK hP rc (lt_C hrc) hF1 (C := RX0) (T := TX0) (N := 10) hiX0 rfl 3 (by decide) (by decide +kernel) (v := .int (nI rn1)) rfl dX5_faultOfWord_63 ?_
        refine lv_bipush (v := (nI 12)) S.1 S.2.1 dX5_faultOfWord_66 (by decide +kernel) ?_
        refine lv_icmp_ge (tgt := 75) S.1 S.2.1 dX5_faultOfWord_68 (by decide) (fun c14 => ?_) (fun c14 => ?_)
        · skip
          have k15 := ci_le (nI_toInt (n := 12) (by omega)) (nI_toInt (n := rn1) (by omega)) c14
          refine lv_iconst (v := (nI 3)) S.1 S.2.1 dX5_faultOfWord_75 (by decide +kernel) ?_
          exact hret 76 _ _ dX5_faultOfWord_76 rfl (trivial)
        have k16 := ci_nle (nI_toInt (n := 12) (by omega)) (nI_toInt (n := rn1) (by omega)) c14
        refine lv_iconst (v := (nI 0)) S.1 S.2.1 dX5_faultOfWord_71 (by decide +kernel) ?_
        refine lv_goto (tgt := 76) S.1 S.2.1 dX5_faultOfWord_72 (by decide) ?_
        exact hret 76 _ _ dX5_faultOfWord_76 rfl (trivial)
      have k17 := ci_eq rfl (nI_toInt (n := 116) (by omega)) c9
      refine lv_aload_n S.1 S.2.1 dX5_faultOfWord_41 rfl (lv_at hl4 2 rfl) ?_
      refine r_get S hK hP rc (lt_C hrc) hF1 (C := RX0) (T := TX0) (N := 10) hiX0 rfl 2 (by decide) (by decide +kernel) (v := .int (nI tn1)) rfl dX5_faultOfWord_42 ?_
      refine lv_bipush (v := (nI 8)) S.1 S.2.1 dX5_faultOfWord_45 (by decide +kernel) ?_
      refine lv_icmp_ge (tgt := 54) S.1 S.2.1 dX5_faultOfWord_47 (by decide) (fun c18 => ?_) (fun c18 => ?_)
      · skip
        have k19 := ci_le (nI_toInt (n := 8) (by omega)) (nI_toInt (n := tn1) (by omega)) c18
        refine lv_iconst (v := (nI 3)) S.1 S.2.1 dX5_faultOfWord_54 (by decide +kernel) ?_
        exact hret 55 _ _ dX5_faultOfWord_55 rfl (trivial)
      have k20 := ci_nle (nI_toInt (n := 8) (by omega)) (nI_toInt (n := tn1) (by omega)) c18
      refine lv_iconst (v := (nI 0)) S.1 S.2.1 dX5_faultOfWord_50 (by decide +kernel) ?_
      refine lv_goto (tgt := 55) S.1 S.2.1 dX5_faultOfWord_51 (by decide) ?_
      exact hret 55 _ _ dX5_faultOfWord_55 rfl (trivial)
    have k21 := ci_eq rfl (nI_toInt (n := 108) (by omega)) c5
    refine lv_iload_n S.1 S.2.1 dX5_faultOfWord_19 rfl (lv_at hl4 0 rfl) ?_
    refine lv_if_eq (tgt := 27) S.1 S.2.1 dX5_faultOfWord_20 (by decide) (fun c22 => ?_) (fun c22 => absurd (by decide +kernel) c22)
    have k23 := ci_eq (nI_toInt (n := 0) (by omega)) z_ti c22
    refine lv_iconst (v := (nI 3)) S.1 S.2.1 dX5_faultOfWord_27 (by decide +kernel) ?_
    exact hret 28 _ _ dX5_faultOfWord_28 rfl (trivial)
  have k24 := ci_eq (nI_toInt (n := sl1) (by omega)) z_ti c2
  refine lv_iconst (v := (nI 1)) S.1 S.2.1 dX5_faultOfWord_7 (by decide +kernel) ?_
  refine lv_goto (tgt := 12) S.1 S.2.1 dX5_faultOfWord_8 (by decide) ?_
  refine lv_istore_n (lv' := [(3, .int (nI 1)), (0, .ref (ad 1)), (1, .ref (ad rc)), (2, .int p2)]) S.1 S.2.1 dX5_faultOfWord_12 rfl hl0 (by decide) rfl (fun ls25 hl25 => ?_)
  refine lv_iload_n S.1 S.2.1 dX5_faultOfWord_13 rfl (lv_at hl25 3 rfl) ?_
  refine lv_bipush (v := (nI 108)) S.1 S.2.1 dX5_faultOfWord_14 (by decide +kernel) ?_
  refine lv_icmp_ne (tgt := 29) S.1 S.2.1 dX5_faultOfWord_16 (by decide) (fun c26 => ?_) (fun c26 => ?_)
  · skip
    have k27 := ci_ne rfl (nI_toInt (n := 108) (by omega)) c26
    refine lv_iload_n S.1 S.2.1 dX5_faultOfWord_29 rfl (lv_at hl25 0 rfl) ?_
    refine lv_if_eq (tgt := 35) S.1 S.2.1 dX5_faultOfWord_30 (by decide) (fun c28 => absurd c28 (by decide +kernel)) (fun c28 => ?_)
    have k29 := ci_ne (nI_toInt (n := 1) (by omega)) z_ti c28
    refine lv_iconst (v := (nI 1)) S.1 S.2.1 dX5_faultOfWord_33 (by decide +kernel) ?_
    exact hret 34 _ _ dX5_faultOfWord_34 rfl (trivial)
  have k30 := ci_eq rfl (nI_toInt (n := 108) (by omega)) c26
  refine lv_iload_n S.1 S.2.1 dX5_faultOfWord_19 rfl (lv_at hl25 0 rfl) ?_
  refine lv_if_eq (tgt := 27) S.1 S.2.1 dX5_faultOfWord_20 (by decide) (fun c31 => absurd c31 (by decide +kernel)) (fun c31 => ?_)
  have k32 := ci_ne (nI_toInt (n := 1) (by omega)) z_ti c31
  refine lv_iconst (v := (nI 0)) S.1 S.2.1 dX5_faultOfWord_23 (by decide +kernel) ?_
  refine lv_goto (tgt := 28) S.1 S.2.1 dX5_faultOfWord_24 (by decide) ?_
  exact hret 28 _ _ dX5_faultOfWord_28 rfl (trivial)
set_option maxHeartbeats 4000000 in
set_option maxRecDepth 100000 in
theorem c_X5_readClause (l : Launch) (D : va_G) (cA ad : Nat → Nat) (t : Nat) (hI : rI ad) (F : Nat → va_E) (hW : WT cA ad F) (rc : Nat) (hrc : isC rc) (hat : fN (F 1) 4 < fN (F 1) 1) : MV l D cA ad t yX5_readClause wsX5_readClause { frames := 3, cells := 0, slots := 0, locals := 69 } [.ref (ad 1), .ref (ad rc)] F (fun F' => WT cA ad F' ∧ rFr [1, rc, rc + 1, rc + 2, rc + 3, rc + 4, rc + 5] F F' ∧ (True)) := by
  refine en_V rfl (by decide +kernel) (Nat.le_of_ble_eq_true rfl) ?_
  intro p e s m args below meth c ls0 Q S hK hZ hP hS hl0 hret
  have hl0 : lv_has ls0 4 [(0, .ref (ad 1)), (1, .ref (ad rc))] := hl0
  have hFr : rFr [1, rc, rc + 1, rc + 2, rc + 3, rc + 4, rc + 5] F F := rFr.rf
  have hiX5 : ∀ w ∈ u_ws RX5 TX5 6, w ∈ wsX5_readClause := by decide +kernel
  obtain ⟨n1, a1, f1, fa1, nu1, hF1, hn1, ha1⟩ := wt_text hW
  have hA2 := fN_of (k := 4) (a := a1) hF1 rfl (by omega)
  have hL2 := fN_of (k := 1) (a := n1) hF1 rfl (by omega)
  refine lv_aload_n S.1 S.2.1 dX5_readClause_0 rfl (lv_at hl0 0 rfl) ?_
  refine r_get S hK hP 1 (by decide) hF1 (C := RX5) (T := TX5) (N := 6) hiX5 rfl 0 (by decide) (by decide +kernel) (v := .ref (ad 2)) rfl dX5_readClause_1 ?_
  refine lv_aload_n S.1 S.2.1 dX5_readClause_4 rfl (lv_at hl0 0 rfl) ?_
  refine r_get S hK hP 1 (by decide) hF1 (C := RX5) (T := TX5) (N := 6) hiX5 rfl 4 (by decide) (by decide +kernel) (v := .int (nI a1)) rfl dX5_readClause_5 ?_
  obtain ⟨g3, hF3⟩ := wt_let hW
  refine r_cald S hK hP 2 (by decide) hF3 (vp_in_nI (show a1 < 240 by omega) (by omega)) dX5_readClause_8 ?_
  refine lv_topi (fun v5 e5 => ?_)
  refine lv_istore_n (lv' := [(2, .int v5), (0, .ref (ad 1)), (1, .ref (ad rc))]) S.1 S.2.1 dX5_readClause_9 rfl hl0 (by decide) rfl (fun ls6 hl6 => ?_)
  refine lv_aload_n S.1 S.2.1 dX5_readClause_10 rfl (lv_at hl6 1 rfl) ?_
  refine lv_aload_n S.1 S.2.1 dX5_readClause_11 rfl (lv_at hl6 2 rfl) ?_
  refine lv_iload_n S.1 S.2.1 dX5_readClause_12 rfl (lv_at hl6 0 rfl) ?_
  refine r_cVp (As := [.ref (ad rc), .int v5]) (rest := []) S hK hZ hP hS hl6.1 1 (by decide) hF1 (C := RX5) rfl (c_X5_faultOfWord l D cA ad t hI F hW rc hrc v5) (cwV 2 S.2.2.2.2 gX5_readClause_X5_faultOfWord rfl rfl rfl (by decide +kernel) ⟨Nat.le_of_ble_eq_true rfl, Nat.le_of_ble_eq_true rfl⟩) rfl rfl (Nat.le_of_ble_eq_true rfl) ⟨Nat.zero_le _, Nat.zero_le _⟩ dX5_readClause_13 (fun r7 hr7 => ?_)
  refine lv_istore_n (lv' := [(3, .int r7), (2, .int v5), (0, .ref (ad 1)), (1, .ref (ad rc))]) S.1 S.2.1 dX5_readClause_16 rfl hl6 (by decide) rfl (fun ls8 hl8 => ?_)
  refine lv_iload_n S.1 S.2.1 dX5_readClause_17 rfl (lv_at hl8 0 rfl) ?_
  refine lv_if_eq (tgt := 31) S.1 S.2.1 dX5_readClause_18 (by decide) (fun c9 => ?_) (fun c9 => ?_)
  · skip
    have k10 := ci_eq rfl z_ti c9
    refine lv_aload_n S.1 S.2.1 dX5_readClause_31 rfl (lv_at hl8 2 rfl) ?_
    refine lv_dup S.1 S.2.1 dX5_readClause_32 rfl ?_
    refine r_get S hK hP 1 (by decide) hF1 (C := RX5) (T := TX5) (N := 6) hiX5 rfl 4 (by decide) (by decide +kernel) (v := .int (nI a1)) rfl dX5_readClause_33 ?_
    refine lv_iconst (v := (nI 1)) S.1 S.2.1 dX5_readClause_36 (by decide +kernel) ?_
    refine lv_iadd S.1 S.2.1 dX5_readClause_37 ?_
    refine lv_topi (fun v11 e11 => ?_)
    obtain rfl : v11 = nI (a1 + 1) := e11.trans (nI_add _ _)
    refine r_put S hI hK hP hS 1 (by decide) hF1 (C := RX5) (T := TX5) (N := 6) hiX5 tyX5_ok nmX5 rfl 4 (by decide) (by decide +kernel) rfl rfl rfl (Nat.le_of_ble_eq_true rfl) dX5_readClause_38 (fun F12 H12 locs12 eF12 hP12 hS12 => ?_)
    have hF12 : F12 1 = .inr (5, [.ref (ad 2), .int (nI n1), .int f1, .int fa1, .int (nI (a1 + 1)), .int nu1]) := by rw [eF12]; exact va_up_self _ _ _
    have hW12 := hW.up eF12 (ok_text ⟨n1, a1 + 1, f1, fa1, nu1, rfl, by omega, by omega⟩)
    have hFr12 := hFr.up eF12 (by simp <;> first | omega | (simp only [isC, isJ] at *; omega))
    refine lv_iload_n S.1 S.2.1 dX5_readClause_41 rfl (lv_at hl8 1 rfl) ?_
    refine lv_bipush (v := (nI 108)) S.1 S.2.1 dX5_readClause_42 (by decide +kernel) ?_
    refine lv_icmp_ne (tgt := 55) S.1 S.2.1 dX5_readClause_44 (by decide) (fun c13 => ?_) (fun c13 => ?_)
    · skip
      have k14 := ci_ne rfl (nI_toInt (n := 108) (by omega)) c13
      refine lv_iload_n S.1 S.2.1 dX5_readClause_55 rfl (lv_at hl8 1 rfl) ?_
      refine lv_bipush (v := (nI 116)) S.1 S.2.1 dX5_readClause_56 (by decide +kernel) ?_
      refine lv_icmp_ne (tgt := 69) S.1 S.2.1 dX5_readClause_58 (by decide) (fun c15 => ?_) (fun c15 => ?_)
      · skip
        have k16 := ci_ne rfl (nI_toInt (n := 116) (by omega)) c15
        refine lv_aload_n S.1 S.2.1 dX5_readClause_69 rfl (lv_at hl8 2 rfl) ?_
        refine lv_aload_n S.1 S.2.1 dX5_readClause_70 rfl (lv_at hl8 3 rfl) ?_
        refine r_cVv (As := [.ref (ad rc)]) (rest := []) S hK hZ hP12 hS12 hl8.1 1 (by decide) hF12 (C := RX5) rfl (c_X5_readRoad l D cA ad t hI F12 hW12 rc hrc) (cwV 1 S.2.2.2.2 gX5_readClause_X5_readRoad rfl rfl rfl (by decide +kernel) ⟨Nat.le_of_ble_eq_true rfl, Nat.le_of_ble_eq_true rfl⟩) rfl rfl (Nat.le_of_ble_eq_true rfl) ⟨Nat.zero_le _, Nat.zero_le _⟩ dX5_readClause_71 (fun F17 H17 locs17 hr17 hP17 hS17 => ?_)
        obtain ⟨hW17, hFc17, hr17⟩ := hr17
        have hFr17 := hFr12.tr hFc17 (by simp <;> first | omega | (simp only [isC, isJ] at *; omega))
        exact hret 74 _ _ _ _ dX5_readClause_74 hP17 hS17 ⟨hW17, hFr17, trivial⟩
      have k18 := ci_eq rfl (nI_toInt (n := 116) (by omega)) c15
      refine lv_aload_n S.1 S.2.1 dX5_readClause_61 rfl (lv_at hl8 2 rfl) ?_
      refine lv_aload_n S.1 S.2.1 dX5_readClause_62 rfl (lv_at hl8 3 rfl) ?_
      refine r_cVv (As := [.ref (ad rc)]) (rest := []) S hK hZ hP12 hS12 hl8.1 1 (by decide) hF12 (C := RX5) rfl (c_X5_readTown l D cA ad t hI F12 hW12 rc hrc) (cwV 1 S.2.2.2.2 gX5_readClause_X5_readTown rfl rfl rfl (by decide +kernel) ⟨Nat.le_of_ble_eq_true rfl, Nat.le_of_ble_eq_true rfl⟩) rfl rfl (Nat.le_of_ble_eq_true rfl) ⟨Nat.zero_le _, Nat.zero_le _⟩ dX5_readClause_63 (fun F19 H19 locs19 hr19 hP19 hS19 => ?_)
      obtain ⟨hW19, hFc19, hr19⟩ := hr19
      have hFr19 := hFr12.tr hFc19 (by simp <;> first | omega | (simp only [isC, isJ] at *; omega))
      refine lv_goto (tgt := 74) S.1 S.2.1 dX5_readClause_66 (by decide) ?_
      exact hret 74 _ _ _ _ dX5_readClause_74 hP19 hS19 ⟨hW19, hFr19, trivial⟩
    have k20 := ci_eq rfl (nI_toInt (n := 108) (by omega)) c13
    refine lv_aload_n S.1 S.2.1 dX5_readClause_47 rfl (lv_at hl8 2 rfl) ?_
    refine lv_aload_n S.1 S.2.1 dX5_readClause_48 rfl (lv_at hl8 3 rfl) ?_
    refine r_cVv (As := [.ref (ad rc)]) (rest := []) S hK hZ hP12 hS12 hl8.1 1 (by decide) hF12 (C := RX5) rfl (c_X5_readLimits l D cA ad t hI F12 hW12 rc hrc) (cwV 1 S.2.2.2.2 gX5_readClause_X5_readLimits rfl rfl rfl (by decide +kernel) ⟨Nat.le_of_ble_eq_true rfl, Nat.le_of_ble_eq_true rfl⟩) rfl rfl (Nat.le_of_ble_eq_true rfl) ⟨Nat.zero_le _, Nat.zero_le _⟩ dX5_readClause_49 (fun F21 H21 locs21 hr21 hP21 hS21 => ?_)
    obtain ⟨hW21, hFc21, hr21⟩ := hr21
    have hFr21 := hFr12.tr hFc21 (by simp <;> first | omega | (simp only [isC, isJ] at *; omega))
    refine lv_goto (tgt := 74) S.1 S.2.1 dX5_readClause_52 (by decide) ?_
    exact hret 74 _ _ _ _ dX5_readClause_74 hP21 hS21 ⟨hW21, hFr21, trivial⟩
  have k22 := ci_ne rfl z_ti c9
  refine lv_aload_n S.1 S.2.1 dX5_readClause_21 rfl (lv_at hl8 2 rfl) ?_
  refine lv_iload_n S.1 S.2.1 dX5_readClause_22 rfl (lv_at hl8 0 rfl) ?_
  refine lv_aload_n S.1 S.2.1 dX5_readClause_23 rfl (lv_at hl8 2 rfl) ?_
  refine r_get S hK hP 1 (by decide) hF1 (C := RX5) (T := TX5) (N := 6) hiX5 rfl 4 (by decide) (by decide +kernel) (v := .int (nI a1)) rfl dX5_readClause_24 ?_
  refine r_cVv (As := [.int r7, .int (nI a1)]) (rest := []) S hK hZ hP hS hl8.1 1 (by decide) hF1 (C := RX5) rfl (c_X5_blame l D cA ad t hI F hW r7 (nI a1)) (cwV 2 S.2.2.2.2 gX5_readClause_X5_blame rfl rfl rfl (by decide +kernel) ⟨Nat.le_of_ble_eq_true rfl, Nat.le_of_ble_eq_true rfl⟩) rfl rfl (Nat.le_of_ble_eq_true rfl) ⟨Nat.zero_le _, Nat.zero_le _⟩ dX5_readClause_27 (fun F23 H23 locs23 hr23 hP23 hS23 => ?_)
  obtain ⟨hW23, hFc23, hr23⟩ := hr23
  have hFr23 := hFr.tr hFc23 (by simp <;> first | omega | (simp only [isC, isJ] at *; omega))
  exact hret 30 _ _ _ _ dX5_readClause_30 hP23 hS23 ⟨hW23, hFr23, trivial⟩
set_option maxHeartbeats 4000000 in
set_option maxRecDepth 100000 in
theorem c_X5_readInto (l : Launch) (D : va_G) (cA ad : Nat → Nat) (t : Nat) (hI : rI ad) (F : Nat → va_E) (hW : WT cA ad F) (rc : Nat) (hrc : isC rc) : MV l D cA ad t yX5_readInto wsX5_readInto { frames := 4, cells := 0, slots := 0, locals := 92 } [.ref (ad 1), .ref (ad rc)] F (fun F' => WT cA ad F' ∧ rFr [1, rc, rc + 1, rc + 2, rc + 3, rc + 4, rc + 5] F F' ∧ (True)) := by
  refine en_V rfl (by decide +kernel) (Nat.le_of_ble_eq_true rfl) ?_
  intro p e s m args below meth c ls0 Q S hK hZ hP hS hl0 hret
  have hl0 : lv_has ls0 3 [(0, .ref (ad 1)), (1, .ref (ad rc))] := hl0
  have hFr : rFr [1, rc, rc + 1, rc + 2, rc + 3, rc + 4, rc + 5] F F := rFr.rf
  have hiX5 : ∀ w ∈ u_ws RX5 TX5 6, w ∈ wsX5_readInto := by decide +kernel
  refine lv_aload_n S.1 S.2.1 dX5_readInto_0 rfl (lv_at hl0 1 rfl) ?_
  obtain ⟨sl2, fm2, tn2, rn2, bn2, hF2, hb2_1, hb2_2, hb2_3⟩ := wt_C hW hrc
  refine r_cVv (As := []) (rest := []) S hK hZ hP hS hl0.1 rc (lt_C hrc) hF2 (C := RX0) rfl (c_X0_clear l D cA ad t hI F hW rc hrc) (cwV 0 S.2.2.2.2 gX5_readInto_X0_clear rfl rfl rfl (by decide +kernel) ⟨Nat.le_of_ble_eq_true rfl, Nat.le_of_ble_eq_true rfl⟩) rfl rfl (Nat.le_of_ble_eq_true rfl) ⟨Nat.zero_le _, Nat.zero_le _⟩ dX5_readInto_1 (fun F1 H1 locs1 hr1 hP1 hS1 => ?_)
  obtain ⟨hW1, hFc1, hr1⟩ := hr1
  have hFr1 := hFr.tr hFc1 (by simp <;> first | omega | (simp only [isC, isJ] at *; omega))
  refine lv_aload_n S.1 S.2.1 dX5_readInto_4 rfl (lv_at hl0 0 rfl) ?_
  refine lv_iconst (v := (nI 0)) S.1 S.2.1 dX5_readInto_5 (by decide +kernel) ?_
  obtain ⟨n3, a3, f3, fa3, nu3, hF3, hn3, ha3⟩ := wt_text hW1
  refine r_put S hI hK hP1 hS1 1 (by decide) hF3 (C := RX5) (T := TX5) (N := 6) hiX5 tyX5_ok nmX5 rfl 4 (by decide) (by decide +kernel) rfl rfl rfl (Nat.le_of_ble_eq_true rfl) dX5_readInto_6 (fun F4 H4 locs4 eF4 hP4 hS4 => ?_)
  have hF4 : F4 1 = .inr (5, [.ref (ad 2), .int (nI n3), .int f3, .int fa3, .int (nI 0), .int nu3]) := by rw [eF4]; exact va_up_self _ _ _
  have hW4 := hW1.up eF4 (ok_text ⟨n3, 0, f3, fa3, nu3, rfl, by omega, by omega⟩)
  have hFr4 := hFr1.up eF4 (by simp <;> first | omega | (simp only [isC, isJ] at *; omega))
  refine lv_aload_n S.1 S.2.1 dX5_readInto_9 rfl (lv_at hl0 0 rfl) ?_
  refine lv_iconst (v := (nI 0)) S.1 S.2.1 dX5_readInto_10 (by decide +kernel) ?_
  refine r_put S hI hK hP4 hS4 1 (by decide) hF4 (C := RX5) (T := TX5) (N := 6) hiX5 tyX5_ok nmX5 rfl 2 (by decide) (by decide +kernel) rfl rfl rfl (Nat.le_of_ble_eq_true rfl) dX5_readInto_11 (fun F5 H5 locs5 eF5 hP5 hS5 => ?_)
  have hF5 : F5 1 = .inr (5, [.ref (ad 2), .int (nI n3), .int (nI 0), .int fa3, .int (nI 0), .int nu3]) := by rw [eF5]; exact va_up_self _ _ _
  have hW5 := hW4.up eF5 (ok_text ⟨n3, 0, (nI 0), fa3, nu3, rfl, by omega, by omega⟩)
  have hFr5 := hFr4.up eF5 (by simp <;> first | omega | (simp only [isC, isJ] at *; omega))
  refine lv_aload_n S.1 S.2.1 dX5_readInto_14 rfl (lv_at hl0 0 rfl) ?_
  refine lv_iconst (v := (-1)) S.1 S.2.1 dX5_readInto_15 (by decide +kernel) ?_
  refine r_put S hI hK hP5 hS5 1 (by decide) hF5 (C := RX5) (T := TX5) (N := 6) hiX5 tyX5_ok nmX5 rfl 3 (by decide) (by decide +kernel) rfl rfl rfl (Nat.le_of_ble_eq_true rfl) dX5_readInto_16 (fun F6 H6 locs6 eF6 hP6 hS6 => ?_)
  have hF6 : F6 1 = .inr (5, [.ref (ad 2), .int (nI n3), .int (nI 0), .int (-1), .int (nI 0), .int nu3]) := by rw [eF6]; exact va_up_self _ _ _
  have hW6 := hW5.up eF6 (ok_text ⟨n3, 0, (nI 0), (-1), nu3, rfl, by omega, by omega⟩)
  have hFr6 := hFr5.up eF6 (by simp <;> first | omega | (simp only [isC, isJ] at *; omega))
  refine lv_iconst (v := (nI 0)) S.1 S.2.1 dX5_readInto_19 (by decide +kernel) ?_
  refine lv_istore_n (lv' := [(2, .int (nI 0)), (0, .ref (ad 1)), (1, .ref (ad rc))]) S.1 S.2.1 dX5_readInto_20 rfl hl0 (by decide) rfl (fun ls7 hl7 => ?_)
  have lp8 : ∀ (n8 : Nat) (q28 : Nat), ∀ (Fl8 : Nat → va_E) (Hl8 : Heap) (lol8 : List Loc), q28 ≤ 240 → 240 - q28 < n8 → WT cA ad Fl8 → rFr [1, rc, rc + 1, rc + 2, rc + 3, rc + 4, rc + 5] F Fl8 → va_P D vwCl (rW ad Fl8) Hl8 → va_S (rA ad) s.heap Hl8 lol8 → ∀ (ls : Array Slot), lv_has ls 3 [(2, .int (nI q28)), (0, .ref (ad 1)), (1, .ref (ad rc))] → W p l e { frames := 4, cells := 0, slots := 0, locals := 92 } s m args below meth c Hl8 lol8 0 0 Q (F0 m 21 ls []) := by
    intro n8
    induction n8 with
    | zero =>
      intro q28 Fl8 Hl8 lol8 iv8_0 hm8 hWl8 hFl8 hPl8 hSl8 ls8 hl8
      exact absurd hm8 (Nat.not_lt_zero _)
    | succ n8 ih8 =>
      intro q28 Fl8 Hl8 lol8 iv8_0 hm8 hWl8 hFl8 hPl8 hSl8 ls8 hl8
      refine lv_iload_n S.1 S.2.1 dX5_readInto_21 rfl (lv_at hl8 0 rfl) ?_
      refine lv_sipush (v := (nI 240)) S.1 S.2.1 dX5_readInto_22 (by decide +kernel) ?_
      refine lv_icmp_ge (tgt := 53) S.1 S.2.1 dX5_readInto_25 (by decide) (fun c9 => ?_) (fun c9 => ?_)
      · skip
        have k10 := ci_le (nI_toInt (n := 240) (by omega)) (nI_toInt (n := q28) (by omega)) c9
        refine lv_aload_n S.1 S.2.1 dX5_readInto_53 rfl (lv_at hl8 1 rfl) ?_
        refine lv_iconst (v := (nI 0)) S.1 S.2.1 dX5_readInto_54 (by decide +kernel) ?_
        obtain ⟨n11, a11, f11, fa11, nu11, hF11, hn11, ha11⟩ := wt_text hWl8
        refine r_put S hI hK hPl8 hSl8 1 (by decide) hF11 (C := RX5) (T := TX5) (N := 6) hiX5 tyX5_ok nmX5 rfl 1 (by decide) (by decide +kernel) rfl rfl rfl (Nat.le_of_ble_eq_true rfl) dX5_readInto_55 (fun F12 H12 locs12 eF12 hP12 hS12 => ?_)
        have hF12 : F12 1 = .inr (5, [.ref (ad 2), .int (nI 0), .int f11, .int fa11, .int (nI a11), .int nu11]) := by rw [eF12]; exact va_up_self _ _ _
        have hW12 := hWl8.up eF12 (ok_text ⟨0, a11, f11, fa11, nu11, rfl, by omega, by omega⟩)
        have hFr12 := hFl8.up eF12 (by simp <;> first | omega | (simp only [isC, isJ] at *; omega))
        exact hret 58 _ _ _ _ dX5_readInto_58 hP12 hS12 ⟨hW12, hFr12, trivial⟩
      have k13 := ci_nle (nI_toInt (n := 240) (by omega)) (nI_toInt (n := q28) (by omega)) c9
      refine lv_aload_n S.1 S.2.1 dX5_readInto_28 rfl (lv_at hl8 1 rfl) ?_
      obtain ⟨n14, a14, f14, fa14, nu14, hF14, hn14, ha14⟩ := wt_text hWl8
      refine r_get S hK hPl8 1 (by decide) hF14 (C := RX5) (T := TX5) (N := 6) hiX5 rfl 2 (by decide) (by decide +kernel) (v := .int f14) rfl dX5_readInto_29 ?_
      refine lv_if_ne (tgt := 53) S.1 S.2.1 dX5_readInto_32 (by decide) (fun c15 => ?_) (fun c15 => ?_)
      · skip
        have k16 := ci_ne rfl z_ti c15
        refine lv_aload_n S.1 S.2.1 dX5_readInto_53 rfl (lv_at hl8 1 rfl) ?_
        refine lv_iconst (v := (nI 0)) S.1 S.2.1 dX5_readInto_54 (by decide +kernel) ?_
        refine r_put S hI hK hPl8 hSl8 1 (by decide) hF14 (C := RX5) (T := TX5) (N := 6) hiX5 tyX5_ok nmX5 rfl 1 (by decide) (by decide +kernel) rfl rfl rfl (Nat.le_of_ble_eq_true rfl) dX5_readInto_55 (fun F17 H17 locs17 eF17 hP17 hS17 => ?_)
        have hF17 : F17 1 = .inr (5, [.ref (ad 2), .int (nI 0), .int f14, .int fa14, .int (nI a14), .int nu14]) := by rw [eF17]; exact va_up_self _ _ _
        have hW17 := hWl8.up eF17 (ok_text ⟨0, a14, f14, fa14, nu14, rfl, by omega, by omega⟩)
        have hFr17 := hFl8.up eF17 (by simp <;> first | omega | (simp only [isC, isJ] at *; omega))
        exact hret 58 _ _ _ _ dX5_readInto_58 hP17 hS17 ⟨hW17, hFr17, trivial⟩
      have k18 := ci_eq rfl z_ti c15
      refine lv_aload_n S.1 S.2.1 dX5_readInto_35 rfl (lv_at hl8 1 rfl) ?_
      refine r_cVi (As := []) (rest := []) S hK hZ hPl8 hSl8 hl8.1 1 (by decide) hF14 (C := RX5) rfl (c_X5_skipBlanks l D cA ad t hI Fl8 hWl8 ) (cwV 0 S.2.2.2.2 gX5_readInto_X5_skipBlanks rfl rfl rfl (by decide +kernel) ⟨Nat.le_of_ble_eq_true rfl, Nat.le_of_ble_eq_true rfl⟩) rfl rfl (Nat.le_of_ble_eq_true rfl) ⟨Nat.zero_le _, Nat.zero_le _⟩ dX5_readInto_36 (fun r19 F19 H19 locs19 hr19 hP19 hS19 => ?_)
      obtain ⟨hW19, hFc19, hr19⟩ := hr19
      have hFr19 := hFl8.tr hFc19 (by simp <;> first | omega | (simp only [isC, isJ] at *; omega))
      obtain ⟨⟨b20, hb20, rfl⟩, hx20⟩ := hr19
      obtain ⟨n21, a21, f21, fa21, nu21, hF21, hn21, ha21⟩ := wt_text hW19
      have hA22 := fN_of (k := 4) (a := a21) hF21 rfl (by omega)
      have hL22 := fN_of (k := 1) (a := n21) hF21 rfl (by omega)
      have hy20 : b20 ≠ 0 → a21 < n21 := fun q => by have := hx20 (nI_ne0 (by omega) (by omega)); omega
      refine lv_if_eq (tgt := 53) S.1 S.2.1 dX5_readInto_39 (by decide) (fun c23 => ?_) (fun c23 => ?_)
      · skip
        have k24 := ci_eq (nI_toInt (n := b20) (by omega)) z_ti c23
        refine lv_aload_n S.1 S.2.1 dX5_readInto_53 rfl (lv_at hl8 1 rfl) ?_
        refine lv_iconst (v := (nI 0)) S.1 S.2.1 dX5_readInto_54 (by decide +kernel) ?_
        refine r_put S hI hK hP19 hS19 1 (by decide) hF21 (C := RX5) (T := TX5) (N := 6) hiX5 tyX5_ok nmX5 rfl 1 (by decide) (by decide +kernel) rfl rfl rfl (Nat.le_of_ble_eq_true rfl) dX5_readInto_55 (fun F25 H25 locs25 eF25 hP25 hS25 => ?_)
        have hF25 : F25 1 = .inr (5, [.ref (ad 2), .int (nI 0), .int f21, .int fa21, .int (nI a21), .int nu21]) := by rw [eF25]; exact va_up_self _ _ _
        have hW25 := hW19.up eF25 (ok_text ⟨0, a21, f21, fa21, nu21, rfl, by omega, by omega⟩)
        have hFr25 := hFr19.up eF25 (by simp <;> first | omega | (simp only [isC, isJ] at *; omega))
        exact hret 58 _ _ _ _ dX5_readInto_58 hP25 hS25 ⟨hW25, hFr25, trivial⟩
      have k26 := ci_ne (nI_toInt (n := b20) (by omega)) z_ti c23
      refine lv_aload_n S.1 S.2.1 dX5_readInto_42 rfl (lv_at hl8 1 rfl) ?_
      refine lv_aload_n S.1 S.2.1 dX5_readInto_43 rfl (lv_at hl8 2 rfl) ?_
      refine r_cVv (As := [.ref (ad rc)]) (rest := []) S hK hZ hP19 hS19 hl8.1 1 (by decide) hF21 (C := RX5) rfl (c_X5_readClause l D cA ad t hI F19 hW19 rc hrc (hx20 (nI_ne0 (by omega) (by omega)))) (cwV 1 S.2.2.2.2 gX5_readInto_X5_readClause rfl rfl rfl (by decide +kernel) ⟨Nat.le_of_ble_eq_true rfl, Nat.le_of_ble_eq_true rfl⟩) rfl rfl (Nat.le_of_ble_eq_true rfl) ⟨Nat.zero_le _, Nat.zero_le _⟩ dX5_readInto_44 (fun F27 H27 locs27 hr27 hP27 hS27 => ?_)
      obtain ⟨hW27, hFc27, hr27⟩ := hr27
      have hFr27 := hFr19.tr hFc27 (by simp <;> first | omega | (simp only [isC, isJ] at *; omega))
      refine lv_iinc (v := (nI (q28 + 1))) (lv' := [(2, .int (nI (q28 + 1))), (0, .ref (ad 1)), (1, .ref (ad rc))]) S.1 S.2.1 dX5_readInto_47 hl8 (k := 0) rfl (nI_add _ 1) (by decide) rfl (fun ls28 hl28 => ?_)
      refine lv_goto (tgt := 21) S.1 S.2.1 dX5_readInto_50 (by decide) ?_
      exact ih8 (q28 + 1) F27 H27 locs27 (by omega) (by omega) hW27 hFr27 hP27 hS27 ls28 (lv_sub hl28 [0, 1, 2] rfl)
  exact lp8 (240 - (0) + 1) (0) F6 H6 locs6 (by omega) (by omega) hW6 hFr6 hP6 hS6 ls7 (lv_sub hl7 [0, 1, 2] rfl)
