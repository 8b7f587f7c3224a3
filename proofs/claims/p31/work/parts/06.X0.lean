set_option maxHeartbeats 4000000 in
set_option maxRecDepth 100000 in
theorem c_X0_clear (l : Launch) (D : va_G) (cA ad : Nat → Nat) (t : Nat) (hI : rI ad) (F : Nat → va_E) (hW : WT cA ad F) (rc : Nat) (hrc : isC rc) : MV l D cA ad t yX0_clear wsX0_clear { frames := 0, cells := 0, slots := 0, locals := 0 } [.ref (ad rc)] F (fun F' => WT cA ad F' ∧ rFr [rc] F F' ∧ (True)) := by
  refine en_V rfl (by decide +kernel) (Nat.le_of_ble_eq_true rfl) ?_
  intro p e s m args below meth c ls0 Q S hK hZ hP hS hl0 hret
  have hl0 : lv_has ls0 1 [(0, .ref (ad rc))] := hl0
  have hFr : rFr [rc] F F := rFr.rf
  have hiX0 : ∀ w ∈ u_ws RX0 TX0 10, w ∈ wsX0_clear := by decide +kernel
  refine lv_aload_n S.1 S.2.1 dX0_clear_0 rfl (lv_at hl0 0 rfl) ?_
  refine lv_iconst (v := (nI 0)) S.1 S.2.1 dX0_clear_1 (by decide +kernel) ?_
  obtain ⟨sl1, fm1, tn1, rn1, bn1, hF1, hb1_1, hb1_2, hb1_3⟩ := wt_C hW hrc
  refine r_put S hI hK hP hS rc (lt_C hrc) hF1 (C := RX0) (T := TX0) (N := 10) hiX0 tyX0_ok nmX0 rfl 0 (by decide) (by decide +kernel) rfl rfl rfl (Nat.le_of_ble_eq_true rfl) dX0_clear_2 (fun F2 H2 locs2 eF2 hP2 hS2 => ?_)
  have hF2 : F2 rc = .inr (0, [.int (nI 0), .int fm1, .int (nI tn1), .int (nI rn1), .int bn1, .ref (ad (rc + 1)), .ref (ad (rc + 2)), .ref (ad (rc + 3)), .ref (ad (rc + 4)), .ref (ad (rc + 5))]) := by rw [eF2]; exact va_up_self _ _ _
  have hW2 := hW.up eF2 (ok_C hrc ⟨0, fm1, tn1, rn1, bn1, rfl, by omega, by omega, by omega⟩)
  have hFr2 := hFr.up eF2 (by simp <;> first | omega | (simp only [isC, isJ] at *; omega))
  refine lv_aload_n S.1 S.2.1 dX0_clear_5 rfl (lv_at hl0 0 rfl) ?_
  refine lv_iconst (v := (nI 0)) S.1 S.2.1 dX0_clear_6 (by decide +kernel) ?_
  refine r_put S hI hK hP2 hS2 rc (lt_C hrc) hF2 (C := RX0) (T := TX0) (N := 10) hiX0 tyX0_ok nmX0 rfl 1 (by decide) (by decide +kernel) rfl rfl rfl (Nat.le_of_ble_eq_true rfl) dX0_clear_7 (fun F3 H3 locs3 eF3 hP3 hS3 => ?_)
  have hF3 : F3 rc = .inr (0, [.int (nI 0), .int (nI 0), .int (nI tn1), .int (nI rn1), .int bn1, .ref (ad (rc + 1)), .ref (ad (rc + 2)), .ref (ad (rc + 3)), .ref (ad (rc + 4)), .ref (ad (rc + 5))]) := by rw [eF3]; exact va_up_self _ _ _
  have hW3 := hW2.up eF3 (ok_C hrc ⟨0, (nI 0), tn1, rn1, bn1, rfl, by omega, by omega, by omega⟩)
  have hFr3 := hFr2.up eF3 (by simp <;> first | omega | (simp only [isC, isJ] at *; omega))
  refine lv_aload_n S.1 S.2.1 dX0_clear_10 rfl (lv_at hl0 0 rfl) ?_
  refine lv_iconst (v := (nI 0)) S.1 S.2.1 dX0_clear_11 (by decide +kernel) ?_
  refine r_put S hI hK hP3 hS3 rc (lt_C hrc) hF3 (C := RX0) (T := TX0) (N := 10) hiX0 tyX0_ok nmX0 rfl 2 (by decide) (by decide +kernel) rfl rfl rfl (Nat.le_of_ble_eq_true rfl) dX0_clear_12 (fun F4 H4 locs4 eF4 hP4 hS4 => ?_)
  have hF4 : F4 rc = .inr (0, [.int (nI 0), .int (nI 0), .int (nI 0), .int (nI rn1), .int bn1, .ref (ad (rc + 1)), .ref (ad (rc + 2)), .ref (ad (rc + 3)), .ref (ad (rc + 4)), .ref (ad (rc + 5))]) := by rw [eF4]; exact va_up_self _ _ _
  have hW4 := hW3.up eF4 (ok_C hrc ⟨0, (nI 0), 0, rn1, bn1, rfl, by omega, by omega, by omega⟩)
  have hFr4 := hFr3.up eF4 (by simp <;> first | omega | (simp only [isC, isJ] at *; omega))
  refine lv_aload_n S.1 S.2.1 dX0_clear_15 rfl (lv_at hl0 0 rfl) ?_
  refine lv_iconst (v := (nI 0)) S.1 S.2.1 dX0_clear_16 (by decide +kernel) ?_
  refine r_put S hI hK hP4 hS4 rc (lt_C hrc) hF4 (C := RX0) (T := TX0) (N := 10) hiX0 tyX0_ok nmX0 rfl 3 (by decide) (by decide +kernel) rfl rfl rfl (Nat.le_of_ble_eq_true rfl) dX0_clear_17 (fun F5 H5 locs5 eF5 hP5 hS5 => ?_)
  have hF5 : F5 rc = .inr (0, [.int (nI 0), .int (nI 0), .int (nI 0), .int (nI 0), .int bn1, .ref (ad (rc + 1)), .ref (ad (rc + 2)), .ref (ad (rc + 3)), .ref (ad (rc + 4)), .ref (ad (rc + 5))]) := by rw [eF5]; exact va_up_self _ _ _
  have hW5 := hW4.up eF5 (ok_C hrc ⟨0, (nI 0), 0, 0, bn1, rfl, by omega, by omega, by omega⟩)
  have hFr5 := hFr4.up eF5 (by simp <;> first | omega | (simp only [isC, isJ] at *; omega))
  refine lv_aload_n S.1 S.2.1 dX0_clear_20 rfl (lv_at hl0 0 rfl) ?_
  refine lv_iconst (v := (nI 0)) S.1 S.2.1 dX0_clear_21 (by decide +kernel) ?_
  refine r_put S hI hK hP5 hS5 rc (lt_C hrc) hF5 (C := RX0) (T := TX0) (N := 10) hiX0 tyX0_ok nmX0 rfl 4 (by decide) (by decide +kernel) rfl rfl rfl (Nat.le_of_ble_eq_true rfl) dX0_clear_22 (fun F6 H6 locs6 eF6 hP6 hS6 => ?_)
  have hF6 : F6 rc = .inr (0, [.int (nI 0), .int (nI 0), .int (nI 0), .int (nI 0), .int (nI 0), .ref (ad (rc + 1)), .ref (ad (rc + 2)), .ref (ad (rc + 3)), .ref (ad (rc + 4)), .ref (ad (rc + 5))]) := by rw [eF6]; exact va_up_self _ _ _
  have hW6 := hW5.up eF6 (ok_C hrc ⟨0, (nI 0), 0, 0, (nI 0), rfl, by omega, by omega, by omega⟩)
  have hFr6 := hFr5.up eF6 (by simp <;> first | omega | (simp only [isC, isJ] at *; omega))
  exact hret 25 _ _ _ _ dX0_clear_25 hP6 hS6 ⟨hW6, hFr6, trivial⟩
set_option maxHeartbeats 4000000 in
set_option maxRecDepth 100000 in
theorem c_X0_addTown (l : Launch) (D : va_G) (cA ad : Nat → Nat) (t : Nat) (hI : rI ad) (F : Nat → va_E) (hW : WT cA ad F) (rc : Nat) (hrc : isC rc) (p1 : Int32) (p2 : Int32) (p3 : Int32) : MV l D cA ad t yX0_addTown wsX0_addTown { frames := 0, cells := 0, slots := 0, locals := 0 } [.ref (ad rc), .int p1, .int p2, .int p3] F (fun F' => WT cA ad F' ∧ rFr [rc, rc + 1, rc + 2, rc + 3] F F' ∧ (True)) := by
  refine en_V rfl (by decide +kernel) (Nat.le_of_ble_eq_true rfl) ?_
  intro p e s m args below meth c ls0 Q S hK hZ hP hS hl0 hret
  have hl0 : lv_has ls0 4 [(0, .ref (ad rc)), (1, .int p1), (2, .int p2), (3, .int p3)] := hl0
  have hFr : rFr [rc, rc + 1, rc + 2, rc + 3] F F := rFr.rf
  have hiX0 : ∀ w ∈ u_ws RX0 TX0 10, w ∈ wsX0_addTown := by decide +kernel
  refine lv_aload_n S.1 S.2.1 dX0_addTown_0 rfl (lv_at hl0 0 rfl) ?_
  obtain ⟨sl1, fm1, tn1, rn1, bn1, hF1, hb1_1, hb1_2, hb1_3⟩ := wt_C hW hrc
  refine r_get S hK hP rc (lt_C hrc) hF1 (C := RX0) (T := TX0) (N := 10) hiX0 rfl 2 (by decide) (by decide +kernel) (v := .int (nI tn1)) rfl dX0_addTown_1 ?_
  refine lv_bipush (v := (nI 8)) S.1 S.2.1 dX0_addTown_4 (by decide +kernel) ?_
  refine lv_icmp_ge (tgt := 74) S.1 S.2.1 dX0_addTown_6 (by decide) (fun c2 => ?_) (fun c2 => ?_)
  · skip
    have k3 := ci_le (nI_toInt (n := 8) (by omega)) (nI_toInt (n := tn1) (by omega)) c2
    exact hret 74 _ _ _ _ dX0_addTown_74 hP hS ⟨hW, hFr, trivial⟩
  have k4 := ci_nle (nI_toInt (n := 8) (by omega)) (nI_toInt (n := tn1) (by omega)) c2
  refine lv_aload_n S.1 S.2.1 dX0_addTown_9 rfl (lv_at hl0 0 rfl) ?_
  refine r_get S hK hP rc (lt_C hrc) hF1 (C := RX0) (T := TX0) (N := 10) hiX0 rfl 5 (by decide) (by decide +kernel) (v := .ref (ad (rc + 1))) rfl dX0_addTown_10 ?_
  refine lv_aload_n S.1 S.2.1 dX0_addTown_13 rfl (lv_at hl0 0 rfl) ?_
  refine r_get S hK hP rc (lt_C hrc) hF1 (C := RX0) (T := TX0) (N := 10) hiX0 rfl 2 (by decide) (by decide +kernel) (v := .int (nI tn1)) rfl dX0_addTown_14 ?_
  refine lv_iload_n S.1 S.2.1 dX0_addTown_17 rfl (lv_at hl0 1 rfl) ?_
  obtain ⟨g5, hF5, hg5⟩ := wt_I hW (C1_I hrc)
  refine r_iast S hI hK hP hS (rc + 1) (lt_I (C1_I hrc)) hF5 (vp_in_nI (show tn1 < 8 by omega) (by omega)) dX0_addTown_18 (fun F6 H6 locs6 eF6 hP6 hS6 => ?_)
  have hW6 := hW.up eF6 (ok_I (C1_I hrc) (okI_up hg5 (pr_of (C_u hrc (by decide) (by decide)))))
  have hFr6 := hFr.up eF6 (by simp <;> first | omega | (simp only [isC, isJ] at *; omega))
  refine lv_aload_n S.1 S.2.1 dX0_addTown_19 rfl (lv_at hl0 0 rfl) ?_
  have hF7 := (show F6 rc = F rc by rw [eF6]; exact va_up_ne _ _ (by have hh1 := hrc; unfold isC at hh1; omega)).trans hF1
  refine r_get S hK hP6 rc (lt_C hrc) hF7 (C := RX0) (T := TX0) (N := 10) hiX0 rfl 6 (by decide) (by decide +kernel) (v := .ref (ad (rc + 2))) rfl dX0_addTown_20 ?_
  refine lv_aload_n S.1 S.2.1 dX0_addTown_23 rfl (lv_at hl0 0 rfl) ?_
  refine r_get S hK hP6 rc (lt_C hrc) hF7 (C := RX0) (T := TX0) (N := 10) hiX0 rfl 2 (by decide) (by decide +kernel) (v := .int (nI tn1)) rfl dX0_addTown_24 ?_
  refine lv_iload_n S.1 S.2.1 dX0_addTown_27 rfl (lv_at hl0 2 rfl) ?_
  obtain ⟨g8, hF8, hg8⟩ := wt_I hW6 (C2_I hrc)
  refine r_iast S hI hK hP6 hS6 (rc + 2) (lt_I (C2_I hrc)) hF8 (vp_in_nI (show tn1 < 8 by omega) (by omega)) dX0_addTown_28 (fun F9 H9 locs9 eF9 hP9 hS9 => ?_)
  have hW9 := hW6.up eF9 (ok_I (C2_I hrc) (okI_up hg8 (pr_of (C_u hrc (by decide) (by decide)))))
  have hFr9 := hFr6.up eF9 (by simp <;> first | omega | (simp only [isC, isJ] at *; omega))
  refine lv_aload_n S.1 S.2.1 dX0_addTown_29 rfl (lv_at hl0 0 rfl) ?_
  have hF10 := (show F9 rc = F6 rc by rw [eF9]; exact va_up_ne _ _ (by have hh1 := hrc; unfold isC at hh1; omega)).trans hF7
  refine r_get S hK hP9 rc (lt_C hrc) hF10 (C := RX0) (T := TX0) (N := 10) hiX0 rfl 7 (by decide) (by decide +kernel) (v := .ref (ad (rc + 3))) rfl dX0_addTown_30 ?_
  refine lv_aload_n S.1 S.2.1 dX0_addTown_33 rfl (lv_at hl0 0 rfl) ?_
  refine r_get S hK hP9 rc (lt_C hrc) hF10 (C := RX0) (T := TX0) (N := 10) hiX0 rfl 2 (by decide) (by decide +kernel) (v := .int (nI tn1)) rfl dX0_addTown_34 ?_
  refine lv_iload_n S.1 S.2.1 dX0_addTown_37 rfl (lv_at hl0 3 rfl) ?_
  obtain ⟨g11, hF11, hg11⟩ := wt_I hW9 (C3_I hrc)
  refine r_iast S hI hK hP9 hS9 (rc + 3) (lt_I (C3_I hrc)) hF11 (vp_in_nI (show tn1 < 8 by omega) (by omega)) dX0_addTown_38 (fun F12 H12 locs12 eF12 hP12 hS12 => ?_)
  have hW12 := hW9.up eF12 (ok_I (C3_I hrc) (okI_up hg11 (pr_of (C_u hrc (by decide) (by decide)))))
  have hFr12 := hFr9.up eF12 (by simp <;> first | omega | (simp only [isC, isJ] at *; omega))
  refine lv_aload_n S.1 S.2.1 dX0_addTown_39 rfl (lv_at hl0 0 rfl) ?_
  refine lv_dup S.1 S.2.1 dX0_addTown_40 rfl ?_
  have hF13 := (show F12 rc = F9 rc by rw [eF12]; exact va_up_ne _ _ (by have hh1 := hrc; unfold isC at hh1; omega)).trans hF10
  refine r_get S hK hP12 rc (lt_C hrc) hF13 (C := RX0) (T := TX0) (N := 10) hiX0 rfl 4 (by decide) (by decide +kernel) (v := .int bn1) rfl dX0_addTown_41 ?_
  refine lv_iload_n S.1 S.2.1 dX0_addTown_44 rfl (lv_at hl0 1 rfl) ?_
  refine lv_bipush (v := (nI 50)) S.1 S.2.1 dX0_addTown_45 (by decide +kernel) ?_
  refine lv_icmp_ge (tgt := 59) S.1 S.2.1 dX0_addTown_47 (by decide) (fun c14 => ?_) (fun c14 => ?_)
  · skip
    have k15 := ci_le (nI_toInt (n := 50) (by omega)) rfl c14
    refine lv_iconst (v := (nI 0)) S.1 S.2.1 dX0_addTown_59 (by decide +kernel) ?_
    refine lv_ior S.1 S.2.1 dX0_addTown_60 ?_
    refine lv_topi (fun v16 e16 => ?_)
    refine r_put S hI hK hP12 hS12 rc (lt_C hrc) hF13 (C := RX0) (T := TX0) (N := 10) hiX0 tyX0_ok nmX0 rfl 4 (by decide) (by decide +kernel) rfl rfl rfl (Nat.le_of_ble_eq_true rfl) dX0_addTown_61 (fun F17 H17 locs17 eF17 hP17 hS17 => ?_)
    have hF17 : F17 rc = .inr (0, [.int (nI sl1), .int fm1, .int (nI tn1), .int (nI rn1), .int v16, .ref (ad (rc + 1)), .ref (ad (rc + 2)), .ref (ad (rc + 3)), .ref (ad (rc + 4)), .ref (ad (rc + 5))]) := by rw [eF17]; exact va_up_self _ _ _
    have hW17 := hW12.up eF17 (ok_C hrc ⟨sl1, fm1, tn1, rn1, v16, rfl, by omega, by omega, by omega⟩)
    have hFr17 := hFr12.up eF17 (by simp <;> first | omega | (simp only [isC, isJ] at *; omega))
    refine lv_aload_n S.1 S.2.1 dX0_addTown_64 rfl (lv_at hl0 0 rfl) ?_
    refine lv_dup S.1 S.2.1 dX0_addTown_65 rfl ?_
    refine r_get S hK hP17 rc (lt_C hrc) hF17 (C := RX0) (T := TX0) (N := 10) hiX0 rfl 2 (by decide) (by decide +kernel) (v := .int (nI tn1)) rfl dX0_addTown_66 ?_
    refine lv_iconst (v := (nI 1)) S.1 S.2.1 dX0_addTown_69 (by decide +kernel) ?_
    refine lv_iadd S.1 S.2.1 dX0_addTown_70 ?_
    refine lv_topi (fun v18 e18 => ?_)
    obtain rfl : v18 = nI (tn1 + 1) := e18.trans (nI_add _ _)
    refine r_put S hI hK hP17 hS17 rc (lt_C hrc) hF17 (C := RX0) (T := TX0) (N := 10) hiX0 tyX0_ok nmX0 rfl 2 (by decide) (by decide +kernel) rfl rfl rfl (Nat.le_of_ble_eq_true rfl) dX0_addTown_71 (fun F19 H19 locs19 eF19 hP19 hS19 => ?_)
    have hF19 : F19 rc = .inr (0, [.int (nI sl1), .int fm1, .int (nI (tn1 + 1)), .int (nI rn1), .int v16, .ref (ad (rc + 1)), .ref (ad (rc + 2)), .ref (ad (rc + 3)), .ref (ad (rc + 4)), .ref (ad (rc + 5))]) := by rw [eF19]; exact va_up_self _ _ _
    have hW19 := hW17.up eF19 (ok_C hrc ⟨sl1, fm1, tn1 + 1, rn1, v16, rfl, by omega, by omega, by omega⟩)
    have hFr19 := hFr17.up eF19 (by simp <;> first | omega | (simp only [isC, isJ] at *; omega))
    exact hret 74 _ _ _ _ dX0_addTown_74 hP19 hS19 ⟨hW19, hFr19, trivial⟩
  have k20 := ci_nle (nI_toInt (n := 50) (by omega)) rfl c14
  refine lv_iconst (v := (nI 1)) S.1 S.2.1 dX0_addTown_50 (by decide +kernel) ?_
  refine lv_aload_n S.1 S.2.1 dX0_addTown_51 rfl (lv_at hl0 0 rfl) ?_
  refine r_get S hK hP12 rc (lt_C hrc) hF13 (C := RX0) (T := TX0) (N := 10) hiX0 rfl 2 (by decide) (by decide +kernel) (v := .int (nI tn1)) rfl dX0_addTown_52 ?_
  refine lv_ishl S.1 S.2.1 dX0_addTown_55 ?_
  refine lv_topi (fun v21 e21 => ?_)
  refine lv_goto (tgt := 60) S.1 S.2.1 dX0_addTown_56 (by decide) ?_
  refine lv_ior S.1 S.2.1 dX0_addTown_60 ?_
  refine lv_topi (fun v22 e22 => ?_)
  refine r_put S hI hK hP12 hS12 rc (lt_C hrc) hF13 (C := RX0) (T := TX0) (N := 10) hiX0 tyX0_ok nmX0 rfl 4 (by decide) (by decide +kernel) rfl rfl rfl (Nat.le_of_ble_eq_true rfl) dX0_addTown_61 (fun F23 H23 locs23 eF23 hP23 hS23 => ?_)
  have hF23 : F23 rc = .inr (0, [.int (nI sl1), .int fm1, .int (nI tn1), .int (nI rn1), .int v22, .ref (ad (rc + 1)), .ref (ad (rc + 2)), .ref (ad (rc + 3)), .ref (ad (rc + 4)), .ref (ad (rc + 5))]) := by rw [eF23]; exact va_up_self _ _ _
  have hW23 := hW12.up eF23 (ok_C hrc ⟨sl1, fm1, tn1, rn1, v22, rfl, by omega, by omega, by omega⟩)
  have hFr23 := hFr12.up eF23 (by simp <;> first | omega | (simp only [isC, isJ] at *; omega))
  refine lv_aload_n S.1 S.2.1 dX0_addTown_64 rfl (lv_at hl0 0 rfl) ?_
  refine lv_dup S.1 S.2.1 dX0_addTown_65 rfl ?_
  refine r_get S hK hP23 rc (lt_C hrc) hF23 (C := RX0) (T := TX0) (N := 10) hiX0 rfl 2 (by decide) (by decide +kernel) (v := .int (nI tn1)) rfl dX0_addTown_66 ?_
  refine lv_iconst (v := (nI 1)) S.1 S.2.1 dX0_addTown_69 (by decide +kernel) ?_
  refine lv_iadd S.1 S.2.1 dX0_addTown_70 ?_
  refine lv_topi (fun v24 e24 => ?_)
  obtain rfl : v24 = nI (tn1 + 1) := e24.trans (nI_add _ _)
  refine r_put S hI hK hP23 hS23 rc (lt_C hrc) hF23 (C := RX0) (T := TX0) (N := 10) hiX0 tyX0_ok nmX0 rfl 2 (by decide) (by decide +kernel) rfl rfl rfl (Nat.le_of_ble_eq_true rfl) dX0_addTown_71 (fun F25 H25 locs25 eF25 hP25 hS25 => ?_)
  have hF25 : F25 rc = .inr (0, [.int (nI sl1), .int fm1, .int (nI (tn1 + 1)), .int (nI rn1), .int v22, .ref (ad (rc + 1)), .ref (ad (rc + 2)), .ref (ad (rc + 3)), .ref (ad (rc + 4)), .ref (ad (rc + 5))]) := by rw [eF25]; exact va_up_self _ _ _
  have hW25 := hW23.up eF25 (ok_C hrc ⟨sl1, fm1, tn1 + 1, rn1, v22, rfl, by omega, by omega, by omega⟩)
  have hFr25 := hFr23.up eF25 (by simp <;> first | omega | (simp only [isC, isJ] at *; omega))
  exact hret 74 _ _ _ _ dX0_addTown_74 hP25 hS25 ⟨hW25, hFr25, trivial⟩
set_option maxHeartbeats 4000000 in
set_option maxRecDepth 100000 in
theorem c_X0_addRoad (l : Launch) (D : va_G) (cA ad : Nat → Nat) (t : Nat) (hI : rI ad) (F : Nat → va_E) (hW : WT cA ad F) (rc : Nat) (hrc : isC rc) (p1 : Int32) (p2 : Int32) : MV l D cA ad t yX0_addRoad wsX0_addRoad { frames := 0, cells := 0, slots := 0, locals := 0 } [.ref (ad rc), .int p1, .int p2] F (fun F' => WT cA ad F' ∧ rFr [rc, rc + 4, rc + 5] F F' ∧ (True)) := by
  refine en_V rfl (by decide +kernel) (Nat.le_of_ble_eq_true rfl) ?_
  intro p e s m args below meth c ls0 Q S hK hZ hP hS hl0 hret
  have hl0 : lv_has ls0 3 [(0, .ref (ad rc)), (1, .int p1), (2, .int p2)] := hl0
  have hFr : rFr [rc, rc + 4, rc + 5] F F := rFr.rf
  have hiX0 : ∀ w ∈ u_ws RX0 TX0 10, w ∈ wsX0_addRoad := by decide +kernel
  refine lv_aload_n S.1 S.2.1 dX0_addRoad_0 rfl (lv_at hl0 0 rfl) ?_
  obtain ⟨sl1, fm1, tn1, rn1, bn1, hF1, hb1_1, hb1_2, hb1_3⟩ := wt_C hW hrc
  refine r_get S hK hP rc (lt_C hrc) hF1 (C := RX0) (T := TX0) (N := 10) hiX0 rfl 3 (by decide) (by decide +kernel) (v := .int (nI rn1)) rfl dX0_addRoad_1 ?_
  refine lv_bipush (v := (nI 12)) S.1 S.2.1 dX0_addRoad_4 (by decide +kernel) ?_
  refine lv_icmp_ge (tgt := 39) S.1 S.2.1 dX0_addRoad_6 (by decide) (fun c2 => ?_) (fun c2 => ?_)
  · skip
    have k3 := ci_le (nI_toInt (n := 12) (by omega)) (nI_toInt (n := rn1) (by omega)) c2
    exact hret 39 _ _ _ _ dX0_addRoad_39 hP hS ⟨hW, hFr, trivial⟩
  have k4 := ci_nle (nI_toInt (n := 12) (by omega)) (nI_toInt (n := rn1) (by omega)) c2
  refine lv_aload_n S.1 S.2.1 dX0_addRoad_9 rfl (lv_at hl0 0 rfl) ?_
  refine r_get S hK hP rc (lt_C hrc) hF1 (C := RX0) (T := TX0) (N := 10) hiX0 rfl 8 (by decide) (by decide +kernel) (v := .ref (ad (rc + 4))) rfl dX0_addRoad_10 ?_
  refine lv_aload_n S.1 S.2.1 dX0_addRoad_13 rfl (lv_at hl0 0 rfl) ?_
  refine r_get S hK hP rc (lt_C hrc) hF1 (C := RX0) (T := TX0) (N := 10) hiX0 rfl 3 (by decide) (by decide +kernel) (v := .int (nI rn1)) rfl dX0_addRoad_14 ?_
  refine lv_iload_n S.1 S.2.1 dX0_addRoad_17 rfl (lv_at hl0 1 rfl) ?_
  obtain ⟨g5, hF5, hg5⟩ := wt_I hW (C4_I hrc)
  refine r_iast S hI hK hP hS (rc + 4) (lt_I (C4_I hrc)) hF5 (vp_in_nI (show rn1 < 12 by omega) (by omega)) dX0_addRoad_18 (fun F6 H6 locs6 eF6 hP6 hS6 => ?_)
  have hW6 := hW.up eF6 (ok_I (C4_I hrc) (okI_up hg5 (pr_of (C_u hrc (by decide) (by decide)))))
  have hFr6 := hFr.up eF6 (by simp <;> first | omega | (simp only [isC, isJ] at *; omega))
  refine lv_aload_n S.1 S.2.1 dX0_addRoad_19 rfl (lv_at hl0 0 rfl) ?_
  have hF7 := (show F6 rc = F rc by rw [eF6]; exact va_up_ne _ _ (by have hh1 := hrc; unfold isC at hh1; omega)).trans hF1
  refine r_get S hK hP6 rc (lt_C hrc) hF7 (C := RX0) (T := TX0) (N := 10) hiX0 rfl 9 (by decide) (by decide +kernel) (v := .ref (ad (rc + 5))) rfl dX0_addRoad_20 ?_
  refine lv_aload_n S.1 S.2.1 dX0_addRoad_23 rfl (lv_at hl0 0 rfl) ?_
  refine r_get S hK hP6 rc (lt_C hrc) hF7 (C := RX0) (T := TX0) (N := 10) hiX0 rfl 3 (by decide) (by decide +kernel) (v := .int (nI rn1)) rfl dX0_addRoad_24 ?_
  refine lv_iload_n S.1 S.2.1 dX0_addRoad_27 rfl (lv_at hl0 2 rfl) ?_
  obtain ⟨g8, hF8, hg8⟩ := wt_I hW6 (C5_I hrc)
  refine r_iast S hI hK hP6 hS6 (rc + 5) (lt_I (C5_I hrc)) hF8 (vp_in_nI (show rn1 < 12 by omega) (by omega)) dX0_addRoad_28 (fun F9 H9 locs9 eF9 hP9 hS9 => ?_)
  have hW9 := hW6.up eF9 (ok_I (C5_I hrc) (okI_up hg8 (pr_of (C_u hrc (by decide) (by decide)))))
  have hFr9 := hFr6.up eF9 (by simp <;> first | omega | (simp only [isC, isJ] at *; omega))
  refine lv_aload_n S.1 S.2.1 dX0_addRoad_29 rfl (lv_at hl0 0 rfl) ?_
  refine lv_dup S.1 S.2.1 dX0_addRoad_30 rfl ?_
  have hF10 := (show F9 rc = F6 rc by rw [eF9]; exact va_up_ne _ _ (by have hh1 := hrc; unfold isC at hh1; omega)).trans hF7
  refine r_get S hK hP9 rc (lt_C hrc) hF10 (C := RX0) (T := TX0) (N := 10) hiX0 rfl 3 (by decide) (by decide +kernel) (v := .int (nI rn1)) rfl dX0_addRoad_31 ?_
  refine lv_iconst (v := (nI 1)) S.1 S.2.1 dX0_addRoad_34 (by decide +kernel) ?_
  refine lv_iadd S.1 S.2.1 dX0_addRoad_35 ?_
  refine lv_topi (fun v11 e11 => ?_)
  obtain rfl : v11 = nI (rn1 + 1) := e11.trans (nI_add _ _)
  refine r_put S hI hK hP9 hS9 rc (lt_C hrc) hF10 (C := RX0) (T := TX0) (N := 10) hiX0 tyX0_ok nmX0 rfl 3 (by decide) (by decide +kernel) rfl rfl rfl (Nat.le_of_ble_eq_true rfl) dX0_addRoad_36 (fun F12 H12 locs12 eF12 hP12 hS12 => ?_)
  have hF12 : F12 rc = .inr (0, [.int (nI sl1), .int fm1, .int (nI tn1), .int (nI (rn1 + 1)), .int bn1, .ref (ad (rc + 1)), .ref (ad (rc + 2)), .ref (ad (rc + 3)), .ref (ad (rc + 4)), .ref (ad (rc + 5))]) := by rw [eF12]; exact va_up_self _ _ _
  have hW12 := hW9.up eF12 (ok_C hrc ⟨sl1, fm1, tn1, rn1 + 1, bn1, rfl, by omega, by omega, by omega⟩)
  have hFr12 := hFr9.up eF12 (by simp <;> first | omega | (simp only [isC, isJ] at *; omega))
  exact hret 39 _ _ _ _ dX0_addRoad_39 hP12 hS12 ⟨hW12, hFr12, trivial⟩
set_option maxHeartbeats 4000000 in
set_option maxRecDepth 100000 in
theorem c_X0_hasTown (l : Launch) (D : va_G) (cA ad : Nat → Nat) (t : Nat) (hI : rI ad) (F : Nat → va_E) (hW : WT cA ad F) (rc : Nat) (hrc : isC rc) (p1 : Int32) : MP l D cA ad t yX0_hasTown wsX0_hasTown { frames := 0, cells := 0, slots := 0, locals := 0 } [.ref (ad rc), .int p1] F (fun r => le32 1 r ∧ (r ≠ 0 → 0 ≤ p1.toInt ∧ p1.toInt ≤ 7)) := by
  refine en_P rfl (by decide +kernel) (Nat.le_of_ble_eq_true rfl) ?_
  intro p e s m args below meth c ls0 Q S hK hZ hP hS hl0 hret
  have hl0 : lv_has ls0 2 [(0, .ref (ad rc)), (1, .int p1)] := hl0
  have hiX0 : ∀ w ∈ u_ws RX0 TX0 10, w ∈ wsX0_hasTown := by decide +kernel
  refine lv_iload_n S.1 S.2.1 dX0_hasTown_0 rfl (lv_at hl0 1 rfl) ?_
  refine lv_if_lt (tgt := 16) S.1 S.2.1 dX0_hasTown_1 (by decide) (fun c1 => ?_) (fun c1 => ?_)
  · skip
    have k2 := ci_lt rfl z_ti c1
    refine lv_iconst (v := (nI 0)) S.1 S.2.1 dX0_hasTown_16 (by decide +kernel) ?_
    exact hret 17 _ _ dX0_hasTown_17 rfl (⟨⟨0, by omega, rfl⟩, fun h => absurd rfl h⟩)
  have k3 := ci_nlt rfl z_ti c1
  refine lv_iload_n S.1 S.2.1 dX0_hasTown_4 rfl (lv_at hl0 1 rfl) ?_
  refine lv_aload_n S.1 S.2.1 dX0_hasTown_5 rfl (lv_at hl0 0 rfl) ?_
  obtain ⟨sl4, fm4, tn4, rn4, bn4, hF4, hb4_1, hb4_2, hb4_3⟩ := wt_C hW hrc
  refine r_get S hK hP rc (lt_C hrc) hF4 (C := RX0) (T := TX0) (N := 10) hiX0 rfl 2 (by decide) (by decide +kernel) (v := .int (nI tn4)) rfl dX0_hasTown_6 ?_
  refine lv_icmp_ge (tgt := 16) S.1 S.2.1 dX0_hasTown_9 (by decide) (fun c5 => ?_) (fun c5 => ?_)
  · skip
    have k6 := ci_le (nI_toInt (n := tn4) (by omega)) rfl c5
    refine lv_iconst (v := (nI 0)) S.1 S.2.1 dX0_hasTown_16 (by decide +kernel) ?_
    exact hret 17 _ _ dX0_hasTown_17 rfl (⟨⟨0, by omega, rfl⟩, fun h => absurd rfl h⟩)
  have k7 := ci_nle (nI_toInt (n := tn4) (by omega)) rfl c5
  refine lv_iconst (v := (nI 1)) S.1 S.2.1 dX0_hasTown_12 (by decide +kernel) ?_
  refine lv_goto (tgt := 17) S.1 S.2.1 dX0_hasTown_13 (by decide) ?_
  exact hret 17 _ _ dX0_hasTown_17 rfl (⟨⟨1, by omega, rfl⟩, fun _ => ⟨by omega, by omega⟩⟩)
set_option maxHeartbeats 4000000 in
set_option maxRecDepth 100000 in
theorem c_X0_hasRoad (l : Launch) (D : va_G) (cA ad : Nat → Nat) (t : Nat) (hI : rI ad) (F : Nat → va_E) (hW : WT cA ad F) (rc : Nat) (hrc : isC rc) (p1 : Int32) : MP l D cA ad t yX0_hasRoad wsX0_hasRoad { frames := 0, cells := 0, slots := 0, locals := 0 } [.ref (ad rc), .int p1] F (fun r => le32 1 r ∧ (r ≠ 0 → 0 ≤ p1.toInt ∧ p1.toInt ≤ 11)) := by
  refine en_P rfl (by decide +kernel) (Nat.le_of_ble_eq_true rfl) ?_
  intro p e s m args below meth c ls0 Q S hK hZ hP hS hl0 hret
  have hl0 : lv_has ls0 2 [(0, .ref (ad rc)), (1, .int p1)] := hl0
  have hiX0 : ∀ w ∈ u_ws RX0 TX0 10, w ∈ wsX0_hasRoad := by decide +kernel
  refine lv_iload_n S.1 S.2.1 dX0_hasRoad_0 rfl (lv_at hl0 1 rfl) ?_
  refine lv_if_lt (tgt := 16) S.1 S.2.1 dX0_hasRoad_1 (by decide) (fun c1 => ?_) (fun c1 => ?_)
  · skip
    have k2 := ci_lt rfl z_ti c1
    refine lv_iconst (v := (nI 0)) S.1 S.2.1 dX0_hasRoad_16 (by decide +kernel) ?_
    exact hret 17 _ _ dX0_hasRoad_17 rfl (⟨⟨0, by omega, rfl⟩, fun h => absurd rfl h⟩)
  have k3 := ci_nlt rfl z_ti c1
  refine lv_iload_n S.1 S.2.1 dX0_hasRoad_4 rfl (lv_at hl0 1 rfl) ?_
  refine lv_aload_n S.1 S.2.1 dX0_hasRoad_5 rfl (lv_at hl0 0 rfl) ?_
  obtain ⟨sl4, fm4, tn4, rn4, bn4, hF4, hb4_1, hb4_2, hb4_3⟩ := wt_C hW hrc
  refine r_get S hK hP rc (lt_C hrc) hF4 (C := RX0) (T := TX0) (N := 10) hiX0 rfl 3 (by decide) (by decide +kernel) (v := .int (nI rn4)) rfl dX0_hasRoad_6 ?_
  refine lv_icmp_ge (tgt := 16) S.1 S.2.1 dX0_hasRoad_9 (by decide) (fun c5 => ?_) (fun c5 => ?_)
  · skip
    have k6 := ci_le (nI_toInt (n := rn4) (by omega)) rfl c5
    refine lv_iconst (v := (nI 0)) S.1 S.2.1 dX0_hasRoad_16 (by decide +kernel) ?_
    exact hret 17 _ _ dX0_hasRoad_17 rfl (⟨⟨0, by omega, rfl⟩, fun h => absurd rfl h⟩)
  have k7 := ci_nle (nI_toInt (n := rn4) (by omega)) rfl c5
  refine lv_iconst (v := (nI 1)) S.1 S.2.1 dX0_hasRoad_12 (by decide +kernel) ?_
  refine lv_goto (tgt := 17) S.1 S.2.1 dX0_hasRoad_13 (by decide) ?_
  exact hret 17 _ _ dX0_hasRoad_17 rfl (⟨⟨1, by omega, rfl⟩, fun _ => ⟨by omega, by omega⟩⟩)
set_option maxHeartbeats 4000000 in
set_option maxRecDepth 100000 in
theorem c_X0_allTowns (l : Launch) (D : va_G) (cA ad : Nat → Nat) (t : Nat) (hI : rI ad) (F : Nat → va_E) (hW : WT cA ad F) (rc : Nat) (hrc : isC rc) : MP l D cA ad t yX0_allTowns wsX0_allTowns { frames := 0, cells := 0, slots := 0, locals := 0 } [.ref (ad rc)] F (fun r => ∃ k : Nat, k ≤ 8 ∧ r = (nI 1) <<< (nI k &&& 31) - nI 1) := by
  refine en_P rfl (by decide +kernel) (Nat.le_of_ble_eq_true rfl) ?_
  intro p e s m args below meth c ls0 Q S hK hZ hP hS hl0 hret
  have hl0 : lv_has ls0 1 [(0, .ref (ad rc))] := hl0
  have hiX0 : ∀ w ∈ u_ws RX0 TX0 10, w ∈ wsX0_allTowns := by decide +kernel
  refine lv_iconst (v := (nI 1)) S.1 S.2.1 dX0_allTowns_0 (by decide +kernel) ?_
  refine lv_aload_n S.1 S.2.1 dX0_allTowns_1 rfl (lv_at hl0 0 rfl) ?_
  obtain ⟨sl1, fm1, tn1, rn1, bn1, hF1, hb1_1, hb1_2, hb1_3⟩ := wt_C hW hrc
  refine r_get S hK hP rc (lt_C hrc) hF1 (C := RX0) (T := TX0) (N := 10) hiX0 rfl 2 (by decide) (by decide +kernel) (v := .int (nI tn1)) rfl dX0_allTowns_2 ?_
  refine lv_ishl S.1 S.2.1 dX0_allTowns_5 ?_
  refine lv_topi (fun v2 e2 => ?_)
  refine lv_iconst (v := (nI 1)) S.1 S.2.1 dX0_allTowns_6 (by decide +kernel) ?_
  refine lv_isub S.1 S.2.1 dX0_allTowns_7 ?_
  refine lv_topi (fun v3 e3 => ?_)
  exact hret 8 _ _ dX0_allTowns_8 rfl (⟨tn1, by omega, by rw [e3, e2]⟩)
set_option maxHeartbeats 4000000 in
set_option maxRecDepth 100000 in
theorem c_X0_isBanned (l : Launch) (D : va_G) (cA ad : Nat → Nat) (t : Nat) (hI : rI ad) (F : Nat → va_E) (hW : WT cA ad F) (rc : Nat) (hrc : isC rc) (p1 : Int32) : MP l D cA ad t yX0_isBanned wsX0_isBanned { frames := 0, cells := 0, slots := 0, locals := 0 } [.ref (ad rc), .int p1] F (fun r => le32 1 r) := by
  refine en_P rfl (by decide +kernel) (Nat.le_of_ble_eq_true rfl) ?_
  intro p e s m args below meth c ls0 Q S hK hZ hP hS hl0 hret
  have hl0 : lv_has ls0 2 [(0, .ref (ad rc)), (1, .int p1)] := hl0
  have hiX0 : ∀ w ∈ u_ws RX0 TX0 10, w ∈ wsX0_isBanned := by decide +kernel
  refine lv_aload_n S.1 S.2.1 dX0_isBanned_0 rfl (lv_at hl0 0 rfl) ?_
  obtain ⟨sl1, fm1, tn1, rn1, bn1, hF1, hb1_1, hb1_2, hb1_3⟩ := wt_C hW hrc
  refine r_get S hK hP rc (lt_C hrc) hF1 (C := RX0) (T := TX0) (N := 10) hiX0 rfl 4 (by decide) (by decide +kernel) (v := .int bn1) rfl dX0_isBanned_1 ?_
  refine lv_iload_n S.1 S.2.1 dX0_isBanned_4 rfl (lv_at hl0 1 rfl) ?_
  refine lv_ishr S.1 S.2.1 dX0_isBanned_5 ?_
  refine lv_topi (fun v2 e2 => ?_)
  refine lv_iconst (v := (nI 1)) S.1 S.2.1 dX0_isBanned_6 (by decide +kernel) ?_
  refine lv_iand S.1 S.2.1 dX0_isBanned_7 ?_
  refine lv_topi (fun v3 e3 => ?_)
  refine lv_if_eq (tgt := 15) S.1 S.2.1 dX0_isBanned_8 (by decide) (fun c4 => ?_) (fun c4 => ?_)
  · skip
    have k5 := ci_eq rfl z_ti c4
    refine lv_iconst (v := (nI 0)) S.1 S.2.1 dX0_isBanned_15 (by decide +kernel) ?_
    exact hret 16 _ _ dX0_isBanned_16 rfl (⟨0, by omega, rfl⟩)
  have k6 := ci_ne rfl z_ti c4
  refine lv_iconst (v := (nI 1)) S.1 S.2.1 dX0_isBanned_11 (by decide +kernel) ?_
  refine lv_goto (tgt := 16) S.1 S.2.1 dX0_isBanned_12 (by decide) ?_
  exact hret 16 _ _ dX0_isBanned_16 rfl (⟨1, by omega, rfl⟩)
set_option maxHeartbeats 4000000 in
set_option maxRecDepth 100000 in
theorem c_X0_worksIn (l : Launch) (D : va_G) (cA ad : Nat → Nat) (t : Nat) (hI : rI ad) (F : Nat → va_E) (hW : WT cA ad F) (rc : Nat) (hrc : isC rc) (p1 : Int32) (p2 : Int32) : MP l D cA ad t yX0_worksIn wsX0_worksIn { frames := 1, cells := 0, slots := 0, locals := 21 } [.ref (ad rc), .int p1, .int p2] F (fun r => le32 1 r ∧ (r ≠ 0 → 0 ≤ p1.toInt ∧ p1.toInt ≤ 7)) := by
  refine en_P rfl (by decide +kernel) (Nat.le_of_ble_eq_true rfl) ?_
  intro p e s m args below meth c ls0 Q S hK hZ hP hS hl0 hret
  have hl0 : lv_has ls0 3 [(0, .ref (ad rc)), (1, .int p1), (2, .int p2)] := hl0
  have hiX0 : ∀ w ∈ u_ws RX0 TX0 10, w ∈ wsX0_worksIn := by decide +kernel
  refine lv_aload_n S.1 S.2.1 dX0_worksIn_0 rfl (lv_at hl0 0 rfl) ?_
  refine lv_iload_n S.1 S.2.1 dX0_worksIn_1 rfl (lv_at hl0 1 rfl) ?_
  obtain ⟨sl2, fm2, tn2, rn2, bn2, hF2, hb2_1, hb2_2, hb2_3⟩ := wt_C hW hrc
  refine r_cVp (As := [.int p1]) (rest := []) S hK hZ hP hS hl0.1 rc (lt_C hrc) hF2 (C := RX0) rfl (c_X0_hasTown l D cA ad t hI F hW rc hrc p1) (cwV 1 S.2.2.2.2 gX0_worksIn_X0_hasTown rfl rfl rfl (by decide +kernel) ⟨Nat.le_of_ble_eq_true rfl, Nat.le_of_ble_eq_true rfl⟩) rfl rfl (Nat.le_of_ble_eq_true rfl) ⟨Nat.zero_le _, Nat.zero_le _⟩ dX0_worksIn_2 (fun r1 hr1 => ?_)
  obtain ⟨⟨b3, hb3, rfl⟩, hx3⟩ := hr1
  have hx3 : b3 ≠ 0 → 0 ≤ p1.toInt ∧ p1.toInt ≤ _ := fun q => hx3 (nI_ne0 (by omega) (by omega))
  refine lv_if_eq (tgt := 33) S.1 S.2.1 dX0_worksIn_5 (by decide) (fun c4 => ?_) (fun c4 => ?_)
  · skip
    have k5 := ci_eq (nI_toInt (n := b3) (by omega)) z_ti c4
    refine lv_iconst (v := (nI 0)) S.1 S.2.1 dX0_worksIn_33 (by decide +kernel) ?_
    exact hret 34 _ _ dX0_worksIn_34 rfl (⟨⟨0, by omega, rfl⟩, fun h => absurd rfl h⟩)
  have k6 := ci_ne (nI_toInt (n := b3) (by omega)) z_ti c4
  refine lv_aload_n S.1 S.2.1 dX0_worksIn_8 rfl (lv_at hl0 0 rfl) ?_
  refine r_get S hK hP rc (lt_C hrc) hF2 (C := RX0) (T := TX0) (N := 10) hiX0 rfl 6 (by decide) (by decide +kernel) (v := .ref (ad (rc + 2))) rfl dX0_worksIn_9 ?_
  refine lv_iload_n S.1 S.2.1 dX0_worksIn_12 rfl (lv_at hl0 1 rfl) ?_
  obtain ⟨g7, hF7, hg7⟩ := wt_I hW (C2_I hrc)
  refine r_iald S hK hP (rc + 2) (lt_I (C2_I hrc)) hF7 (in_of (n := 8) (a := p1.toInt) rfl (by omega) (by omega)) dX0_worksIn_13 ?_
  refine lv_topi (fun v9 e9 => ?_)
  refine lv_aload_n S.1 S.2.1 dX0_worksIn_14 rfl (lv_at hl0 0 rfl) ?_
  refine r_get S hK hP rc (lt_C hrc) hF2 (C := RX0) (T := TX0) (N := 10) hiX0 rfl 1 (by decide) (by decide +kernel) (v := .int fm2) rfl dX0_worksIn_15 ?_
  refine lv_iload_n S.1 S.2.1 dX0_worksIn_18 rfl (lv_at hl0 2 rfl) ?_
  refine lv_iadd S.1 S.2.1 dX0_worksIn_19 ?_
  refine lv_topi (fun v10 e10 => ?_)
  refine lv_bipush (v := (nI 12)) S.1 S.2.1 dX0_worksIn_20 (by decide +kernel) ?_
  refine lv_irem S.1 S.2.1 dX0_worksIn_22 (by decide +kernel) ?_
  refine lv_topi (fun v11 e11 => ?_)
  refine lv_ishr S.1 S.2.1 dX0_worksIn_23 ?_
  refine lv_topi (fun v12 e12 => ?_)
  refine lv_iconst (v := (nI 1)) S.1 S.2.1 dX0_worksIn_24 (by decide +kernel) ?_
  refine lv_iand S.1 S.2.1 dX0_worksIn_25 ?_
  refine lv_topi (fun v13 e13 => ?_)
  refine lv_if_eq (tgt := 33) S.1 S.2.1 dX0_worksIn_26 (by decide) (fun c14 => ?_) (fun c14 => ?_)
  · skip
    have k15 := ci_eq rfl z_ti c14
    refine lv_iconst (v := (nI 0)) S.1 S.2.1 dX0_worksIn_33 (by decide +kernel) ?_
    exact hret 34 _ _ dX0_worksIn_34 rfl (⟨⟨0, by omega, rfl⟩, fun h => absurd rfl h⟩)
  have k16 := ci_ne rfl z_ti c14
  refine lv_iconst (v := (nI 1)) S.1 S.2.1 dX0_worksIn_29 (by decide +kernel) ?_
  refine lv_goto (tgt := 34) S.1 S.2.1 dX0_worksIn_30 (by decide) ?_
  exact hret 34 _ _ dX0_worksIn_34 rfl (⟨⟨1, by omega, rfl⟩, fun _ => ⟨by omega, by omega⟩⟩)
set_option maxHeartbeats 4000000 in
set_option maxRecDepth 100000 in
theorem c_X0_gainIn (l : Launch) (D : va_G) (cA ad : Nat → Nat) (t : Nat) (hI : rI ad) (F : Nat → va_E) (hW : WT cA ad F) (rc : Nat) (hrc : isC rc) (p1 : Int32) (p2 : Int32) : MP l D cA ad t yX0_gainIn wsX0_gainIn { frames := 2, cells := 0, slots := 0, locals := 43 } [.ref (ad rc), .int p1, .int p2] F (fun r => True) := by
  refine en_P rfl (by decide +kernel) (Nat.le_of_ble_eq_true rfl) ?_
  intro p e s m args below meth c ls0 Q S hK hZ hP hS hl0 hret
  have hl0 : lv_has ls0 3 [(0, .ref (ad rc)), (1, .int p1), (2, .int p2)] := hl0
  have hiX0 : ∀ w ∈ u_ws RX0 TX0 10, w ∈ wsX0_gainIn := by decide +kernel
  refine lv_aload_n S.1 S.2.1 dX0_gainIn_0 rfl (lv_at hl0 0 rfl) ?_
  refine lv_iload_n S.1 S.2.1 dX0_gainIn_1 rfl (lv_at hl0 1 rfl) ?_
  refine lv_iload_n S.1 S.2.1 dX0_gainIn_2 rfl (lv_at hl0 2 rfl) ?_
  obtain ⟨sl2, fm2, tn2, rn2, bn2, hF2, hb2_1, hb2_2, hb2_3⟩ := wt_C hW hrc
  refine r_cVp (As := [.int p1, .int p2]) (rest := []) S hK hZ hP hS hl0.1 rc (lt_C hrc) hF2 (C := RX0) rfl (c_X0_worksIn l D cA ad t hI F hW rc hrc p1 p2) (cwV 2 S.2.2.2.2 gX0_gainIn_X0_worksIn rfl rfl rfl (by decide +kernel) ⟨Nat.le_of_ble_eq_true rfl, Nat.le_of_ble_eq_true rfl⟩) rfl rfl (Nat.le_of_ble_eq_true rfl) ⟨Nat.zero_le _, Nat.zero_le _⟩ dX0_gainIn_3 (fun r1 hr1 => ?_)
  obtain ⟨⟨b3, hb3, rfl⟩, hx3⟩ := hr1
  have hx3 : b3 ≠ 0 → 0 ≤ p1.toInt ∧ p1.toInt ≤ _ := fun q => hx3 (nI_ne0 (by omega) (by omega))
  refine lv_if_eq (tgt := 18) S.1 S.2.1 dX0_gainIn_6 (by decide) (fun c4 => ?_) (fun c4 => ?_)
  · skip
    have k5 := ci_eq (nI_toInt (n := b3) (by omega)) z_ti c4
    refine lv_iconst (v := (nI 0)) S.1 S.2.1 dX0_gainIn_18 (by decide +kernel) ?_
    exact hret 19 _ _ dX0_gainIn_19 rfl (trivial)
  have k6 := ci_ne (nI_toInt (n := b3) (by omega)) z_ti c4
  refine lv_aload_n S.1 S.2.1 dX0_gainIn_9 rfl (lv_at hl0 0 rfl) ?_
  refine r_get S hK hP rc (lt_C hrc) hF2 (C := RX0) (T := TX0) (N := 10) hiX0 rfl 7 (by decide) (by decide +kernel) (v := .ref (ad (rc + 3))) rfl dX0_gainIn_10 ?_
  refine lv_iload_n S.1 S.2.1 dX0_gainIn_13 rfl (lv_at hl0 1 rfl) ?_
  obtain ⟨g7, hF7, hg7⟩ := wt_I hW (C3_I hrc)
  refine r_iald S hK hP (rc + 3) (lt_I (C3_I hrc)) hF7 (in_of (n := 8) (a := p1.toInt) rfl (by omega) (by omega)) dX0_gainIn_14 ?_
  refine lv_topi (fun v9 e9 => ?_)
  refine lv_goto (tgt := 19) S.1 S.2.1 dX0_gainIn_15 (by decide) ?_
  exact hret 19 _ _ dX0_gainIn_19 rfl (trivial)
set_option maxHeartbeats 4000000 in
set_option maxRecDepth 100000 in
theorem c_X0_neighbours (l : Launch) (D : va_G) (cA ad : Nat → Nat) (t : Nat) (hI : rI ad) (F : Nat → va_E) (hW : WT cA ad F) (rc : Nat) (hrc : isC rc) (p1 : Int32) (p2 : Int32) : MP l D cA ad t yX0_neighbours wsX0_neighbours { frames := 0, cells := 0, slots := 0, locals := 0 } [.ref (ad rc), .int p1, .int p2] F (fun r => True) := by
  refine en_P rfl (by decide +kernel) (Nat.le_of_ble_eq_true rfl) ?_
  intro p e s m args below meth c ls0 Q S hK hZ hP hS hl0 hret
  have hl0 : lv_has ls0 5 [(0, .ref (ad rc)), (1, .int p1), (2, .int p2)] := hl0
  have hiX0 : ∀ w ∈ u_ws RX0 TX0 10, w ∈ wsX0_neighbours := by decide +kernel
  refine lv_iconst (v := (nI 0)) S.1 S.2.1 dX0_neighbours_0 (by decide +kernel) ?_
  refine lv_istore_n (lv' := [(3, .int (nI 0)), (0, .ref (ad rc)), (1, .int p1), (2, .int p2)]) S.1 S.2.1 dX0_neighbours_1 rfl hl0 (by decide) rfl (fun ls1 hl1 => ?_)
  refine lv_iconst (v := (nI 0)) S.1 S.2.1 dX0_neighbours_2 (by decide +kernel) ?_
  refine lv_istore (lv' := [(4, .int (nI 0)), (3, .int (nI 0)), (0, .ref (ad rc)), (1, .int p1), (2, .int p2)]) S.1 S.2.1 dX0_neighbours_3 hl1 (by decide) rfl (fun ls2 hl2 => ?_)
  have lp3 : ∀ (n3 : Nat) (q43 : Nat) (x3_3 : Int32), q43 ≤ 12 → 12 - q43 < n3 → ∀ (ls : Array Slot), lv_has ls 5 [(4, .int (nI q43)), (3, .int x3_3), (0, .ref (ad rc)), (1, .int p1), (2, .int p2)] → W p l e { frames := 0, cells := 0, slots := 0, locals := 0 } s m args below meth c s.heap [] 0 0 Q (F0 m 5 ls []) := by
    intro n3
    induction n3 with
    | zero =>
      intro q43 x3_3 iv3_0 hm3 ls3 hl3
      exact absurd hm3 (Nat.not_lt_zero _)
    | succ n3 ih3 =>
      intro q43 x3_3 iv3_0 hm3 ls3 hl3
      refine lv_iload S.1 S.2.1 dX0_neighbours_5 (lv_at hl3 0 rfl) ?_
      refine lv_aload_n S.1 S.2.1 dX0_neighbours_7 rfl (lv_at hl3 2 rfl) ?_
      obtain ⟨sl4, fm4, tn4, rn4, bn4, hF4, hb4_1, hb4_2, hb4_3⟩ := wt_C hW hrc
      refine r_get S hK hP rc (lt_C hrc) hF4 (C := RX0) (T := TX0) (N := 10) hiX0 rfl 3 (by decide) (by decide +kernel) (v := .int (nI rn4)) rfl dX0_neighbours_8 ?_
      refine lv_icmp_ge (tgt := 81) S.1 S.2.1 dX0_neighbours_11 (by decide) (fun c5 => ?_) (fun c5 => ?_)
      · skip
        have k6 := ci_le (nI_toInt (n := rn4) (by omega)) (nI_toInt (n := q43) (by omega)) c5
        refine lv_iload_n S.1 S.2.1 dX0_neighbours_81 rfl (lv_at hl3 1 rfl) ?_
        exact hret 82 _ _ dX0_neighbours_82 rfl (trivial)
      have k7 := ci_nle (nI_toInt (n := rn4) (by omega)) (nI_toInt (n := q43) (by omega)) c5
      refine lv_iload_n S.1 S.2.1 dX0_neighbours_14 rfl (lv_at hl3 4 rfl) ?_
      refine lv_iload S.1 S.2.1 dX0_neighbours_15 (lv_at hl3 0 rfl) ?_
      refine lv_ishr S.1 S.2.1 dX0_neighbours_17 ?_
      refine lv_topi (fun v8 e8 => ?_)
      refine lv_iconst (v := (nI 1)) S.1 S.2.1 dX0_neighbours_18 (by decide +kernel) ?_
      refine lv_iand S.1 S.2.1 dX0_neighbours_19 ?_
      refine lv_topi (fun v9 e9 => ?_)
      refine lv_if_eq (tgt := 26) S.1 S.2.1 dX0_neighbours_20 (by decide) (fun c10 => ?_) (fun c10 => ?_)
      · skip
        have k11 := ci_eq rfl z_ti c10
        refine lv_aload_n S.1 S.2.1 dX0_neighbours_26 rfl (lv_at hl3 2 rfl) ?_
        refine r_get S hK hP rc (lt_C hrc) hF4 (C := RX0) (T := TX0) (N := 10) hiX0 rfl 8 (by decide) (by decide +kernel) (v := .ref (ad (rc + 4))) rfl dX0_neighbours_27 ?_
        refine lv_iload S.1 S.2.1 dX0_neighbours_30 (lv_at hl3 0 rfl) ?_
        obtain ⟨g12, hF12, hg12⟩ := wt_I hW (C4_I hrc)
        refine r_iald S hK hP (rc + 4) (lt_I (C4_I hrc)) hF12 (vp_in_nI (show q43 < 12 by omega) (by omega)) dX0_neighbours_32 ?_
        refine lv_topi (fun v14 e14 => ?_)
        refine lv_iload_n S.1 S.2.1 dX0_neighbours_33 rfl (lv_at hl3 3 rfl) ?_
        refine lv_icmp_ne (tgt := 52) S.1 S.2.1 dX0_neighbours_34 (by decide) (fun c15 => ?_) (fun c15 => ?_)
        · skip
          have k16 := ci_ne rfl rfl c15
          refine lv_aload_n S.1 S.2.1 dX0_neighbours_52 rfl (lv_at hl3 2 rfl) ?_
          refine r_get S hK hP rc (lt_C hrc) hF4 (C := RX0) (T := TX0) (N := 10) hiX0 rfl 9 (by decide) (by decide +kernel) (v := .ref (ad (rc + 5))) rfl dX0_neighbours_53 ?_
          refine lv_iload S.1 S.2.1 dX0_neighbours_56 (lv_at hl3 0 rfl) ?_
          obtain ⟨g17, hF17, hg17⟩ := wt_I hW (C5_I hrc)
          refine r_iald S hK hP (rc + 5) (lt_I (C5_I hrc)) hF17 (vp_in_nI (show q43 < 12 by omega) (by omega)) dX0_neighbours_58 ?_
          refine lv_topi (fun v19 e19 => ?_)
          refine lv_iload_n S.1 S.2.1 dX0_neighbours_59 rfl (lv_at hl3 3 rfl) ?_
          refine lv_icmp_ne (tgt := 75) S.1 S.2.1 dX0_neighbours_60 (by decide) (fun c20 => ?_) (fun c20 => ?_)
          · skip
            have k21 := ci_ne rfl rfl c20
            refine lv_iinc (v := (nI (q43 + 1))) (lv' := [(4, .int (nI (q43 + 1))), (3, .int x3_3), (0, .ref (ad rc)), (1, .int p1), (2, .int p2)]) S.1 S.2.1 dX0_neighbours_75 hl3 (k := 0) rfl (nI_add _ 1) (by decide) rfl (fun ls22 hl22 => ?_)
            refine lv_goto (tgt := 5) S.1 S.2.1 dX0_neighbours_78 (by decide) ?_
            exact ih3 (q43 + 1) (x3_3) (by omega) (by omega) ls22 (lv_sub hl22 [0, 1, 2, 3, 4] rfl)
          have k23 := ci_eq rfl rfl c20
          refine lv_iload_n S.1 S.2.1 dX0_neighbours_63 rfl (lv_at hl3 1 rfl) ?_
          refine lv_iconst (v := (nI 1)) S.1 S.2.1 dX0_neighbours_64 (by decide +kernel) ?_
          refine lv_aload_n S.1 S.2.1 dX0_neighbours_65 rfl (lv_at hl3 2 rfl) ?_
          refine r_get S hK hP rc (lt_C hrc) hF4 (C := RX0) (T := TX0) (N := 10) hiX0 rfl 8 (by decide) (by decide +kernel) (v := .ref (ad (rc + 4))) rfl dX0_neighbours_66 ?_
          refine lv_iload S.1 S.2.1 dX0_neighbours_69 (lv_at hl3 0 rfl) ?_
          refine r_iald S hK hP (rc + 4) (lt_I (C4_I hrc)) hF12 (vp_in_nI (show q43 < 12 by omega) (by omega)) dX0_neighbours_71 ?_
          refine lv_topi (fun v25 e25 => ?_)
          refine lv_ishl S.1 S.2.1 dX0_neighbours_72 ?_
          refine lv_topi (fun v26 e26 => ?_)
          refine lv_ior S.1 S.2.1 dX0_neighbours_73 ?_
          refine lv_topi (fun v27 e27 => ?_)
          refine lv_istore_n (lv' := [(3, .int v27), (4, .int (nI q43)), (0, .ref (ad rc)), (1, .int p1), (2, .int p2)]) S.1 S.2.1 dX0_neighbours_74 rfl hl3 (by decide) rfl (fun ls28 hl28 => ?_)
          refine lv_iinc (v := (nI (q43 + 1))) (lv' := [(4, .int (nI (q43 + 1))), (3, .int v27), (0, .ref (ad rc)), (1, .int p1), (2, .int p2)]) S.1 S.2.1 dX0_neighbours_75 hl28 (k := 1) rfl (nI_add _ 1) (by decide) rfl (fun ls29 hl29 => ?_)
          refine lv_goto (tgt := 5) S.1 S.2.1 dX0_neighbours_78 (by decide) ?_
          exact ih3 (q43 + 1) (v27) (by omega) (by omega) ls29 (lv_sub hl29 [0, 1, 2, 3, 4] rfl)
        have k30 := ci_eq rfl rfl c15
        refine lv_iload_n S.1 S.2.1 dX0_neighbours_37 rfl (lv_at hl3 1 rfl) ?_
        refine lv_iconst (v := (nI 1)) S.1 S.2.1 dX0_neighbours_38 (by decide +kernel) ?_
        refine lv_aload_n S.1 S.2.1 dX0_neighbours_39 rfl (lv_at hl3 2 rfl) ?_
        refine r_get S hK hP rc (lt_C hrc) hF4 (C := RX0) (T := TX0) (N := 10) hiX0 rfl 9 (by decide) (by decide +kernel) (v := .ref (ad (rc + 5))) rfl dX0_neighbours_40 ?_
        refine lv_iload S.1 S.2.1 dX0_neighbours_43 (lv_at hl3 0 rfl) ?_
        obtain ⟨g31, hF31, hg31⟩ := wt_I hW (C5_I hrc)
        refine r_iald S hK hP (rc + 5) (lt_I (C5_I hrc)) hF31 (vp_in_nI (show q43 < 12 by omega) (by omega)) dX0_neighbours_45 ?_
        refine lv_topi (fun v33 e33 => ?_)
        refine lv_ishl S.1 S.2.1 dX0_neighbours_46 ?_
        refine lv_topi (fun v34 e34 => ?_)
        refine lv_ior S.1 S.2.1 dX0_neighbours_47 ?_
        refine lv_topi (fun v35 e35 => ?_)
        refine lv_istore_n (lv' := [(3, .int v35), (4, .int (nI q43)), (0, .ref (ad rc)), (1, .int p1), (2, .int p2)]) S.1 S.2.1 dX0_neighbours_48 rfl hl3 (by decide) rfl (fun ls36 hl36 => ?_)
        refine lv_goto (tgt := 75) S.1 S.2.1 dX0_neighbours_49 (by decide) ?_
        refine lv_iinc (v := (nI (q43 + 1))) (lv' := [(4, .int (nI (q43 + 1))), (3, .int v35), (0, .ref (ad rc)), (1, .int p1), (2, .int p2)]) S.1 S.2.1 dX0_neighbours_75 hl36 (k := 1) rfl (nI_add _ 1) (by decide) rfl (fun ls37 hl37 => ?_)
        refine lv_goto (tgt := 5) S.1 S.2.1 dX0_neighbours_78 (by decide) ?_
        exact ih3 (q43 + 1) (v35) (by omega) (by omega) ls37 (lv_sub hl37 [0, 1, 2, 3, 4] rfl)
      have k38 := ci_ne rfl z_ti c10
      refine lv_goto (tgt := 75) S.1 S.2.1 dX0_neighbours_23 (by decide) ?_
      refine lv_iinc (v := (nI (q43 + 1))) (lv' := [(4, .int (nI (q43 + 1))), (3, .int x3_3), (0, .ref (ad rc)), (1, .int p1), (2, .int p2)]) S.1 S.2.1 dX0_neighbours_75 hl3 (k := 0) rfl (nI_add _ 1) (by decide) rfl (fun ls39 hl39 => ?_)
      refine lv_goto (tgt := 5) S.1 S.2.1 dX0_neighbours_78 (by decide) ?_
      exact ih3 (q43 + 1) (x3_3) (by omega) (by omega) ls39 (lv_sub hl39 [0, 1, 2, 3, 4] rfl)
  exact lp3 (12 - (0) + 1) (0) ((nI 0)) (by omega) (by omega) ls2 (lv_sub hl2 [0, 1, 2, 3, 4] rfl)
set_option maxHeartbeats 4000000 in
set_option maxRecDepth 100000 in
theorem c_X0_walksFrom (l : Launch) (D : va_G) (cA ad : Nat → Nat) (t : Nat) (hI : rI ad) (F : Nat → va_E) (hW : WT cA ad F) (rc : Nat) (hrc : isC rc) (p1 : Int32) (p2 : Int32) : MP l D cA ad t yX0_walksFrom wsX0_walksFrom { frames := 1, cells := 0, slots := 0, locals := 24 } [.ref (ad rc), .int p1, .int p2] F (fun r => True) := by
  refine en_P rfl (by decide +kernel) (Nat.le_of_ble_eq_true rfl) ?_
  intro p e s m args below meth c ls0 Q S hK hZ hP hS hl0 hret
  have hl0 : lv_has ls0 3 [(0, .ref (ad rc)), (1, .int p1), (2, .int p2)] := hl0
  have hiX0 : ∀ w ∈ u_ws RX0 TX0 10, w ∈ wsX0_walksFrom := by decide +kernel
  refine lv_aload_n S.1 S.2.1 dX0_walksFrom_0 rfl (lv_at hl0 0 rfl) ?_
  refine lv_iload_n S.1 S.2.1 dX0_walksFrom_1 rfl (lv_at hl0 1 rfl) ?_
  refine lv_iload_n S.1 S.2.1 dX0_walksFrom_2 rfl (lv_at hl0 2 rfl) ?_
  obtain ⟨sl2, fm2, tn2, rn2, bn2, hF2, hb2_1, hb2_2, hb2_3⟩ := wt_C hW hrc
  refine r_cVp (As := [.int p1, .int p2]) (rest := []) S hK hZ hP hS hl0.1 rc (lt_C hrc) hF2 (C := RX0) rfl (c_X0_neighbours l D cA ad t hI F hW rc hrc p1 p2) (cwV 2 S.2.2.2.2 gX0_walksFrom_X0_neighbours rfl rfl rfl (by decide +kernel) ⟨Nat.le_of_ble_eq_true rfl, Nat.le_of_ble_eq_true rfl⟩) rfl rfl (Nat.le_of_ble_eq_true rfl) ⟨Nat.zero_le _, Nat.zero_le _⟩ dX0_walksFrom_3 (fun r1 hr1 => ?_)
  refine lv_aload_n S.1 S.2.1 dX0_walksFrom_6 rfl (lv_at hl0 0 rfl) ?_
  refine r_get S hK hP rc (lt_C hrc) hF2 (C := RX0) (T := TX0) (N := 10) hiX0 rfl 4 (by decide) (by decide +kernel) (v := .int bn2) rfl dX0_walksFrom_7 ?_
  refine lv_iconst (v := (-1)) S.1 S.2.1 dX0_walksFrom_10 (by decide +kernel) ?_
  refine lv_ixor S.1 S.2.1 dX0_walksFrom_11 ?_
  refine lv_topi (fun v3 e3 => ?_)
  refine lv_iand S.1 S.2.1 dX0_walksFrom_12 ?_
  refine lv_topi (fun v4 e4 => ?_)
  exact hret 13 _ _ dX0_walksFrom_13 rfl (trivial)
set_option maxHeartbeats 4000000 in
set_option maxRecDepth 100000 in
theorem c_X0_fillExits (l : Launch) (D : va_G) (cA ad : Nat → Nat) (t : Nat) (hI : rI ad) (F : Nat → va_E) (hW : WT cA ad F) (rc : Nat) (hrc : isC rc) (ra : Nat) (hra : (ra, 8) ∈ rLI) (hura : ra ∉ [60, 61, 62, 63, 64, 66]) (p2 : Int32) : MV l D cA ad t yX0_fillExits wsX0_fillExits { frames := 2, cells := 0, slots := 0, locals := 46 } [.ref (ad rc), .ref (ad ra), .int p2] F (fun F' => WT cA ad F' ∧ rFr [ra] F F' ∧ (True)) := by
  refine en_V rfl (by decide +kernel) (Nat.le_of_ble_eq_true rfl) ?_
  intro p e s m args below meth c ls0 Q S hK hZ hP hS hl0 hret
  have hl0 : lv_has ls0 4 [(0, .ref (ad rc)), (1, .ref (ad ra)), (2, .int p2)] := hl0
  have hFr : rFr [ra] F F := rFr.rf
  have hiX0 : ∀ w ∈ u_ws RX0 TX0 10, w ∈ wsX0_fillExits := by decide +kernel
  refine lv_iconst (v := (nI 0)) S.1 S.2.1 dX0_fillExits_0 (by decide +kernel) ?_
  refine lv_istore_n (lv' := [(3, .int (nI 0)), (0, .ref (ad rc)), (1, .ref (ad ra)), (2, .int p2)]) S.1 S.2.1 dX0_fillExits_1 rfl hl0 (by decide) rfl (fun ls1 hl1 => ?_)
  have lp2 : ∀ (n2 : Nat) (q32 : Nat), ∀ (Fl2 : Nat → va_E) (Hl2 : Heap) (lol2 : List Loc), q32 ≤ 8 → 8 - q32 < n2 → WT cA ad Fl2 → rFr [ra] F Fl2 → va_P D vwCl (rW ad Fl2) Hl2 → va_S (rA ad) s.heap Hl2 lol2 → ∀ (ls : Array Slot), lv_has ls 4 [(3, .int (nI q32)), (0, .ref (ad rc)), (1, .ref (ad ra)), (2, .int p2)] → W p l e { frames := 2, cells := 0, slots := 0, locals := 46 } s m args below meth c Hl2 lol2 0 0 Q (F0 m 2 ls []) := by
    intro n2
    induction n2 with
    | zero =>
      intro q32 Fl2 Hl2 lol2 iv2_0 hm2 hWl2 hFl2 hPl2 hSl2 ls2 hl2
      exact absurd hm2 (Nat.not_lt_zero _)
    | succ n2 ih2 =>
      intro q32 Fl2 Hl2 lol2 iv2_0 hm2 hWl2 hFl2 hPl2 hSl2 ls2 hl2
      refine lv_iload_n S.1 S.2.1 dX0_fillExits_2 rfl (lv_at hl2 0 rfl) ?_
      refine lv_aload_n S.1 S.2.1 dX0_fillExits_3 rfl (lv_at hl2 2 rfl) ?_
      obtain ⟨g3, hF3, hg3⟩ := wt_I hWl2 hra
      refine r_alen S hK hPl2 ra (lt_I hra) 0 hF3 rfl dX0_fillExits_4 ?_
      refine lv_icmp_ge (tgt := 35) S.1 S.2.1 dX0_fillExits_5 (by decide) (fun c4 => ?_) (fun c4 => ?_)
      · skip
        have k5 := ci_le (nI_toInt (n := 8) (by omega)) (nI_toInt (n := q32) (by omega)) c4
        exact hret 35 _ _ _ _ dX0_fillExits_35 hPl2 hSl2 ⟨hWl2, hFl2, trivial⟩
      have k6 := ci_nle (nI_toInt (n := 8) (by omega)) (nI_toInt (n := q32) (by omega)) c4
      refine lv_aload_n S.1 S.2.1 dX0_fillExits_8 rfl (lv_at hl2 2 rfl) ?_
      refine lv_iload_n S.1 S.2.1 dX0_fillExits_9 rfl (lv_at hl2 0 rfl) ?_
      refine lv_iload_n S.1 S.2.1 dX0_fillExits_10 rfl (lv_at hl2 0 rfl) ?_
      refine lv_aload_n S.1 S.2.1 dX0_fillExits_11 rfl (lv_at hl2 1 rfl) ?_
      obtain ⟨sl7, fm7, tn7, rn7, bn7, hF7, hb7_1, hb7_2, hb7_3⟩ := wt_C hWl2 hrc
      refine r_get S hK hPl2 rc (lt_C hrc) hF7 (C := RX0) (T := TX0) (N := 10) hiX0 rfl 2 (by decide) (by decide +kernel) (v := .int (nI tn7)) rfl dX0_fillExits_12 ?_
      refine lv_icmp_ge (tgt := 27) S.1 S.2.1 dX0_fillExits_15 (by decide) (fun c8 => ?_) (fun c8 => ?_)
      · skip
        have k9 := ci_le (nI_toInt (n := tn7) (by omega)) (nI_toInt (n := q32) (by omega)) c8
        refine lv_iconst (v := (nI 0)) S.1 S.2.1 dX0_fillExits_27 (by decide +kernel) ?_
        refine r_iast S hI hK hPl2 hSl2 ra (lt_I hra) hF3 (vp_in_nI (show q32 < 8 by omega) (by omega)) dX0_fillExits_28 (fun F10 H10 locs10 eF10 hP10 hS10 => ?_)
        have hW10 := hWl2.up eF10 (ok_I hra (okI_up hg3 (pr_of hura)))
        have hFr10 := hFl2.up eF10 (by simp <;> first | omega | (simp only [isC, isJ] at *; omega))
        refine lv_iinc (v := (nI (q32 + 1))) (lv' := [(3, .int (nI (q32 + 1))), (0, .ref (ad rc)), (1, .ref (ad ra)), (2, .int p2)]) S.1 S.2.1 dX0_fillExits_29 hl2 (k := 0) rfl (nI_add _ 1) (by decide) rfl (fun ls11 hl11 => ?_)
        refine lv_goto (tgt := 2) S.1 S.2.1 dX0_fillExits_32 (by decide) ?_
        exact ih2 (q32 + 1) F10 H10 locs10 (by omega) (by omega) hW10 hFr10 hP10 hS10 ls11 (lv_sub hl11 [0, 1, 2, 3] rfl)
      have k12 := ci_nle (nI_toInt (n := tn7) (by omega)) (nI_toInt (n := q32) (by omega)) c8
      refine lv_aload_n S.1 S.2.1 dX0_fillExits_18 rfl (lv_at hl2 1 rfl) ?_
      refine lv_iload_n S.1 S.2.1 dX0_fillExits_19 rfl (lv_at hl2 0 rfl) ?_
      refine lv_iload_n S.1 S.2.1 dX0_fillExits_20 rfl (lv_at hl2 3 rfl) ?_
      refine r_cVp (As := [.int (nI q32), .int p2]) (rest := [.int (nI q32), .ref (ad ra)]) S hK hZ hPl2 hSl2 hl2.1 rc (lt_C hrc) hF7 (C := RX0) rfl (c_X0_walksFrom l D cA ad t hI Fl2 hWl2 rc hrc (nI q32) p2) (cwV 2 S.2.2.2.2 gX0_fillExits_X0_walksFrom rfl rfl rfl (by decide +kernel) ⟨Nat.le_of_ble_eq_true rfl, Nat.le_of_ble_eq_true rfl⟩) rfl rfl (Nat.le_of_ble_eq_true rfl) ⟨Nat.zero_le _, Nat.zero_le _⟩ dX0_fillExits_21 (fun r13 hr13 => ?_)
      refine lv_goto (tgt := 28) S.1 S.2.1 dX0_fillExits_24 (by decide) ?_
      refine r_iast S hI hK hPl2 hSl2 ra (lt_I hra) hF3 (vp_in_nI (show q32 < 8 by omega) (by omega)) dX0_fillExits_28 (fun F14 H14 locs14 eF14 hP14 hS14 => ?_)
      have hW14 := hWl2.up eF14 (ok_I hra (okI_up hg3 (pr_of hura)))
      have hFr14 := hFl2.up eF14 (by simp <;> first | omega | (simp only [isC, isJ] at *; omega))
      refine lv_iinc (v := (nI (q32 + 1))) (lv' := [(3, .int (nI (q32 + 1))), (0, .ref (ad rc)), (1, .ref (ad ra)), (2, .int p2)]) S.1 S.2.1 dX0_fillExits_29 hl2 (k := 0) rfl (nI_add _ 1) (by decide) rfl (fun ls15 hl15 => ?_)
      refine lv_goto (tgt := 2) S.1 S.2.1 dX0_fillExits_32 (by decide) ?_
      exact ih2 (q32 + 1) F14 H14 locs14 (by omega) (by omega) hW14 hFr14 hP14 hS14 ls15 (lv_sub hl15 [0, 1, 2, 3] rfl)
  exact lp2 (8 - (0) + 1) (0) F s.heap [] (by omega) (by omega) hW hFr hP hS ls1 (lv_sub hl1 [0, 1, 2, 3] rfl)
