set_option maxHeartbeats 4000000 in
set_option maxRecDepth 100000 in
theorem c_X1_clear (l : Launch) (D : va_G) (cA ad : Nat → Nat) (t : Nat) (hI : rI ad) (F : Nat → va_E) (hW : WT cA ad F) (rj : Nat) (hrj : isJ rj) : MV l D cA ad t yX1_clear wsX1_clear { frames := 0, cells := 0, slots := 0, locals := 0 } [.ref (ad rj)] F (fun F' => WT cA ad F' ∧ rFr [rj] F F' ∧ (True)) := by
  refine en_V rfl (by decide +kernel) (Nat.le_of_ble_eq_true rfl) ?_
  intro p e s m args below meth c ls0 Q S hK hZ hP hS hl0 hret
  have hl0 : lv_has ls0 1 [(0, .ref (ad rj))] := hl0
  have hFr : rFr [rj] F F := rFr.rf
  have hiX1 : ∀ w ∈ u_ws RX1 TX1 7, w ∈ wsX1_clear := by decide +kernel
  refine lv_aload_n S.1 S.2.1 dX1_clear_0 rfl (lv_at hl0 0 rfl) ?_
  refine lv_iconst (v := (nI 0)) S.1 S.2.1 dX1_clear_1 (by decide +kernel) ?_
  obtain ⟨ja1, jb1, jc1, jd1, jx1, jy1, jk1, hF1, hk1⟩ := wt_J hW hrj
  refine r_put S hI hK hP hS rj (lt_J hrj) hF1 (C := RX1) (T := TX1) (N := 7) hiX1 tyX1_ok nmX1 rfl 0 (by decide) (by decide +kernel) rfl rfl rfl (Nat.le_of_ble_eq_true rfl) dX1_clear_2 (fun F2 H2 locs2 eF2 hP2 hS2 => ?_)
  have hF2 : F2 rj = .inr (1, [.int (nI 0), .int jb1, .int jc1, .int jd1, .int jx1, .int jy1, .int (nI jk1)]) := by rw [eF2]; exact va_up_self _ _ _
  have hW2 := hW.up eF2 (ok_J hrj ⟨(nI 0), jb1, jc1, jd1, jx1, jy1, jk1, rfl, by omega⟩)
  have hFr2 := hFr.up eF2 (by simp <;> first | omega | (simp only [isC, isJ] at *; omega))
  refine lv_aload_n S.1 S.2.1 dX1_clear_5 rfl (lv_at hl0 0 rfl) ?_
  refine lv_iconst (v := (nI 0)) S.1 S.2.1 dX1_clear_6 (by decide +kernel) ?_
  refine r_put S hI hK hP2 hS2 rj (lt_J hrj) hF2 (C := RX1) (T := TX1) (N := 7) hiX1 tyX1_ok nmX1 rfl 1 (by decide) (by decide +kernel) rfl rfl rfl (Nat.le_of_ble_eq_true rfl) dX1_clear_7 (fun F3 H3 locs3 eF3 hP3 hS3 => ?_)
  have hF3 : F3 rj = .inr (1, [.int (nI 0), .int (nI 0), .int jc1, .int jd1, .int jx1, .int jy1, .int (nI jk1)]) := by rw [eF3]; exact va_up_self _ _ _
  have hW3 := hW2.up eF3 (ok_J hrj ⟨(nI 0), (nI 0), jc1, jd1, jx1, jy1, jk1, rfl, by omega⟩)
  have hFr3 := hFr2.up eF3 (by simp <;> first | omega | (simp only [isC, isJ] at *; omega))
  refine lv_aload_n S.1 S.2.1 dX1_clear_10 rfl (lv_at hl0 0 rfl) ?_
  refine lv_iconst (v := (nI 0)) S.1 S.2.1 dX1_clear_11 (by decide +kernel) ?_
  refine r_put S hI hK hP3 hS3 rj (lt_J hrj) hF3 (C := RX1) (T := TX1) (N := 7) hiX1 tyX1_ok nmX1 rfl 2 (by decide) (by decide +kernel) rfl rfl rfl (Nat.le_of_ble_eq_true rfl) dX1_clear_12 (fun F4 H4 locs4 eF4 hP4 hS4 => ?_)
  have hF4 : F4 rj = .inr (1, [.int (nI 0), .int (nI 0), .int (nI 0), .int jd1, .int jx1, .int jy1, .int (nI jk1)]) := by rw [eF4]; exact va_up_self _ _ _
  have hW4 := hW3.up eF4 (ok_J hrj ⟨(nI 0), (nI 0), (nI 0), jd1, jx1, jy1, jk1, rfl, by omega⟩)
  have hFr4 := hFr3.up eF4 (by simp <;> first | omega | (simp only [isC, isJ] at *; omega))
  refine lv_aload_n S.1 S.2.1 dX1_clear_15 rfl (lv_at hl0 0 rfl) ?_
  refine lv_iconst (v := (nI 0)) S.1 S.2.1 dX1_clear_16 (by decide +kernel) ?_
  refine r_put S hI hK hP4 hS4 rj (lt_J hrj) hF4 (C := RX1) (T := TX1) (N := 7) hiX1 tyX1_ok nmX1 rfl 3 (by decide) (by decide +kernel) rfl rfl rfl (Nat.le_of_ble_eq_true rfl) dX1_clear_17 (fun F5 H5 locs5 eF5 hP5 hS5 => ?_)
  have hF5 : F5 rj = .inr (1, [.int (nI 0), .int (nI 0), .int (nI 0), .int (nI 0), .int jx1, .int jy1, .int (nI jk1)]) := by rw [eF5]; exact va_up_self _ _ _
  have hW5 := hW4.up eF5 (ok_J hrj ⟨(nI 0), (nI 0), (nI 0), (nI 0), jx1, jy1, jk1, rfl, by omega⟩)
  have hFr5 := hFr4.up eF5 (by simp <;> first | omega | (simp only [isC, isJ] at *; omega))
  refine lv_aload_n S.1 S.2.1 dX1_clear_20 rfl (lv_at hl0 0 rfl) ?_
  refine lv_iconst (v := (nI 0)) S.1 S.2.1 dX1_clear_21 (by decide +kernel) ?_
  refine r_put S hI hK hP5 hS5 rj (lt_J hrj) hF5 (C := RX1) (T := TX1) (N := 7) hiX1 tyX1_ok nmX1 rfl 4 (by decide) (by decide +kernel) rfl rfl rfl (Nat.le_of_ble_eq_true rfl) dX1_clear_22 (fun F6 H6 locs6 eF6 hP6 hS6 => ?_)
  have hF6 : F6 rj = .inr (1, [.int (nI 0), .int (nI 0), .int (nI 0), .int (nI 0), .int (nI 0), .int jy1, .int (nI jk1)]) := by rw [eF6]; exact va_up_self _ _ _
  have hW6 := hW5.up eF6 (ok_J hrj ⟨(nI 0), (nI 0), (nI 0), (nI 0), (nI 0), jy1, jk1, rfl, by omega⟩)
  have hFr6 := hFr5.up eF6 (by simp <;> first | omega | (simp only [isC, isJ] at *; omega))
  refine lv_aload_n S.1 S.2.1 dX1_clear_25 rfl (lv_at hl0 0 rfl) ?_
  refine lv_iconst (v := (nI 0)) S.1 S.2.1 dX1_clear_26 (by decide +kernel) ?_
  refine r_put S hI hK hP6 hS6 rj (lt_J hrj) hF6 (C := RX1) (T := TX1) (N := 7) hiX1 tyX1_ok nmX1 rfl 5 (by decide) (by decide +kernel) rfl rfl rfl (Nat.le_of_ble_eq_true rfl) dX1_clear_27 (fun F7 H7 locs7 eF7 hP7 hS7 => ?_)
  have hF7 : F7 rj = .inr (1, [.int (nI 0), .int (nI 0), .int (nI 0), .int (nI 0), .int (nI 0), .int (nI 0), .int (nI jk1)]) := by rw [eF7]; exact va_up_self _ _ _
  have hW7 := hW6.up eF7 (ok_J hrj ⟨(nI 0), (nI 0), (nI 0), (nI 0), (nI 0), (nI 0), jk1, rfl, by omega⟩)
  have hFr7 := hFr6.up eF7 (by simp <;> first | omega | (simp only [isC, isJ] at *; omega))
  refine lv_aload_n S.1 S.2.1 dX1_clear_30 rfl (lv_at hl0 0 rfl) ?_
  refine lv_iconst (v := (nI 0)) S.1 S.2.1 dX1_clear_31 (by decide +kernel) ?_
  refine r_put S hI hK hP7 hS7 rj (lt_J hrj) hF7 (C := RX1) (T := TX1) (N := 7) hiX1 tyX1_ok nmX1 rfl 6 (by decide) (by decide +kernel) rfl (nar_bool (by omega)) (fit_bool (by omega)) (Nat.le_of_ble_eq_true rfl) dX1_clear_32 (fun F8 H8 locs8 eF8 hP8 hS8 => ?_)
  have hF8 : F8 rj = .inr (1, [.int (nI 0), .int (nI 0), .int (nI 0), .int (nI 0), .int (nI 0), .int (nI 0), .int (nI 0)]) := by rw [eF8]; exact va_up_self _ _ _
  have hW8 := hW7.up eF8 (ok_J hrj ⟨(nI 0), (nI 0), (nI 0), (nI 0), (nI 0), (nI 0), 0, rfl, by omega⟩)
  have hFr8 := hFr7.up eF8 (by simp <;> first | omega | (simp only [isC, isJ] at *; omega))
  exact hret 35 _ _ _ _ dX1_clear_35 hP8 hS8 ⟨hW8, hFr8, trivial⟩
set_option maxHeartbeats 4000000 in
set_option maxRecDepth 100000 in
theorem c_X1_copy (l : Launch) (D : va_G) (cA ad : Nat → Nat) (t : Nat) (hI : rI ad) (F : Nat → va_E) (hW : WT cA ad F) (rj : Nat) (hrj : isJ rj) (rk : Nat) (hrk : isJ rk) : MV l D cA ad t yX1_copy wsX1_copy { frames := 0, cells := 0, slots := 0, locals := 0 } [.ref (ad rj), .ref (ad rk)] F (fun F' => WT cA ad F' ∧ rFr [rj] F F' ∧ (True)) := by
  refine en_V rfl (by decide +kernel) (Nat.le_of_ble_eq_true rfl) ?_
  intro p e s m args below meth c ls0 Q S hK hZ hP hS hl0 hret
  have hl0 : lv_has ls0 2 [(0, .ref (ad rj)), (1, .ref (ad rk))] := hl0
  have hFr : rFr [rj] F F := rFr.rf
  have hiX1 : ∀ w ∈ u_ws RX1 TX1 7, w ∈ wsX1_copy := by decide +kernel
  refine lv_aload_n S.1 S.2.1 dX1_copy_0 rfl (lv_at hl0 0 rfl) ?_
  refine lv_aload_n S.1 S.2.1 dX1_copy_1 rfl (lv_at hl0 1 rfl) ?_
  obtain ⟨ja1, jb1, jc1, jd1, jx1, jy1, jk1, hF1, hk1⟩ := wt_J hW hrk
  refine r_get S hK hP rk (lt_J hrk) hF1 (C := RX1) (T := TX1) (N := 7) hiX1 rfl 0 (by decide) (by decide +kernel) (v := .int ja1) rfl dX1_copy_2 ?_
  obtain ⟨ja2, jb2, jc2, jd2, jx2, jy2, jk2, hF2, hk2⟩ := wt_J hW hrj
  refine r_put S hI hK hP hS rj (lt_J hrj) hF2 (C := RX1) (T := TX1) (N := 7) hiX1 tyX1_ok nmX1 rfl 0 (by decide) (by decide +kernel) rfl rfl rfl (Nat.le_of_ble_eq_true rfl) dX1_copy_5 (fun F3 H3 locs3 eF3 hP3 hS3 => ?_)
  have hF3 : F3 rj = .inr (1, [.int ja1, .int jb2, .int jc2, .int jd2, .int jx2, .int jy2, .int (nI jk2)]) := by rw [eF3]; exact va_up_self _ _ _
  have hW3 := hW.up eF3 (ok_J hrj ⟨ja1, jb2, jc2, jd2, jx2, jy2, jk2, rfl, by omega⟩)
  have hFr3 := hFr.up eF3 (by simp <;> first | omega | (simp only [isC, isJ] at *; omega))
  refine lv_aload_n S.1 S.2.1 dX1_copy_8 rfl (lv_at hl0 0 rfl) ?_
  refine lv_aload_n S.1 S.2.1 dX1_copy_9 rfl (lv_at hl0 1 rfl) ?_
  obtain ⟨ja4, jb4, jc4, jd4, jx4, jy4, jk4, hF4, hk4⟩ := wt_J hW3 hrk
  refine r_get S hK hP3 rk (lt_J hrk) hF4 (C := RX1) (T := TX1) (N := 7) hiX1 rfl 1 (by decide) (by decide +kernel) (v := .int jb4) rfl dX1_copy_10 ?_
  refine r_put S hI hK hP3 hS3 rj (lt_J hrj) hF3 (C := RX1) (T := TX1) (N := 7) hiX1 tyX1_ok nmX1 rfl 1 (by decide) (by decide +kernel) rfl rfl rfl (Nat.le_of_ble_eq_true rfl) dX1_copy_13 (fun F5 H5 locs5 eF5 hP5 hS5 => ?_)
  have hF5 : F5 rj = .inr (1, [.int ja1, .int jb4, .int jc2, .int jd2, .int jx2, .int jy2, .int (nI jk2)]) := by rw [eF5]; exact va_up_self _ _ _
  have hW5 := hW3.up eF5 (ok_J hrj ⟨ja1, jb4, jc2, jd2, jx2, jy2, jk2, rfl, by omega⟩)
  have hFr5 := hFr3.up eF5 (by simp <;> first | omega | (simp only [isC, isJ] at *; omega))
  refine lv_aload_n S.1 S.2.1 dX1_copy_16 rfl (lv_at hl0 0 rfl) ?_
  refine lv_aload_n S.1 S.2.1 dX1_copy_17 rfl (lv_at hl0 1 rfl) ?_
  obtain ⟨ja6, jb6, jc6, jd6, jx6, jy6, jk6, hF6, hk6⟩ := wt_J hW5 hrk
  refine r_get S hK hP5 rk (lt_J hrk) hF6 (C := RX1) (T := TX1) (N := 7) hiX1 rfl 2 (by decide) (by decide +kernel) (v := .int jc6) rfl dX1_copy_18 ?_
  refine r_put S hI hK hP5 hS5 rj (lt_J hrj) hF5 (C := RX1) (T := TX1) (N := 7) hiX1 tyX1_ok nmX1 rfl 2 (by decide) (by decide +kernel) rfl rfl rfl (Nat.le_of_ble_eq_true rfl) dX1_copy_21 (fun F7 H7 locs7 eF7 hP7 hS7 => ?_)
  have hF7 : F7 rj = .inr (1, [.int ja1, .int jb4, .int jc6, .int jd2, .int jx2, .int jy2, .int (nI jk2)]) := by rw [eF7]; exact va_up_self _ _ _
  have hW7 := hW5.up eF7 (ok_J hrj ⟨ja1, jb4, jc6, jd2, jx2, jy2, jk2, rfl, by omega⟩)
  have hFr7 := hFr5.up eF7 (by simp <;> first | omega | (simp only [isC, isJ] at *; omega))
  refine lv_aload_n S.1 S.2.1 dX1_copy_24 rfl (lv_at hl0 0 rfl) ?_
  refine lv_aload_n S.1 S.2.1 dX1_copy_25 rfl (lv_at hl0 1 rfl) ?_
  obtain ⟨ja8, jb8, jc8, jd8, jx8, jy8, jk8, hF8, hk8⟩ := wt_J hW7 hrk
  refine r_get S hK hP7 rk (lt_J hrk) hF8 (C := RX1) (T := TX1) (N := 7) hiX1 rfl 3 (by decide) (by decide +kernel) (v := .int jd8) rfl dX1_copy_26 ?_
  refine r_put S hI hK hP7 hS7 rj (lt_J hrj) hF7 (C := RX1) (T := TX1) (N := 7) hiX1 tyX1_ok nmX1 rfl 3 (by decide) (by decide +kernel) rfl rfl rfl (Nat.le_of_ble_eq_true rfl) dX1_copy_29 (fun F9 H9 locs9 eF9 hP9 hS9 => ?_)
  have hF9 : F9 rj = .inr (1, [.int ja1, .int jb4, .int jc6, .int jd8, .int jx2, .int jy2, .int (nI jk2)]) := by rw [eF9]; exact va_up_self _ _ _
  have hW9 := hW7.up eF9 (ok_J hrj ⟨ja1, jb4, jc6, jd8, jx2, jy2, jk2, rfl, by omega⟩)
  have hFr9 := hFr7.up eF9 (by simp <;> first | omega | (simp only [isC, isJ] at *; omega))
  refine lv_aload_n S.1 S.2.1 dX1_copy_32 rfl (lv_at hl0 0 rfl) ?_
  refine lv_aload_n S.1 S.2.1 dX1_copy_33 rfl (lv_at hl0 1 rfl) ?_
  obtain ⟨ja10, jb10, jc10, jd10, jx10, jy10, jk10, hF10, hk10⟩ := wt_J hW9 hrk
  refine r_get S hK hP9 rk (lt_J hrk) hF10 (C := RX1) (T := TX1) (N := 7) hiX1 rfl 4 (by decide) (by decide +kernel) (v := .int jx10) rfl dX1_copy_34 ?_
  refine r_put S hI hK hP9 hS9 rj (lt_J hrj) hF9 (C := RX1) (T := TX1) (N := 7) hiX1 tyX1_ok nmX1 rfl 4 (by decide) (by decide +kernel) rfl rfl rfl (Nat.le_of_ble_eq_true rfl) dX1_copy_37 (fun F11 H11 locs11 eF11 hP11 hS11 => ?_)
  have hF11 : F11 rj = .inr (1, [.int ja1, .int jb4, .int jc6, .int jd8, .int jx10, .int jy2, .int (nI jk2)]) := by rw [eF11]; exact va_up_self _ _ _
  have hW11 := hW9.up eF11 (ok_J hrj ⟨ja1, jb4, jc6, jd8, jx10, jy2, jk2, rfl, by omega⟩)
  have hFr11 := hFr9.up eF11 (by simp <;> first | omega | (simp only [isC, isJ] at *; omega))
  refine lv_aload_n S.1 S.2.1 dX1_copy_40 rfl (lv_at hl0 0 rfl) ?_
  refine lv_aload_n S.1 S.2.1 dX1_copy_41 rfl (lv_at hl0 1 rfl) ?_
  obtain ⟨ja12, jb12, jc12, jd12, jx12, jy12, jk12, hF12, hk12⟩ := wt_J hW11 hrk
  refine r_get S hK hP11 rk (lt_J hrk) hF12 (C := RX1) (T := TX1) (N := 7) hiX1 rfl 5 (by decide) (by decide +kernel) (v := .int jy12) rfl dX1_copy_42 ?_
  refine r_put S hI hK hP11 hS11 rj (lt_J hrj) hF11 (C := RX1) (T := TX1) (N := 7) hiX1 tyX1_ok nmX1 rfl 5 (by decide) (by decide +kernel) rfl rfl rfl (Nat.le_of_ble_eq_true rfl) dX1_copy_45 (fun F13 H13 locs13 eF13 hP13 hS13 => ?_)
  have hF13 : F13 rj = .inr (1, [.int ja1, .int jb4, .int jc6, .int jd8, .int jx10, .int jy12, .int (nI jk2)]) := by rw [eF13]; exact va_up_self _ _ _
  have hW13 := hW11.up eF13 (ok_J hrj ⟨ja1, jb4, jc6, jd8, jx10, jy12, jk2, rfl, by omega⟩)
  have hFr13 := hFr11.up eF13 (by simp <;> first | omega | (simp only [isC, isJ] at *; omega))
  refine lv_aload_n S.1 S.2.1 dX1_copy_48 rfl (lv_at hl0 0 rfl) ?_
  refine lv_aload_n S.1 S.2.1 dX1_copy_49 rfl (lv_at hl0 1 rfl) ?_
  obtain ⟨ja14, jb14, jc14, jd14, jx14, jy14, jk14, hF14, hk14⟩ := wt_J hW13 hrk
  refine r_get S hK hP13 rk (lt_J hrk) hF14 (C := RX1) (T := TX1) (N := 7) hiX1 rfl 6 (by decide) (by decide +kernel) (v := .int (nI jk14)) rfl dX1_copy_50 ?_
  refine r_put S hI hK hP13 hS13 rj (lt_J hrj) hF13 (C := RX1) (T := TX1) (N := 7) hiX1 tyX1_ok nmX1 rfl 6 (by decide) (by decide +kernel) rfl (nar_bool (by omega)) (fit_bool (by omega)) (Nat.le_of_ble_eq_true rfl) dX1_copy_53 (fun F15 H15 locs15 eF15 hP15 hS15 => ?_)
  have hF15 : F15 rj = .inr (1, [.int ja1, .int jb4, .int jc6, .int jd8, .int jx10, .int jy12, .int (nI jk14)]) := by rw [eF15]; exact va_up_self _ _ _
  have hW15 := hW13.up eF15 (ok_J hrj ⟨ja1, jb4, jc6, jd8, jx10, jy12, jk14, rfl, by omega⟩)
  have hFr15 := hFr13.up eF15 (by simp <;> first | omega | (simp only [isC, isJ] at *; omega))
  exact hret 56 _ _ _ _ dX1_copy_56 hP15 hS15 ⟨hW15, hFr15, trivial⟩
set_option maxHeartbeats 4000000 in
set_option maxRecDepth 100000 in
theorem c_X1_mayStay (l : Launch) (D : va_G) (cA ad : Nat → Nat) (t : Nat) (hI : rI ad) (F : Nat → va_E) (hW : WT cA ad F) (rj : Nat) (hrj : isJ rj) (rc : Nat) (hrc : isC rc) : MP l D cA ad t yX1_mayStay wsX1_mayStay { frames := 0, cells := 0, slots := 0, locals := 0 } [.ref (ad rj), .ref (ad rc)] F (fun r => le32 1 r) := by
  refine en_P rfl (by decide +kernel) (Nat.le_of_ble_eq_true rfl) ?_
  intro p e s m args below meth c ls0 Q S hK hZ hP hS hl0 hret
  have hl0 : lv_has ls0 2 [(0, .ref (ad rj)), (1, .ref (ad rc))] := hl0
  have hiX0 : ∀ w ∈ u_ws RX0 TX0 10, w ∈ wsX1_mayStay := by decide +kernel
  have hiX1 : ∀ w ∈ u_ws RX1 TX1 7, w ∈ wsX1_mayStay := by decide +kernel
  refine lv_aload_n S.1 S.2.1 dX1_mayStay_0 rfl (lv_at hl0 0 rfl) ?_
  obtain ⟨ja1, jb1, jc1, jd1, jx1, jy1, jk1, hF1, hk1⟩ := wt_J hW hrj
  refine r_get S hK hP rj (lt_J hrj) hF1 (C := RX1) (T := TX1) (N := 7) hiX1 rfl 2 (by decide) (by decide +kernel) (v := .int jc1) rfl dX1_mayStay_1 ?_
  refine lv_aload_n S.1 S.2.1 dX1_mayStay_4 rfl (lv_at hl0 1 rfl) ?_
  obtain ⟨sl2, fm2, tn2, rn2, bn2, hF2, hb2_1, hb2_2, hb2_3⟩ := wt_C hW hrc
  refine r_get S hK hP rc (lt_C hrc) hF2 (C := RX0) (T := TX0) (N := 10) hiX0 rfl 0 (by decide) (by decide +kernel) (v := .int (nI sl2)) rfl dX1_mayStay_5 ?_
  refine lv_icmp_ge (tgt := 15) S.1 S.2.1 dX1_mayStay_8 (by decide) (fun c3 => ?_) (fun c3 => ?_)
  · skip
    have k4 := ci_le (nI_toInt (n := sl2) (by omega)) rfl c3
    refine lv_iconst (v := (nI 0)) S.1 S.2.1 dX1_mayStay_15 (by decide +kernel) ?_
    exact hret 16 _ _ dX1_mayStay_16 rfl (⟨0, by omega, rfl⟩)
  have k5 := ci_nle (nI_toInt (n := sl2) (by omega)) rfl c3
  refine lv_iconst (v := (nI 1)) S.1 S.2.1 dX1_mayStay_11 (by decide +kernel) ?_
  refine lv_goto (tgt := 16) S.1 S.2.1 dX1_mayStay_12 (by decide) ?_
  exact hret 16 _ _ dX1_mayStay_16 rfl (⟨1, by omega, rfl⟩)
set_option maxHeartbeats 4000000 in
set_option maxRecDepth 100000 in
theorem c_X1_walks (l : Launch) (D : va_G) (cA ad : Nat → Nat) (t : Nat) (hI : rI ad) (F : Nat → va_E) (hW : WT cA ad F) (rj : Nat) (hrj : isJ rj) (rc : Nat) (hrc : isC rc) : MP l D cA ad t yX1_walks wsX1_walks { frames := 2, cells := 0, slots := 0, locals := 46 } [.ref (ad rj), .ref (ad rc)] F (fun r => True) := by
  refine en_P rfl (by decide +kernel) (Nat.le_of_ble_eq_true rfl) ?_
  intro p e s m args below meth c ls0 Q S hK hZ hP hS hl0 hret
  have hl0 : lv_has ls0 2 [(0, .ref (ad rj)), (1, .ref (ad rc))] := hl0
  have hiX1 : ∀ w ∈ u_ws RX1 TX1 7, w ∈ wsX1_walks := by decide +kernel
  refine lv_aload_n S.1 S.2.1 dX1_walks_0 rfl (lv_at hl0 1 rfl) ?_
  refine lv_aload_n S.1 S.2.1 dX1_walks_1 rfl (lv_at hl0 0 rfl) ?_
  obtain ⟨ja1, jb1, jc1, jd1, jx1, jy1, jk1, hF1, hk1⟩ := wt_J hW hrj
  refine r_get S hK hP rj (lt_J hrj) hF1 (C := RX1) (T := TX1) (N := 7) hiX1 rfl 0 (by decide) (by decide +kernel) (v := .int ja1) rfl dX1_walks_2 ?_
  refine lv_aload_n S.1 S.2.1 dX1_walks_5 rfl (lv_at hl0 0 rfl) ?_
  refine r_get S hK hP rj (lt_J hrj) hF1 (C := RX1) (T := TX1) (N := 7) hiX1 rfl 5 (by decide) (by decide +kernel) (v := .int jy1) rfl dX1_walks_6 ?_
  obtain ⟨sl3, fm3, tn3, rn3, bn3, hF3, hb3_1, hb3_2, hb3_3⟩ := wt_C hW hrc
  refine r_cVp (As := [.int ja1, .int jy1]) (rest := []) S hK hZ hP hS hl0.1 rc (lt_C hrc) hF3 (C := RX0) rfl (c_X0_walksFrom l D cA ad t hI F hW rc hrc ja1 jy1) (cwV 2 S.2.2.2.2 gX1_walks_X0_walksFrom rfl rfl rfl (by decide +kernel) ⟨Nat.le_of_ble_eq_true rfl, Nat.le_of_ble_eq_true rfl⟩) rfl rfl (Nat.le_of_ble_eq_true rfl) ⟨Nat.zero_le _, Nat.zero_le _⟩ dX1_walks_9 (fun r2 hr2 => ?_)
  exact hret 12 _ _ dX1_walks_12 rfl (trivial)
set_option maxHeartbeats 4000000 in
set_option maxRecDepth 100000 in
theorem c_X1_stayMonth (l : Launch) (D : va_G) (cA ad : Nat → Nat) (t : Nat) (hI : rI ad) (F : Nat → va_E) (hW : WT cA ad F) (rj : Nat) (hrj : isJ rj) (rc : Nat) (hrc : isC rc) : MI l D cA ad t yX1_stayMonth wsX1_stayMonth { frames := 3, cells := 0, slots := 0, locals := 65 } [.ref (ad rj), .ref (ad rc)] F (fun r F' => WT cA ad F' ∧ rFr [rj] F F' ∧ (True)) := by
  refine en_I rfl (by decide +kernel) (Nat.le_of_ble_eq_true rfl) ?_
  intro p e s m args below meth c ls0 Q S hK hZ hP hS hl0 hret
  have hl0 : lv_has ls0 3 [(0, .ref (ad rj)), (1, .ref (ad rc))] := hl0
  have hFr : rFr [rj] F F := rFr.rf
  have hiX1 : ∀ w ∈ u_ws RX1 TX1 7, w ∈ wsX1_stayMonth := by decide +kernel
  refine lv_aload_n S.1 S.2.1 dX1_stayMonth_0 rfl (lv_at hl0 1 rfl) ?_
  refine lv_aload_n S.1 S.2.1 dX1_stayMonth_1 rfl (lv_at hl0 0 rfl) ?_
  obtain ⟨ja1, jb1, jc1, jd1, jx1, jy1, jk1, hF1, hk1⟩ := wt_J hW hrj
  refine r_get S hK hP rj (lt_J hrj) hF1 (C := RX1) (T := TX1) (N := 7) hiX1 rfl 0 (by decide) (by decide +kernel) (v := .int ja1) rfl dX1_stayMonth_2 ?_
  refine lv_aload_n S.1 S.2.1 dX1_stayMonth_5 rfl (lv_at hl0 0 rfl) ?_
  refine r_get S hK hP rj (lt_J hrj) hF1 (C := RX1) (T := TX1) (N := 7) hiX1 rfl 1 (by decide) (by decide +kernel) (v := .int jb1) rfl dX1_stayMonth_6 ?_
  obtain ⟨sl3, fm3, tn3, rn3, bn3, hF3, hb3_1, hb3_2, hb3_3⟩ := wt_C hW hrc
  refine r_cVp (As := [.int ja1, .int jb1]) (rest := []) S hK hZ hP hS hl0.1 rc (lt_C hrc) hF3 (C := RX0) rfl (c_X0_gainIn l D cA ad t hI F hW rc hrc ja1 jb1) (cwV 2 S.2.2.2.2 gX1_stayMonth_X0_gainIn rfl rfl rfl (by decide +kernel) ⟨Nat.le_of_ble_eq_true rfl, Nat.le_of_ble_eq_true rfl⟩) rfl rfl (Nat.le_of_ble_eq_true rfl) ⟨Nat.zero_le _, Nat.zero_le _⟩ dX1_stayMonth_9 (fun r2 hr2 => ?_)
  refine lv_istore_n (lv' := [(2, .int r2), (0, .ref (ad rj)), (1, .ref (ad rc))]) S.1 S.2.1 dX1_stayMonth_12 rfl hl0 (by decide) rfl (fun ls4 hl4 => ?_)
  refine lv_aload_n S.1 S.2.1 dX1_stayMonth_13 rfl (lv_at hl4 2 rfl) ?_
  refine lv_aload_n S.1 S.2.1 dX1_stayMonth_14 rfl (lv_at hl4 1 rfl) ?_
  refine r_get S hK hP rj (lt_J hrj) hF1 (C := RX1) (T := TX1) (N := 7) hiX1 rfl 0 (by decide) (by decide +kernel) (v := .int ja1) rfl dX1_stayMonth_15 ?_
  refine lv_aload_n S.1 S.2.1 dX1_stayMonth_18 rfl (lv_at hl4 1 rfl) ?_
  refine r_get S hK hP rj (lt_J hrj) hF1 (C := RX1) (T := TX1) (N := 7) hiX1 rfl 1 (by decide) (by decide +kernel) (v := .int jb1) rfl dX1_stayMonth_19 ?_
  refine r_cVp (As := [.int ja1, .int jb1]) (rest := []) S hK hZ hP hS hl4.1 rc (lt_C hrc) hF3 (C := RX0) rfl (c_X0_worksIn l D cA ad t hI F hW rc hrc ja1 jb1) (cwV 2 S.2.2.2.2 gX1_stayMonth_X0_worksIn rfl rfl rfl (by decide +kernel) ⟨Nat.le_of_ble_eq_true rfl, Nat.le_of_ble_eq_true rfl⟩) rfl rfl (Nat.le_of_ble_eq_true rfl) ⟨Nat.zero_le _, Nat.zero_le _⟩ dX1_stayMonth_22 (fun r5 hr5 => ?_)
  obtain ⟨⟨b6, hb6, rfl⟩, hx6⟩ := hr5
  have hx6 : b6 ≠ 0 → 0 ≤ ja1.toInt ∧ ja1.toInt ≤ _ := fun q => hx6 (nI_ne0 (by omega) (by omega))
  refine lv_if_eq (tgt := 43) S.1 S.2.1 dX1_stayMonth_25 (by decide) (fun c7 => ?_) (fun c7 => ?_)
  · skip
    have k8 := ci_eq (nI_toInt (n := b6) (by omega)) z_ti c7
    refine lv_aload_n S.1 S.2.1 dX1_stayMonth_43 rfl (lv_at hl4 1 rfl) ?_
    refine lv_dup S.1 S.2.1 dX1_stayMonth_44 rfl ?_
    refine r_get S hK hP rj (lt_J hrj) hF1 (C := RX1) (T := TX1) (N := 7) hiX1 rfl 3 (by decide) (by decide +kernel) (v := .int jd1) rfl dX1_stayMonth_45 ?_
    refine lv_iload_n S.1 S.2.1 dX1_stayMonth_48 rfl (lv_at hl4 0 rfl) ?_
    refine lv_iadd S.1 S.2.1 dX1_stayMonth_49 ?_
    refine lv_topi (fun v9 e9 => ?_)
    refine r_put S hI hK hP hS rj (lt_J hrj) hF1 (C := RX1) (T := TX1) (N := 7) hiX1 tyX1_ok nmX1 rfl 3 (by decide) (by decide +kernel) rfl rfl rfl (Nat.le_of_ble_eq_true rfl) dX1_stayMonth_50 (fun F10 H10 locs10 eF10 hP10 hS10 => ?_)
    have hF10 : F10 rj = .inr (1, [.int ja1, .int jb1, .int jc1, .int v9, .int jx1, .int jy1, .int (nI jk1)]) := by rw [eF10]; exact va_up_self _ _ _
    have hW10 := hW.up eF10 (ok_J hrj ⟨ja1, jb1, jc1, v9, jx1, jy1, jk1, rfl, by omega⟩)
    have hFr10 := hFr.up eF10 (by simp <;> first | omega | (simp only [isC, isJ] at *; omega))
    refine lv_aload_n S.1 S.2.1 dX1_stayMonth_53 rfl (lv_at hl4 1 rfl) ?_
    refine lv_dup S.1 S.2.1 dX1_stayMonth_54 rfl ?_
    refine r_get S hK hP10 rj (lt_J hrj) hF10 (C := RX1) (T := TX1) (N := 7) hiX1 rfl 2 (by decide) (by decide +kernel) (v := .int jc1) rfl dX1_stayMonth_55 ?_
    refine lv_iconst (v := (nI 1)) S.1 S.2.1 dX1_stayMonth_58 (by decide +kernel) ?_
    refine lv_iadd S.1 S.2.1 dX1_stayMonth_59 ?_
    refine lv_topi (fun v11 e11 => ?_)
    refine r_put S hI hK hP10 hS10 rj (lt_J hrj) hF10 (C := RX1) (T := TX1) (N := 7) hiX1 tyX1_ok nmX1 rfl 2 (by decide) (by decide +kernel) rfl rfl rfl (Nat.le_of_ble_eq_true rfl) dX1_stayMonth_60 (fun F12 H12 locs12 eF12 hP12 hS12 => ?_)
    have hF12 : F12 rj = .inr (1, [.int ja1, .int jb1, .int v11, .int v9, .int jx1, .int jy1, .int (nI jk1)]) := by rw [eF12]; exact va_up_self _ _ _
    have hW12 := hW10.up eF12 (ok_J hrj ⟨ja1, jb1, v11, v9, jx1, jy1, jk1, rfl, by omega⟩)
    have hFr12 := hFr10.up eF12 (by simp <;> first | omega | (simp only [isC, isJ] at *; omega))
    refine lv_aload_n S.1 S.2.1 dX1_stayMonth_63 rfl (lv_at hl4 1 rfl) ?_
    refine lv_dup S.1 S.2.1 dX1_stayMonth_64 rfl ?_
    refine r_get S hK hP12 rj (lt_J hrj) hF12 (C := RX1) (T := TX1) (N := 7) hiX1 rfl 1 (by decide) (by decide +kernel) (v := .int jb1) rfl dX1_stayMonth_65 ?_
    refine lv_iconst (v := (nI 1)) S.1 S.2.1 dX1_stayMonth_68 (by decide +kernel) ?_
    refine lv_iadd S.1 S.2.1 dX1_stayMonth_69 ?_
    refine lv_topi (fun v13 e13 => ?_)
    refine r_put S hI hK hP12 hS12 rj (lt_J hrj) hF12 (C := RX1) (T := TX1) (N := 7) hiX1 tyX1_ok nmX1 rfl 1 (by decide) (by decide +kernel) rfl rfl rfl (Nat.le_of_ble_eq_true rfl) dX1_stayMonth_70 (fun F14 H14 locs14 eF14 hP14 hS14 => ?_)
    have hF14 : F14 rj = .inr (1, [.int ja1, .int v13, .int v11, .int v9, .int jx1, .int jy1, .int (nI jk1)]) := by rw [eF14]; exact va_up_self _ _ _
    have hW14 := hW12.up eF14 (ok_J hrj ⟨ja1, v13, v11, v9, jx1, jy1, jk1, rfl, by omega⟩)
    have hFr14 := hFr12.up eF14 (by simp <;> first | omega | (simp only [isC, isJ] at *; omega))
    refine lv_iload_n S.1 S.2.1 dX1_stayMonth_73 rfl (lv_at hl4 0 rfl) ?_
    exact hret 74 _ _ _ _ _ dX1_stayMonth_74 rfl hP14 hS14 ⟨hW14, hFr14, trivial⟩
  have k15 := ci_ne (nI_toInt (n := b6) (by omega)) z_ti c7
  refine lv_aload_n S.1 S.2.1 dX1_stayMonth_28 rfl (lv_at hl4 1 rfl) ?_
  refine lv_dup S.1 S.2.1 dX1_stayMonth_29 rfl ?_
  refine r_get S hK hP rj (lt_J hrj) hF1 (C := RX1) (T := TX1) (N := 7) hiX1 rfl 4 (by decide) (by decide +kernel) (v := .int jx1) rfl dX1_stayMonth_30 ?_
  refine lv_iconst (v := (nI 1)) S.1 S.2.1 dX1_stayMonth_33 (by decide +kernel) ?_
  refine lv_aload_n S.1 S.2.1 dX1_stayMonth_34 rfl (lv_at hl4 1 rfl) ?_
  refine r_get S hK hP rj (lt_J hrj) hF1 (C := RX1) (T := TX1) (N := 7) hiX1 rfl 0 (by decide) (by decide +kernel) (v := .int ja1) rfl dX1_stayMonth_35 ?_
  refine lv_ishl S.1 S.2.1 dX1_stayMonth_38 ?_
  refine lv_topi (fun v16 e16 => ?_)
  refine lv_ior S.1 S.2.1 dX1_stayMonth_39 ?_
  refine lv_topi (fun v17 e17 => ?_)
  refine r_put S hI hK hP hS rj (lt_J hrj) hF1 (C := RX1) (T := TX1) (N := 7) hiX1 tyX1_ok nmX1 rfl 4 (by decide) (by decide +kernel) rfl rfl rfl (Nat.le_of_ble_eq_true rfl) dX1_stayMonth_40 (fun F18 H18 locs18 eF18 hP18 hS18 => ?_)
  have hF18 : F18 rj = .inr (1, [.int ja1, .int jb1, .int jc1, .int jd1, .int v17, .int jy1, .int (nI jk1)]) := by rw [eF18]; exact va_up_self _ _ _
  have hW18 := hW.up eF18 (ok_J hrj ⟨ja1, jb1, jc1, jd1, v17, jy1, jk1, rfl, by omega⟩)
  have hFr18 := hFr.up eF18 (by simp <;> first | omega | (simp only [isC, isJ] at *; omega))
  refine lv_aload_n S.1 S.2.1 dX1_stayMonth_43 rfl (lv_at hl4 1 rfl) ?_
  refine lv_dup S.1 S.2.1 dX1_stayMonth_44 rfl ?_
  refine r_get S hK hP18 rj (lt_J hrj) hF18 (C := RX1) (T := TX1) (N := 7) hiX1 rfl 3 (by decide) (by decide +kernel) (v := .int jd1) rfl dX1_stayMonth_45 ?_
  refine lv_iload_n S.1 S.2.1 dX1_stayMonth_48 rfl (lv_at hl4 0 rfl) ?_
  refine lv_iadd S.1 S.2.1 dX1_stayMonth_49 ?_
  refine lv_topi (fun v19 e19 => ?_)
  refine r_put S hI hK hP18 hS18 rj (lt_J hrj) hF18 (C := RX1) (T := TX1) (N := 7) hiX1 tyX1_ok nmX1 rfl 3 (by decide) (by decide +kernel) rfl rfl rfl (Nat.le_of_ble_eq_true rfl) dX1_stayMonth_50 (fun F20 H20 locs20 eF20 hP20 hS20 => ?_)
  have hF20 : F20 rj = .inr (1, [.int ja1, .int jb1, .int jc1, .int v19, .int v17, .int jy1, .int (nI jk1)]) := by rw [eF20]; exact va_up_self _ _ _
  have hW20 := hW18.up eF20 (ok_J hrj ⟨ja1, jb1, jc1, v19, v17, jy1, jk1, rfl, by omega⟩)
  have hFr20 := hFr18.up eF20 (by simp <;> first | omega | (simp only [isC, isJ] at *; omega))
  refine lv_aload_n S.1 S.2.1 dX1_stayMonth_53 rfl (lv_at hl4 1 rfl) ?_
  refine lv_dup S.1 S.2.1 dX1_stayMonth_54 rfl ?_
  refine r_get S hK hP20 rj (lt_J hrj) hF20 (C := RX1) (T := TX1) (N := 7) hiX1 rfl 2 (by decide) (by decide +kernel) (v := .int jc1) rfl dX1_stayMonth_55 ?_
  refine lv_iconst (v := (nI 1)) S.1 S.2.1 dX1_stayMonth_58 (by decide +kernel) ?_
  refine lv_iadd S.1 S.2.1 dX1_stayMonth_59 ?_
  refine lv_topi (fun v21 e21 => ?_)
  refine r_put S hI hK hP20 hS20 rj (lt_J hrj) hF20 (C := RX1) (T := TX1) (N := 7) hiX1 tyX1_ok nmX1 rfl 2 (by decide) (by decide +kernel) rfl rfl rfl (Nat.le_of_ble_eq_true rfl) dX1_stayMonth_60 (fun F22 H22 locs22 eF22 hP22 hS22 => ?_)
  have hF22 : F22 rj = .inr (1, [.int ja1, .int jb1, .int v21, .int v19, .int v17, .int jy1, .int (nI jk1)]) := by rw [eF22]; exact va_up_self _ _ _
  have hW22 := hW20.up eF22 (ok_J hrj ⟨ja1, jb1, v21, v19, v17, jy1, jk1, rfl, by omega⟩)
  have hFr22 := hFr20.up eF22 (by simp <;> first | omega | (simp only [isC, isJ] at *; omega))
  refine lv_aload_n S.1 S.2.1 dX1_stayMonth_63 rfl (lv_at hl4 1 rfl) ?_
  refine lv_dup S.1 S.2.1 dX1_stayMonth_64 rfl ?_
  refine r_get S hK hP22 rj (lt_J hrj) hF22 (C := RX1) (T := TX1) (N := 7) hiX1 rfl 1 (by decide) (by decide +kernel) (v := .int jb1) rfl dX1_stayMonth_65 ?_
  refine lv_iconst (v := (nI 1)) S.1 S.2.1 dX1_stayMonth_68 (by decide +kernel) ?_
  refine lv_iadd S.1 S.2.1 dX1_stayMonth_69 ?_
  refine lv_topi (fun v23 e23 => ?_)
  refine r_put S hI hK hP22 hS22 rj (lt_J hrj) hF22 (C := RX1) (T := TX1) (N := 7) hiX1 tyX1_ok nmX1 rfl 1 (by decide) (by decide +kernel) rfl rfl rfl (Nat.le_of_ble_eq_true rfl) dX1_stayMonth_70 (fun F24 H24 locs24 eF24 hP24 hS24 => ?_)
  have hF24 : F24 rj = .inr (1, [.int ja1, .int v23, .int v21, .int v19, .int v17, .int jy1, .int (nI jk1)]) := by rw [eF24]; exact va_up_self _ _ _
  have hW24 := hW22.up eF24 (ok_J hrj ⟨ja1, v23, v21, v19, v17, jy1, jk1, rfl, by omega⟩)
  have hFr24 := hFr22.up eF24 (by simp <;> first | omega | (simp only [isC, isJ] at *; omega))
  refine lv_iload_n S.1 S.2.1 dX1_stayMonth_73 rfl (lv_at hl4 0 rfl) ?_
  exact hret 74 _ _ _ _ _ dX1_stayMonth_74 rfl hP24 hS24 ⟨hW24, hFr24, trivial⟩
set_option maxHeartbeats 4000000 in
set_option maxRecDepth 100000 in
theorem c_X1_walkMonth (l : Launch) (D : va_G) (cA ad : Nat → Nat) (t : Nat) (hI : rI ad) (F : Nat → va_E) (hW : WT cA ad F) (rj : Nat) (hrj : isJ rj) (p1 : Int32) : MV l D cA ad t yX1_walkMonth wsX1_walkMonth { frames := 0, cells := 0, slots := 0, locals := 0 } [.ref (ad rj), .int p1] F (fun F' => WT cA ad F' ∧ rFr [rj] F F' ∧ (True)) := by
  refine en_V rfl (by decide +kernel) (Nat.le_of_ble_eq_true rfl) ?_
  intro p e s m args below meth c ls0 Q S hK hZ hP hS hl0 hret
  have hl0 : lv_has ls0 2 [(0, .ref (ad rj)), (1, .int p1)] := hl0
  have hFr : rFr [rj] F F := rFr.rf
  have hiX1 : ∀ w ∈ u_ws RX1 TX1 7, w ∈ wsX1_walkMonth := by decide +kernel
  refine lv_aload_n S.1 S.2.1 dX1_walkMonth_0 rfl (lv_at hl0 0 rfl) ?_
  refine lv_iload_n S.1 S.2.1 dX1_walkMonth_1 rfl (lv_at hl0 1 rfl) ?_
  obtain ⟨ja1, jb1, jc1, jd1, jx1, jy1, jk1, hF1, hk1⟩ := wt_J hW hrj
  refine r_put S hI hK hP hS rj (lt_J hrj) hF1 (C := RX1) (T := TX1) (N := 7) hiX1 tyX1_ok nmX1 rfl 0 (by decide) (by decide +kernel) rfl rfl rfl (Nat.le_of_ble_eq_true rfl) dX1_walkMonth_2 (fun F2 H2 locs2 eF2 hP2 hS2 => ?_)
  have hF2 : F2 rj = .inr (1, [.int p1, .int jb1, .int jc1, .int jd1, .int jx1, .int jy1, .int (nI jk1)]) := by rw [eF2]; exact va_up_self _ _ _
  have hW2 := hW.up eF2 (ok_J hrj ⟨p1, jb1, jc1, jd1, jx1, jy1, jk1, rfl, by omega⟩)
  have hFr2 := hFr.up eF2 (by simp <;> first | omega | (simp only [isC, isJ] at *; omega))
  refine lv_aload_n S.1 S.2.1 dX1_walkMonth_5 rfl (lv_at hl0 0 rfl) ?_
  refine lv_iconst (v := (nI 0)) S.1 S.2.1 dX1_walkMonth_6 (by decide +kernel) ?_
  refine r_put S hI hK hP2 hS2 rj (lt_J hrj) hF2 (C := RX1) (T := TX1) (N := 7) hiX1 tyX1_ok nmX1 rfl 2 (by decide) (by decide +kernel) rfl rfl rfl (Nat.le_of_ble_eq_true rfl) dX1_walkMonth_7 (fun F3 H3 locs3 eF3 hP3 hS3 => ?_)
  have hF3 : F3 rj = .inr (1, [.int p1, .int jb1, .int (nI 0), .int jd1, .int jx1, .int jy1, .int (nI jk1)]) := by rw [eF3]; exact va_up_self _ _ _
  have hW3 := hW2.up eF3 (ok_J hrj ⟨p1, jb1, (nI 0), jd1, jx1, jy1, jk1, rfl, by omega⟩)
  have hFr3 := hFr2.up eF3 (by simp <;> first | omega | (simp only [isC, isJ] at *; omega))
  refine lv_aload_n S.1 S.2.1 dX1_walkMonth_10 rfl (lv_at hl0 0 rfl) ?_
  refine lv_dup S.1 S.2.1 dX1_walkMonth_11 rfl ?_
  refine r_get S hK hP3 rj (lt_J hrj) hF3 (C := RX1) (T := TX1) (N := 7) hiX1 rfl 1 (by decide) (by decide +kernel) (v := .int jb1) rfl dX1_walkMonth_12 ?_
  refine lv_iconst (v := (nI 1)) S.1 S.2.1 dX1_walkMonth_15 (by decide +kernel) ?_
  refine lv_iadd S.1 S.2.1 dX1_walkMonth_16 ?_
  refine lv_topi (fun v4 e4 => ?_)
  refine r_put S hI hK hP3 hS3 rj (lt_J hrj) hF3 (C := RX1) (T := TX1) (N := 7) hiX1 tyX1_ok nmX1 rfl 1 (by decide) (by decide +kernel) rfl rfl rfl (Nat.le_of_ble_eq_true rfl) dX1_walkMonth_17 (fun F5 H5 locs5 eF5 hP5 hS5 => ?_)
  have hF5 : F5 rj = .inr (1, [.int p1, .int v4, .int (nI 0), .int jd1, .int jx1, .int jy1, .int (nI jk1)]) := by rw [eF5]; exact va_up_self _ _ _
  have hW5 := hW3.up eF5 (ok_J hrj ⟨p1, v4, (nI 0), jd1, jx1, jy1, jk1, rfl, by omega⟩)
  have hFr5 := hFr3.up eF5 (by simp <;> first | omega | (simp only [isC, isJ] at *; omega))
  exact hret 20 _ _ _ _ dX1_walkMonth_20 hP5 hS5 ⟨hW5, hFr5, trivial⟩
set_option maxHeartbeats 4000000 in
set_option maxRecDepth 100000 in
theorem c_X2_loseOldest (l : Launch) (D : va_G) (cA ad : Nat → Nat) (t : Nat) (hI : rI ad) (F : Nat → va_E) (hW : WT cA ad F) : MV l D cA ad t yX2_loseOldest wsX2_loseOldest { frames := 0, cells := 0, slots := 0, locals := 0 } [.ref (ad 4)] F (fun F' => WT cA ad F' ∧ rFr [4, 5] F F' ∧ (∃ k : Nat, F' 4 = .inr (2, [.ref (ad 5), .int (nI k)]) ∧ k < 20)) := by
  refine en_V rfl (by decide +kernel) (Nat.le_of_ble_eq_true rfl) ?_
  intro p e s m args below meth c ls0 Q S hK hZ hP hS hl0 hret
  have hl0 : lv_has ls0 3 [(0, .ref (ad 4))] := hl0
  have hFr : rFr [4, 5] F F := rFr.rf
  have hiX2 : ∀ w ∈ u_ws RX2 TX2 2, w ∈ wsX2_loseOldest := by decide +kernel
  refine lv_aload_n S.1 S.2.1 dX2_loseOldest_0 rfl (lv_at hl0 0 rfl) ?_
  obtain ⟨k1, hF1, hk1⟩ := wt_past hW
  refine r_get S hK hP 4 (by decide) hF1 (C := RX2) (T := TX2) (N := 2) hiX2 rfl 0 (by decide) (by decide +kernel) (v := .ref (ad 5)) rfl dX2_loseOldest_1 ?_
  refine lv_iconst (v := (nI 0)) S.1 S.2.1 dX2_loseOldest_4 (by decide +kernel) ?_
  obtain ⟨g2, hF2, hg2⟩ := wt_kept hW
  obtain ⟨j3, hj3, hg3⟩ := hg2 0 (by omega)
  refine r_aald S hK hP 5 (by decide) hF2 (vp_in_nI (show 0 < 20 by omega) (by omega)) (a := ad j3) (by rw [nI_clamp (by omega)]; exact hg3) dX2_loseOldest_5 ?_
  refine lv_astore_n (lv' := [(1, .ref (ad j3)), (0, .ref (ad 4))]) S.1 S.2.1 dX2_loseOldest_6 rfl hl0 (by decide) rfl (fun ls4 hl4 => ?_)
  refine lv_iconst (v := (nI 1)) S.1 S.2.1 dX2_loseOldest_7 (by decide +kernel) ?_
  refine lv_istore_n (lv' := [(2, .int (nI 1)), (1, .ref (ad j3)), (0, .ref (ad 4))]) S.1 S.2.1 dX2_loseOldest_8 rfl hl4 (by decide) rfl (fun ls5 hl5 => ?_)
  have lp6 : ∀ (n6 : Nat) (q26 : Nat), ∀ (Fl6 : Nat → va_E) (Hl6 : Heap) (lol6 : List Loc), 1 ≤ q26 ∧ q26 ≤ 20 → 20 - q26 < n6 → WT cA ad Fl6 → rFr [4, 5] F Fl6 → va_P D vwCl (rW ad Fl6) Hl6 → va_S (rA ad) s.heap Hl6 lol6 → ∀ (ls : Array Slot), lv_has ls 3 [(2, .int (nI q26)), (1, .ref (ad j3)), (0, .ref (ad 4))] → W p l e { frames := 0, cells := 0, slots := 0, locals := 0 } s m args below meth c Hl6 lol6 0 0 Q (F0 m 9 ls []) := by
    intro n6
    induction n6 with
    | zero =>
      intro q26 Fl6 Hl6 lol6 iv6_0 hm6 hWl6 hFl6 hPl6 hSl6 ls6 hl6
      exact absurd hm6 (Nat.not_lt_zero _)
    | succ n6 ih6 =>
      intro q26 Fl6 Hl6 lol6 iv6_0 hm6 hWl6 hFl6 hPl6 hSl6 ls6 hl6
      refine lv_iload_n S.1 S.2.1 dX2_loseOldest_9 rfl (lv_at hl6 0 rfl) ?_
      refine lv_bipush (v := (nI 20)) S.1 S.2.1 dX2_loseOldest_10 (by decide +kernel) ?_
      refine lv_icmp_ge (tgt := 35) S.1 S.2.1 dX2_loseOldest_12 (by decide) (fun c7 => ?_) (fun c7 => ?_)
      · skip
        have k8 := ci_le (nI_toInt (n := 20) (by omega)) (nI_toInt (n := q26) (by omega)) c7
        refine lv_aload_n S.1 S.2.1 dX2_loseOldest_35 rfl (lv_at hl6 2 rfl) ?_
        obtain ⟨k9, hF9, hk9⟩ := wt_past hWl6
        refine r_get S hK hPl6 4 (by decide) hF9 (C := RX2) (T := TX2) (N := 2) hiX2 rfl 0 (by decide) (by decide +kernel) (v := .ref (ad 5)) rfl dX2_loseOldest_36 ?_
        refine lv_bipush (v := (nI 19)) S.1 S.2.1 dX2_loseOldest_39 (by decide +kernel) ?_
        refine lv_aload_n S.1 S.2.1 dX2_loseOldest_41 rfl (lv_at hl6 1 rfl) ?_
        obtain ⟨g10, hF10, hg10⟩ := wt_kept hWl6
        obtain ⟨ja11, jb11, jc11, jd11, jx11, jy11, jk11, hF11, hk11⟩ := wt_J hWl6 (show isJ j3 from Or.inr (Or.inl hj3))
        refine r_aast S hI hK hPl6 hSl6 5 (by decide) hF10 j3 (lt_J (show isJ j3 from Or.inr (Or.inl hj3))) hF11 (vp_in_nI (show 19 < 20 by omega) (by omega)) dX2_loseOldest_42 (fun F12 H12 locs12 eF12 hP12 hS12 => ?_)
        have hW12 := hWl6.up eF12 (ok_kept (okKept_up hg10 hj3))
        have hFr12 := hFl6.up eF12 (by simp <;> first | omega | (simp only [isC, isJ] at *; omega))
        refine lv_aload_n S.1 S.2.1 dX2_loseOldest_43 rfl (lv_at hl6 2 rfl) ?_
        refine lv_bipush (v := (nI 19)) S.1 S.2.1 dX2_loseOldest_44 (by decide +kernel) ?_
        have hF13 := (show F12 4 = Fl6 4 by rw [eF12]; exact va_up_ne _ _ (by decide)).trans hF9
        refine r_put S hI hK hP12 hS12 4 (by decide) hF13 (C := RX2) (T := TX2) (N := 2) hiX2 tyX2_ok nmX2 rfl 1 (by decide) (by decide +kernel) rfl rfl rfl (Nat.le_of_ble_eq_true rfl) dX2_loseOldest_46 (fun F14 H14 locs14 eF14 hP14 hS14 => ?_)
        have hF14 : F14 4 = .inr (2, [.ref (ad 5), .int (nI 19)]) := by rw [eF14]; exact va_up_self _ _ _
        have hW14 := hW12.up eF14 (ok_past ⟨19, rfl, by omega⟩)
        have hFr14 := hFr12.up eF14 (by simp <;> first | omega | (simp only [isC, isJ] at *; omega))
        exact hret 49 _ _ _ _ dX2_loseOldest_49 hP14 hS14 ⟨hW14, hFr14, ⟨19, hF14, by omega⟩⟩
      have k15 := ci_nle (nI_toInt (n := 20) (by omega)) (nI_toInt (n := q26) (by omega)) c7
      refine lv_aload_n S.1 S.2.1 dX2_loseOldest_15 rfl (lv_at hl6 2 rfl) ?_
      obtain ⟨k16, hF16, hk16⟩ := wt_past hWl6
      refine r_get S hK hPl6 4 (by decide) hF16 (C := RX2) (T := TX2) (N := 2) hiX2 rfl 0 (by decide) (by decide +kernel) (v := .ref (ad 5)) rfl dX2_loseOldest_16 ?_
      refine lv_iload_n S.1 S.2.1 dX2_loseOldest_19 rfl (lv_at hl6 0 rfl) ?_
      refine lv_iconst (v := (nI 1)) S.1 S.2.1 dX2_loseOldest_20 (by decide +kernel) ?_
      refine lv_isub S.1 S.2.1 dX2_loseOldest_21 ?_
      refine lv_topi (fun v17 e17 => ?_)
      obtain rfl : v17 = nI (q26 - 1) := e17.trans (pk_sub (by omega))
      refine lv_aload_n S.1 S.2.1 dX2_loseOldest_22 rfl (lv_at hl6 2 rfl) ?_
      refine r_get S hK hPl6 4 (by decide) hF16 (C := RX2) (T := TX2) (N := 2) hiX2 rfl 0 (by decide) (by decide +kernel) (v := .ref (ad 5)) rfl dX2_loseOldest_23 ?_
      refine lv_iload_n S.1 S.2.1 dX2_loseOldest_26 rfl (lv_at hl6 0 rfl) ?_
      obtain ⟨g18, hF18, hg18⟩ := wt_kept hWl6
      obtain ⟨j19, hj19, hg19⟩ := hg18 q26 (by omega)
      refine r_aald S hK hPl6 5 (by decide) hF18 (vp_in_nI (show q26 < 20 by omega) (by omega)) (a := ad j19) (by rw [nI_clamp (by omega)]; exact hg19) dX2_loseOldest_27 ?_
      obtain ⟨ja20, jb20, jc20, jd20, jx20, jy20, jk20, hF20, hk20⟩ := wt_J hWl6 (show isJ j19 from Or.inr (Or.inl hj19))
      refine r_aast S hI hK hPl6 hSl6 5 (by decide) hF18 j19 (lt_J (show isJ j19 from Or.inr (Or.inl hj19))) hF20 (vp_in_nI (show q26 - 1 < 20 by omega) (by omega)) dX2_loseOldest_28 (fun F21 H21 locs21 eF21 hP21 hS21 => ?_)
      have hW21 := hWl6.up eF21 (ok_kept (okKept_up hg18 hj19))
      have hFr21 := hFl6.up eF21 (by simp <;> first | omega | (simp only [isC, isJ] at *; omega))
      refine lv_iinc (v := (nI (q26 + 1))) (lv' := [(2, .int (nI (q26 + 1))), (1, .ref (ad j3)), (0, .ref (ad 4))]) S.1 S.2.1 dX2_loseOldest_29 hl6 (k := 0) rfl (nI_add _ 1) (by decide) rfl (fun ls22 hl22 => ?_)
      refine lv_goto (tgt := 9) S.1 S.2.1 dX2_loseOldest_32 (by decide) ?_
      exact ih6 (q26 + 1) F21 H21 locs21 (by omega) (by omega) hW21 hFr21 hP21 hS21 ls22 (lv_sub hl22 [0, 1, 2] rfl)
  exact lp6 (20 - (1) + 1) (1) F s.heap [] (by omega) (by omega) hW hFr hP hS ls5 (lv_sub hl5 [0, 1, 2] rfl)
set_option maxHeartbeats 4000000 in
set_option maxRecDepth 100000 in
theorem c_X2_push (l : Launch) (D : va_G) (cA ad : Nat → Nat) (t : Nat) (hI : rI ad) (F : Nat → va_E) (hW : WT cA ad F) (rj : Nat) (hrj : isJ rj) : MV l D cA ad t yX2_push wsX2_push { frames := 1, cells := 0, slots := 0, locals := 22 } [.ref (ad 4), .ref (ad rj)] F (fun F' => WT cA ad F' ∧ rFr [4, 5, 6, 7, 8, 9, 10, 11, 12, 13, 14, 15, 16, 17, 18, 19, 20, 21, 22, 23, 24, 25] F F' ∧ (True)) := by
  refine en_V rfl (by decide +kernel) (Nat.le_of_ble_eq_true rfl) ?_
  intro p e s m args below meth c ls0 Q S hK hZ hP hS hl0 hret
  have hl0 : lv_has ls0 2 [(0, .ref (ad 4)), (1, .ref (ad rj))] := hl0
  have hFr : rFr [4, 5, 6, 7, 8, 9, 10, 11, 12, 13, 14, 15, 16, 17, 18, 19, 20, 21, 22, 23, 24, 25] F F := rFr.rf
  have hiX2 : ∀ w ∈ u_ws RX2 TX2 2, w ∈ wsX2_push := by decide +kernel
  refine lv_aload_n S.1 S.2.1 dX2_push_0 rfl (lv_at hl0 0 rfl) ?_
  obtain ⟨k1, hF1, hk1⟩ := wt_past hW
  refine r_get S hK hP 4 (by decide) hF1 (C := RX2) (T := TX2) (N := 2) hiX2 rfl 1 (by decide) (by decide +kernel) (v := .int (nI k1)) rfl dX2_push_1 ?_
  refine lv_bipush (v := (nI 20)) S.1 S.2.1 dX2_push_4 (by decide +kernel) ?_
  refine lv_icmp_lt (tgt := 13) S.1 S.2.1 dX2_push_6 (by decide) (fun c2 => ?_) (fun c2 => ?_)
  · skip
    have k3 := ci_lt (nI_toInt (n := k1) (by omega)) (nI_toInt (n := 20) (by omega)) c2
    refine lv_aload_n S.1 S.2.1 dX2_push_13 rfl (lv_at hl0 0 rfl) ?_
    refine r_get S hK hP 4 (by decide) hF1 (C := RX2) (T := TX2) (N := 2) hiX2 rfl 0 (by decide) (by decide +kernel) (v := .ref (ad 5)) rfl dX2_push_14 ?_
    refine lv_aload_n S.1 S.2.1 dX2_push_17 rfl (lv_at hl0 0 rfl) ?_
    refine r_get S hK hP 4 (by decide) hF1 (C := RX2) (T := TX2) (N := 2) hiX2 rfl 1 (by decide) (by decide +kernel) (v := .int (nI k1)) rfl dX2_push_18 ?_
    obtain ⟨g4, hF4, hg4⟩ := wt_kept hW
    obtain ⟨j5, hj5, hg5⟩ := hg4 k1 (by omega)
    refine r_aald S hK hP 5 (by decide) hF4 (vp_in_nI (show k1 < 20 by omega) (by omega)) (a := ad j5) (by rw [nI_clamp (by omega)]; exact hg5) dX2_push_21 ?_
    refine lv_aload_n S.1 S.2.1 dX2_push_22 rfl (lv_at hl0 1 rfl) ?_
    obtain ⟨ja7, jb7, jc7, jd7, jx7, jy7, jk7, hF7, hk7⟩ := wt_J hW (show isJ j5 from Or.inr (Or.inl hj5))
    refine r_cVv (As := [.ref (ad rj)]) (rest := []) S hK hZ hP hS hl0.1 j5 (lt_J (show isJ j5 from Or.inr (Or.inl hj5))) hF7 (C := RX1) rfl (c_X1_copy l D cA ad t hI F hW j5 (show isJ j5 from Or.inr (Or.inl hj5)) rj hrj) (cwV 1 S.2.2.2.2 gX2_push_X1_copy rfl rfl rfl (by decide +kernel) ⟨Nat.le_of_ble_eq_true rfl, Nat.le_of_ble_eq_true rfl⟩) rfl rfl (Nat.le_of_ble_eq_true rfl) ⟨Nat.zero_le _, Nat.zero_le _⟩ dX2_push_23 (fun F6 H6 locs6 hr6 hP6 hS6 => ?_)
    obtain ⟨hW6, hFc6, hr6⟩ := hr6
    have hFr6 := hFr.tr hFc6 (by simp <;> first | omega | (simp only [isC, isJ] at *; omega))
    refine lv_aload_n S.1 S.2.1 dX2_push_26 rfl (lv_at hl0 0 rfl) ?_
    refine lv_dup S.1 S.2.1 dX2_push_27 rfl ?_
    have hF8 := (hFc6 4 (by have hh_j5 := (show isJ j5 from Or.inr (Or.inl hj5)); unfold isJ at hh_j5; simp only [List.mem_cons, List.not_mem_nil, or_false, not_or]; omega)).trans hF1
    refine r_get S hK hP6 4 (by decide) hF8 (C := RX2) (T := TX2) (N := 2) hiX2 rfl 1 (by decide) (by decide +kernel) (v := .int (nI k1)) rfl dX2_push_28 ?_
    refine lv_iconst (v := (nI 1)) S.1 S.2.1 dX2_push_31 (by decide +kernel) ?_
    refine lv_iadd S.1 S.2.1 dX2_push_32 ?_
    refine lv_topi (fun v9 e9 => ?_)
    obtain rfl : v9 = nI (k1 + 1) := e9.trans (nI_add _ _)
    refine r_put S hI hK hP6 hS6 4 (by decide) hF8 (C := RX2) (T := TX2) (N := 2) hiX2 tyX2_ok nmX2 rfl 1 (by decide) (by decide +kernel) rfl rfl rfl (Nat.le_of_ble_eq_true rfl) dX2_push_33 (fun F10 H10 locs10 eF10 hP10 hS10 => ?_)
    have hF10 : F10 4 = .inr (2, [.ref (ad 5), .int (nI (k1 + 1))]) := by rw [eF10]; exact va_up_self _ _ _
    have hW10 := hW6.up eF10 (ok_past ⟨k1 + 1, rfl, by omega⟩)
    have hFr10 := hFr6.up eF10 (by simp <;> first | omega | (simp only [isC, isJ] at *; omega))
    exact hret 36 _ _ _ _ dX2_push_36 hP10 hS10 ⟨hW10, hFr10, trivial⟩
  have k11 := ci_nlt (nI_toInt (n := k1) (by omega)) (nI_toInt (n := 20) (by omega)) c2
  refine lv_aload_n S.1 S.2.1 dX2_push_9 rfl (lv_at hl0 0 rfl) ?_
  refine r_cVv (As := []) (rest := []) S hK hZ hP hS hl0.1 4 (by decide) hF1 (C := RX2) rfl (c_X2_loseOldest l D cA ad t hI F hW ) (cwV 0 S.2.2.2.2 gX2_push_X2_loseOldest rfl rfl rfl (by decide +kernel) ⟨Nat.le_of_ble_eq_true rfl, Nat.le_of_ble_eq_true rfl⟩) rfl rfl (Nat.le_of_ble_eq_true rfl) ⟨Nat.zero_le _, Nat.zero_le _⟩ dX2_push_10 (fun F12 H12 locs12 hr12 hP12 hS12 => ?_)
  obtain ⟨hW12, hFc12, hr12⟩ := hr12
  have hFr12 := hFr.tr hFc12 (by simp <;> first | omega | (simp only [isC, isJ] at *; omega))
  obtain ⟨k13, hF13, hk13⟩ := hr12
  refine lv_aload_n S.1 S.2.1 dX2_push_13 rfl (lv_at hl0 0 rfl) ?_
  refine r_get S hK hP12 4 (by decide) hF13 (C := RX2) (T := TX2) (N := 2) hiX2 rfl 0 (by decide) (by decide +kernel) (v := .ref (ad 5)) rfl dX2_push_14 ?_
  refine lv_aload_n S.1 S.2.1 dX2_push_17 rfl (lv_at hl0 0 rfl) ?_
  refine r_get S hK hP12 4 (by decide) hF13 (C := RX2) (T := TX2) (N := 2) hiX2 rfl 1 (by decide) (by decide +kernel) (v := .int (nI k13)) rfl dX2_push_18 ?_
  obtain ⟨g14, hF14, hg14⟩ := wt_kept hW12
  obtain ⟨j15, hj15, hg15⟩ := hg14 k13 (by omega)
  refine r_aald S hK hP12 5 (by decide) hF14 (vp_in_nI (show k13 < 20 by omega) (by omega)) (a := ad j15) (by rw [nI_clamp (by omega)]; exact hg15) dX2_push_21 ?_
  refine lv_aload_n S.1 S.2.1 dX2_push_22 rfl (lv_at hl0 1 rfl) ?_
  obtain ⟨ja17, jb17, jc17, jd17, jx17, jy17, jk17, hF17, hk17⟩ := wt_J hW12 (show isJ j15 from Or.inr (Or.inl hj15))
  refine r_cVv (As := [.ref (ad rj)]) (rest := []) S hK hZ hP12 hS12 hl0.1 j15 (lt_J (show isJ j15 from Or.inr (Or.inl hj15))) hF17 (C := RX1) rfl (c_X1_copy l D cA ad t hI F12 hW12 j15 (show isJ j15 from Or.inr (Or.inl hj15)) rj hrj) (cwV 1 S.2.2.2.2 gX2_push_X1_copy rfl rfl rfl (by decide +kernel) ⟨Nat.le_of_ble_eq_true rfl, Nat.le_of_ble_eq_true rfl⟩) rfl rfl (Nat.le_of_ble_eq_true rfl) ⟨Nat.zero_le _, Nat.zero_le _⟩ dX2_push_23 (fun F16 H16 locs16 hr16 hP16 hS16 => ?_)
  obtain ⟨hW16, hFc16, hr16⟩ := hr16
  have hFr16 := hFr12.tr hFc16 (by simp <;> first | omega | (simp only [isC, isJ] at *; omega))
  refine lv_aload_n S.1 S.2.1 dX2_push_26 rfl (lv_at hl0 0 rfl) ?_
  refine lv_dup S.1 S.2.1 dX2_push_27 rfl ?_
  have hF18 := (hFc16 4 (by have hh_j15 := (show isJ j15 from Or.inr (Or.inl hj15)); unfold isJ at hh_j15; simp only [List.mem_cons, List.not_mem_nil, or_false, not_or]; omega)).trans hF13
  refine r_get S hK hP16 4 (by decide) hF18 (C := RX2) (T := TX2) (N := 2) hiX2 rfl 1 (by decide) (by decide +kernel) (v := .int (nI k13)) rfl dX2_push_28 ?_
  refine lv_iconst (v := (nI 1)) S.1 S.2.1 dX2_push_31 (by decide +kernel) ?_
  refine lv_iadd S.1 S.2.1 dX2_push_32 ?_
  refine lv_topi (fun v19 e19 => ?_)
  obtain rfl : v19 = nI (k13 + 1) := e19.trans (nI_add _ _)
  refine r_put S hI hK hP16 hS16 4 (by decide) hF18 (C := RX2) (T := TX2) (N := 2) hiX2 tyX2_ok nmX2 rfl 1 (by decide) (by decide +kernel) rfl rfl rfl (Nat.le_of_ble_eq_true rfl) dX2_push_33 (fun F20 H20 locs20 eF20 hP20 hS20 => ?_)
  have hF20 : F20 4 = .inr (2, [.ref (ad 5), .int (nI (k13 + 1))]) := by rw [eF20]; exact va_up_self _ _ _
  have hW20 := hW16.up eF20 (ok_past ⟨k13 + 1, rfl, by omega⟩)
  have hFr20 := hFr16.up eF20 (by simp <;> first | omega | (simp only [isC, isJ] at *; omega))
  exact hret 36 _ _ _ _ dX2_push_36 hP20 hS20 ⟨hW20, hFr20, trivial⟩
set_option maxHeartbeats 4000000 in
set_option maxRecDepth 100000 in
theorem c_X2_pop (l : Launch) (D : va_G) (cA ad : Nat → Nat) (t : Nat) (hI : rI ad) (F : Nat → va_E) (hW : WT cA ad F) (rj : Nat) (hrj : isJ rj) : MV l D cA ad t yX2_pop wsX2_pop { frames := 1, cells := 0, slots := 0, locals := 21 } [.ref (ad 4), .ref (ad rj)] F (fun F' => WT cA ad F' ∧ rFr [4, rj] F F' ∧ (True)) := by
  refine en_V rfl (by decide +kernel) (Nat.le_of_ble_eq_true rfl) ?_
  intro p e s m args below meth c ls0 Q S hK hZ hP hS hl0 hret
  have hl0 : lv_has ls0 2 [(0, .ref (ad 4)), (1, .ref (ad rj))] := hl0
  have hFr : rFr [4, rj] F F := rFr.rf
  have hiX2 : ∀ w ∈ u_ws RX2 TX2 2, w ∈ wsX2_pop := by decide +kernel
  refine lv_aload_n S.1 S.2.1 dX2_pop_0 rfl (lv_at hl0 0 rfl) ?_
  obtain ⟨k1, hF1, hk1⟩ := wt_past hW
  refine r_get S hK hP 4 (by decide) hF1 (C := RX2) (T := TX2) (N := 2) hiX2 rfl 1 (by decide) (by decide +kernel) (v := .int (nI k1)) rfl dX2_pop_1 ?_
  refine lv_if_le (tgt := 30) S.1 S.2.1 dX2_pop_4 (by decide) (fun c2 => ?_) (fun c2 => ?_)
  · skip
    have k3 := ci_le (nI_toInt (n := k1) (by omega)) z_ti c2
    exact hret 30 _ _ _ _ dX2_pop_30 hP hS ⟨hW, hFr, trivial⟩
  have k4 := ci_nle (nI_toInt (n := k1) (by omega)) z_ti c2
  refine lv_aload_n S.1 S.2.1 dX2_pop_7 rfl (lv_at hl0 0 rfl) ?_
  refine lv_dup S.1 S.2.1 dX2_pop_8 rfl ?_
  refine r_get S hK hP 4 (by decide) hF1 (C := RX2) (T := TX2) (N := 2) hiX2 rfl 1 (by decide) (by decide +kernel) (v := .int (nI k1)) rfl dX2_pop_9 ?_
  refine lv_iconst (v := (nI 1)) S.1 S.2.1 dX2_pop_12 (by decide +kernel) ?_
  refine lv_isub S.1 S.2.1 dX2_pop_13 ?_
  refine lv_topi (fun v5 e5 => ?_)
  obtain rfl : v5 = nI (k1 - 1) := e5.trans (pk_sub (by omega))
  refine r_put S hI hK hP hS 4 (by decide) hF1 (C := RX2) (T := TX2) (N := 2) hiX2 tyX2_ok nmX2 rfl 1 (by decide) (by decide +kernel) rfl rfl rfl (Nat.le_of_ble_eq_true rfl) dX2_pop_14 (fun F6 H6 locs6 eF6 hP6 hS6 => ?_)
  have hF6 : F6 4 = .inr (2, [.ref (ad 5), .int (nI (k1 - 1))]) := by rw [eF6]; exact va_up_self _ _ _
  have hW6 := hW.up eF6 (ok_past ⟨k1 - 1, rfl, by omega⟩)
  have hFr6 := hFr.up eF6 (by simp <;> first | omega | (simp only [isC, isJ] at *; omega))
  refine lv_aload_n S.1 S.2.1 dX2_pop_17 rfl (lv_at hl0 1 rfl) ?_
  refine lv_aload_n S.1 S.2.1 dX2_pop_18 rfl (lv_at hl0 0 rfl) ?_
  refine r_get S hK hP6 4 (by decide) hF6 (C := RX2) (T := TX2) (N := 2) hiX2 rfl 0 (by decide) (by decide +kernel) (v := .ref (ad 5)) rfl dX2_pop_19 ?_
  refine lv_aload_n S.1 S.2.1 dX2_pop_22 rfl (lv_at hl0 0 rfl) ?_
  refine r_get S hK hP6 4 (by decide) hF6 (C := RX2) (T := TX2) (N := 2) hiX2 rfl 1 (by decide) (by decide +kernel) (v := .int (nI (k1 - 1))) rfl dX2_pop_23 ?_
  obtain ⟨g7, hF7, hg7⟩ := wt_kept hW6
  obtain ⟨j8, hj8, hg8⟩ := hg7 (k1 - 1) (by omega)
  refine r_aald S hK hP6 5 (by decide) hF7 (vp_in_nI (show k1 - 1 < 20 by omega) (by omega)) (a := ad j8) (by rw [nI_clamp (by omega)]; exact hg8) dX2_pop_26 ?_
  obtain ⟨ja10, jb10, jc10, jd10, jx10, jy10, jk10, hF10, hk10⟩ := wt_J hW6 hrj
  refine r_cVv (As := [.ref (ad j8)]) (rest := []) S hK hZ hP6 hS6 hl0.1 rj (lt_J hrj) hF10 (C := RX1) rfl (c_X1_copy l D cA ad t hI F6 hW6 rj hrj j8 (show isJ j8 from Or.inr (Or.inl hj8))) (cwV 1 S.2.2.2.2 gX2_pop_X1_copy rfl rfl rfl (by decide +kernel) ⟨Nat.le_of_ble_eq_true rfl, Nat.le_of_ble_eq_true rfl⟩) rfl rfl (Nat.le_of_ble_eq_true rfl) ⟨Nat.zero_le _, Nat.zero_le _⟩ dX2_pop_27 (fun F9 H9 locs9 hr9 hP9 hS9 => ?_)
  obtain ⟨hW9, hFc9, hr9⟩ := hr9
  have hFr9 := hFr6.tr hFc9 (by simp <;> first | omega | (simp only [isC, isJ] at *; omega))
  exact hret 30 _ _ _ _ dX2_pop_30 hP9 hS9 ⟨hW9, hFr9, trivial⟩
set_option maxHeartbeats 4000000 in
set_option maxRecDepth 100000 in
theorem c_X7_exitsOf (l : Launch) (D : va_G) (cA ad : Nat → Nat) (t : Nat) (hI : rI ad) (F : Nat → va_E) (hW : WT cA ad F) (p1 : Int32) (ra : Nat) (hra : (ra, 8) ∈ rLI) (hura : ra ∉ [60, 61, 62, 63, 64, 66]) : MP l D cA ad t yX7_exitsOf wsX7_exitsOf { frames := 0, cells := 0, slots := 0, locals := 0 } [.int p1, .ref (ad ra)] F (fun r => True) := by
  refine en_P rfl (by decide +kernel) (Nat.le_of_ble_eq_true rfl) ?_
  intro p e s m args below meth c ls0 Q S hK hZ hP hS hl0 hret
  have hl0 : lv_has ls0 4 [(0, .int p1), (1, .ref (ad ra))] := hl0
  refine lv_iconst (v := (nI 0)) S.1 S.2.1 dX7_exitsOf_0 (by decide +kernel) ?_
  refine lv_istore_n (lv' := [(2, .int (nI 0)), (0, .int p1), (1, .ref (ad ra))]) S.1 S.2.1 dX7_exitsOf_1 rfl hl0 (by decide) rfl (fun ls1 hl1 => ?_)
  refine lv_iconst (v := (nI 0)) S.1 S.2.1 dX7_exitsOf_2 (by decide +kernel) ?_
  refine lv_istore_n (lv' := [(3, .int (nI 0)), (2, .int (nI 0)), (0, .int p1), (1, .ref (ad ra))]) S.1 S.2.1 dX7_exitsOf_3 rfl hl1 (by decide) rfl (fun ls2 hl2 => ?_)
  have lp3 : ∀ (n3 : Nat) (q33 : Nat) (x3_2 : Int32), q33 ≤ 8 → 8 - q33 < n3 → ∀ (ls : Array Slot), lv_has ls 4 [(3, .int (nI q33)), (2, .int x3_2), (0, .int p1), (1, .ref (ad ra))] → W p l e { frames := 0, cells := 0, slots := 0, locals := 0 } s m args below meth c s.heap [] 0 0 Q (F0 m 4 ls []) := by
    intro n3
    induction n3 with
    | zero =>
      intro q33 x3_2 iv3_0 hm3 ls3 hl3
      exact absurd hm3 (Nat.not_lt_zero _)
    | succ n3 ih3 =>
      intro q33 x3_2 iv3_0 hm3 ls3 hl3
      refine lv_iload_n S.1 S.2.1 dX7_exitsOf_4 rfl (lv_at hl3 0 rfl) ?_
      refine lv_aload_n S.1 S.2.1 dX7_exitsOf_5 rfl (lv_at hl3 3 rfl) ?_
      obtain ⟨g4, hF4, hg4⟩ := wt_I hW hra
      refine r_alen S hK hP ra (lt_I hra) 0 hF4 rfl dX7_exitsOf_6 ?_
      refine lv_icmp_ge (tgt := 30) S.1 S.2.1 dX7_exitsOf_7 (by decide) (fun c5 => ?_) (fun c5 => ?_)
      · skip
        have k6 := ci_le (nI_toInt (n := 8) (by omega)) (nI_toInt (n := q33) (by omega)) c5
        refine lv_iload_n S.1 S.2.1 dX7_exitsOf_30 rfl (lv_at hl3 1 rfl) ?_
        exact hret 31 _ _ dX7_exitsOf_31 rfl (trivial)
      have k7 := ci_nle (nI_toInt (n := 8) (by omega)) (nI_toInt (n := q33) (by omega)) c5
      refine lv_iload_n S.1 S.2.1 dX7_exitsOf_10 rfl (lv_at hl3 2 rfl) ?_
      refine lv_iload_n S.1 S.2.1 dX7_exitsOf_11 rfl (lv_at hl3 0 rfl) ?_
      refine lv_ishr S.1 S.2.1 dX7_exitsOf_12 ?_
      refine lv_topi (fun v8 e8 => ?_)
      refine lv_iconst (v := (nI 1)) S.1 S.2.1 dX7_exitsOf_13 (by decide +kernel) ?_
      refine lv_iand S.1 S.2.1 dX7_exitsOf_14 ?_
      refine lv_topi (fun v9 e9 => ?_)
      refine lv_if_eq (tgt := 24) S.1 S.2.1 dX7_exitsOf_15 (by decide) (fun c10 => ?_) (fun c10 => ?_)
      · skip
        have k11 := ci_eq rfl z_ti c10
        refine lv_iinc (v := (nI (q33 + 1))) (lv' := [(3, .int (nI (q33 + 1))), (2, .int x3_2), (0, .int p1), (1, .ref (ad ra))]) S.1 S.2.1 dX7_exitsOf_24 hl3 (k := 0) rfl (nI_add _ 1) (by decide) rfl (fun ls12 hl12 => ?_)
        refine lv_goto (tgt := 4) S.1 S.2.1 dX7_exitsOf_27 (by decide) ?_
        exact ih3 (q33 + 1) (x3_2) (by omega) (by omega) ls12 (lv_sub hl12 [0, 1, 2, 3] rfl)
      have k13 := ci_ne rfl z_ti c10
      refine lv_iload_n S.1 S.2.1 dX7_exitsOf_18 rfl (lv_at hl3 1 rfl) ?_
      refine lv_aload_n S.1 S.2.1 dX7_exitsOf_19 rfl (lv_at hl3 3 rfl) ?_
      refine lv_iload_n S.1 S.2.1 dX7_exitsOf_20 rfl (lv_at hl3 0 rfl) ?_
      refine r_iald S hK hP ra (lt_I hra) hF4 (vp_in_nI (show q33 < 8 by omega) (by omega)) dX7_exitsOf_21 ?_
      refine lv_topi (fun v15 e15 => ?_)
      refine lv_ior S.1 S.2.1 dX7_exitsOf_22 ?_
      refine lv_topi (fun v16 e16 => ?_)
      refine lv_istore_n (lv' := [(2, .int v16), (3, .int (nI q33)), (0, .int p1), (1, .ref (ad ra))]) S.1 S.2.1 dX7_exitsOf_23 rfl hl3 (by decide) rfl (fun ls17 hl17 => ?_)
      refine lv_iinc (v := (nI (q33 + 1))) (lv' := [(3, .int (nI (q33 + 1))), (2, .int v16), (0, .int p1), (1, .ref (ad ra))]) S.1 S.2.1 dX7_exitsOf_24 hl17 (k := 1) rfl (nI_add _ 1) (by decide) rfl (fun ls18 hl18 => ?_)
      refine lv_goto (tgt := 4) S.1 S.2.1 dX7_exitsOf_27 (by decide) ?_
      exact ih3 (q33 + 1) (v16) (by omega) (by omega) ls18 (lv_sub hl18 [0, 1, 2, 3] rfl)
  exact lp3 (8 - (0) + 1) (0) ((nI 0)) (by omega) (by omega) ls2 (lv_sub hl2 [0, 1, 2, 3] rfl)
