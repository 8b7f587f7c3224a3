noncomputable def m_X1_clear_21 (σ : SS) (a0 : Nat) : SS :=
  σ
noncomputable def m_X1_clear_18 (σ : SS) (a0 : Nat) : SS :=
  m_X1_clear_21 (st σ a0 6 (nI 0)) a0
noncomputable def m_X1_clear_15 (σ : SS) (a0 : Nat) : SS :=
  m_X1_clear_18 (st σ a0 5 (nI 0)) a0
noncomputable def m_X1_clear_12 (σ : SS) (a0 : Nat) : SS :=
  m_X1_clear_15 (st σ a0 4 (nI 0)) a0
noncomputable def m_X1_clear_9 (σ : SS) (a0 : Nat) : SS :=
  m_X1_clear_12 (st σ a0 3 (nI 0)) a0
noncomputable def m_X1_clear_6 (σ : SS) (a0 : Nat) : SS :=
  m_X1_clear_9 (st σ a0 2 (nI 0)) a0
noncomputable def m_X1_clear_3 (σ : SS) (a0 : Nat) : SS :=
  m_X1_clear_6 (st σ a0 1 (nI 0)) a0
noncomputable def m_X1_clear (σ : SS) (a0 : Nat) : SS :=
  m_X1_clear_3 (st σ a0 0 (nI 0)) a0
set_option maxHeartbeats 4000000 in
set_option maxRecDepth 100000 in
theorem c_X1_clear (l : Launch) (D : va_G) (cA ad : Nat → Nat) (t : Nat) (hI : rI ad) (F : Nat → va_E) (hW : WT cA ad F) (rj : Nat) (hrj : isJ rj) : MV l D cA ad t yX1_clear wsX1_clear { frames := 0, cells := 0, slots := 0, locals := 0 } [.ref (ad rj)] F (fun F' => WT cA ad F' ∧ rFr [rj] F F' ∧ ((True) ∧ m_X1_clear (AB ad F) rj = AB ad F')) := by
  refine en_V rfl (by decide +kernel) (Nat.le_of_ble_eq_true rfl) ?_
  intro p e s m args below meth c ls0 Q S hK hZ hP hS hl0 hret
  have hl0 : lv_has ls0 1 [(0, .ref (ad rj))] := hl0
  have hFr : rFr [rj] F F := rFr.rf
  have hiX1 : ∀ w ∈ u_ws RX1 TX1 7, w ∈ wsX1_clear := in_wsX1_clear_1
  obtain ⟨M, hM⟩ : ∃ M, M = m_X1_clear (AB ad F) rj := ⟨_, rfl⟩
  refine lv_aload_n S.1 S.2.1 dX1_clear_0 rfl (lv_at hl0 0 rfl) ?_
  refine lv_iconst (v := (nI 0)) S.1 S.2.1 dX1_clear_1 (by decide +kernel) ?_
  obtain ⟨ja1, jb1, jc1, jd1, jx1, jy1, jk1, hF1, hk1⟩ := wt_J hW hrj
  refine r_put S hI hK hP hS rj (lt_J hrj) hF1 (C := RX1) (T := TX1) (N := 7) hiX1 tyX1_ok nmX1 rfl 0 (by decide) (am_at in_wsX1_clear_0 0 rfl) rfl rfl rfl (Nat.le_of_ble_eq_true rfl) dX1_clear_2 (fun F2 H2 locs2 eF2 hP2 hS2 => ?_)
  have hF2 : F2 rj = .inr (1, [.int (nI 0), .int jb1, .int jc1, .int jd1, .int jx1, .int jy1, .int (nI jk1)]) := by rw [eF2]; exact va_up_self _ _ _
  have hW2 := hW.up eF2 (ok_J hrj ⟨(nI 0), jb1, jc1, jd1, jx1, jy1, jk1, rfl, by omega⟩)
  have hFr2 := hFr.up eF2 (by simp <;> first | omega | (simp only [isC, isJ] at *; omega))
  have hE4 : M = m_X1_clear_3 (AB ad F2) rj := hM.trans ((show m_X1_clear (AB ad F) rj = m_X1_clear_3 (st (AB ad F) rj 0 (nI 0)) rj from rfl).trans (congr (congrArg (m_X1_clear_3) ((st_cg rfl rfl rfl).trans (AB_put hF1 (Nat.le_of_ble_eq_true rfl) eF2).symm)) (Eq.refl rj)))
  refine lv_aload_n S.1 S.2.1 dX1_clear_5 rfl (lv_at hl0 0 rfl) ?_
  refine lv_iconst (v := (nI 0)) S.1 S.2.1 dX1_clear_6 (by decide +kernel) ?_
  refine r_put S hI hK hP2 hS2 rj (lt_J hrj) hF2 (C := RX1) (T := TX1) (N := 7) hiX1 tyX1_ok nmX1 rfl 1 (by decide) (am_at in_wsX1_clear_0 1 rfl) rfl rfl rfl (Nat.le_of_ble_eq_true rfl) dX1_clear_7 (fun F5 H5 locs5 eF5 hP5 hS5 => ?_)
  have hF5 : F5 rj = .inr (1, [.int (nI 0), .int (nI 0), .int jc1, .int jd1, .int jx1, .int jy1, .int (nI jk1)]) := by rw [eF5]; exact va_up_self _ _ _
  have hW5 := hW2.up eF5 (ok_J hrj ⟨(nI 0), (nI 0), jc1, jd1, jx1, jy1, jk1, rfl, by omega⟩)
  have hFr5 := hFr2.up eF5 (by simp <;> first | omega | (simp only [isC, isJ] at *; omega))
  have hE7 : M = m_X1_clear_6 (AB ad F5) rj := hE4.trans ((show m_X1_clear_3 (AB ad F2) rj = m_X1_clear_6 (st (AB ad F2) rj 1 (nI 0)) rj from rfl).trans (congr (congrArg (m_X1_clear_6) ((st_cg rfl rfl rfl).trans (AB_put hF2 (Nat.le_of_ble_eq_true rfl) eF5).symm)) (Eq.refl rj)))
  refine lv_aload_n S.1 S.2.1 dX1_clear_10 rfl (lv_at hl0 0 rfl) ?_
  refine lv_iconst (v := (nI 0)) S.1 S.2.1 dX1_clear_11 (by decide +kernel) ?_
  refine r_put S hI hK hP5 hS5 rj (lt_J hrj) hF5 (C := RX1) (T := TX1) (N := 7) hiX1 tyX1_ok nmX1 rfl 2 (by decide) (am_at in_wsX1_clear_0 2 rfl) rfl rfl rfl (Nat.le_of_ble_eq_true rfl) dX1_clear_12 (fun F8 H8 locs8 eF8 hP8 hS8 => ?_)
  have hF8 : F8 rj = .inr (1, [.int (nI 0), .int (nI 0), .int (nI 0), .int jd1, .int jx1, .int jy1, .int (nI jk1)]) := by rw [eF8]; exact va_up_self _ _ _
  have hW8 := hW5.up eF8 (ok_J hrj ⟨(nI 0), (nI 0), (nI 0), jd1, jx1, jy1, jk1, rfl, by omega⟩)
  have hFr8 := hFr5.up eF8 (by simp <;> first | omega | (simp only [isC, isJ] at *; omega))
  have hE10 : M = m_X1_clear_9 (AB ad F8) rj := hE7.trans ((show m_X1_clear_6 (AB ad F5) rj = m_X1_clear_9 (st (AB ad F5) rj 2 (nI 0)) rj from rfl).trans (congr (congrArg (m_X1_clear_9) ((st_cg rfl rfl rfl).trans (AB_put hF5 (Nat.le_of_ble_eq_true rfl) eF8).symm)) (Eq.refl rj)))
  refine lv_aload_n S.1 S.2.1 dX1_clear_15 rfl (lv_at hl0 0 rfl) ?_
  refine lv_iconst (v := (nI 0)) S.1 S.2.1 dX1_clear_16 (by decide +kernel) ?_
  refine r_put S hI hK hP8 hS8 rj (lt_J hrj) hF8 (C := RX1) (T := TX1) (N := 7) hiX1 tyX1_ok nmX1 rfl 3 (by decide) (am_at in_wsX1_clear_0 3 rfl) rfl rfl rfl (Nat.le_of_ble_eq_true rfl) dX1_clear_17 (fun F11 H11 locs11 eF11 hP11 hS11 => ?_)
  have hF11 : F11 rj = .inr (1, [.int (nI 0), .int (nI 0), .int (nI 0), .int (nI 0), .int jx1, .int jy1, .int (nI jk1)]) := by rw [eF11]; exact va_up_self _ _ _
  have hW11 := hW8.up eF11 (ok_J hrj ⟨(nI 0), (nI 0), (nI 0), (nI 0), jx1, jy1, jk1, rfl, by omega⟩)
  have hFr11 := hFr8.up eF11 (by simp <;> first | omega | (simp only [isC, isJ] at *; omega))
  have hE13 : M = m_X1_clear_12 (AB ad F11) rj := hE10.trans ((show m_X1_clear_9 (AB ad F8) rj = m_X1_clear_12 (st (AB ad F8) rj 3 (nI 0)) rj from rfl).trans (congr (congrArg (m_X1_clear_12) ((st_cg rfl rfl rfl).trans (AB_put hF8 (Nat.le_of_ble_eq_true rfl) eF11).symm)) (Eq.refl rj)))
  refine lv_aload_n S.1 S.2.1 dX1_clear_20 rfl (lv_at hl0 0 rfl) ?_
  refine lv_iconst (v := (nI 0)) S.1 S.2.1 dX1_clear_21 (by decide +kernel) ?_
  refine r_put S hI hK hP11 hS11 rj (lt_J hrj) hF11 (C := RX1) (T := TX1) (N := 7) hiX1 tyX1_ok nmX1 rfl 4 (by decide) (am_at in_wsX1_clear_0 4 rfl) rfl rfl rfl (Nat.le_of_ble_eq_true rfl) dX1_clear_22 (fun F14 H14 locs14 eF14 hP14 hS14 => ?_)
  have hF14 : F14 rj = .inr (1, [.int (nI 0), .int (nI 0), .int (nI 0), .int (nI 0), .int (nI 0), .int jy1, .int (nI jk1)]) := by rw [eF14]; exact va_up_self _ _ _
  have hW14 := hW11.up eF14 (ok_J hrj ⟨(nI 0), (nI 0), (nI 0), (nI 0), (nI 0), jy1, jk1, rfl, by omega⟩)
  have hFr14 := hFr11.up eF14 (by simp <;> first | omega | (simp only [isC, isJ] at *; omega))
  have hE16 : M = m_X1_clear_15 (AB ad F14) rj := hE13.trans ((show m_X1_clear_12 (AB ad F11) rj = m_X1_clear_15 (st (AB ad F11) rj 4 (nI 0)) rj from rfl).trans (congr (congrArg (m_X1_clear_15) ((st_cg rfl rfl rfl).trans (AB_put hF11 (Nat.le_of_ble_eq_true rfl) eF14).symm)) (Eq.refl rj)))
  refine lv_aload_n S.1 S.2.1 dX1_clear_25 rfl (lv_at hl0 0 rfl) ?_
  refine lv_iconst (v := (nI 0)) S.1 S.2.1 dX1_clear_26 (by decide +kernel) ?_
  refine r_put S hI hK hP14 hS14 rj (lt_J hrj) hF14 (C := RX1) (T := TX1) (N := 7) hiX1 tyX1_ok nmX1 rfl 5 (by decide) (am_at in_wsX1_clear_0 5 rfl) rfl rfl rfl (Nat.le_of_ble_eq_true rfl) dX1_clear_27 (fun F17 H17 locs17 eF17 hP17 hS17 => ?_)
  have hF17 : F17 rj = .inr (1, [.int (nI 0), .int (nI 0), .int (nI 0), .int (nI 0), .int (nI 0), .int (nI 0), .int (nI jk1)]) := by rw [eF17]; exact va_up_self _ _ _
  have hW17 := hW14.up eF17 (ok_J hrj ⟨(nI 0), (nI 0), (nI 0), (nI 0), (nI 0), (nI 0), jk1, rfl, by omega⟩)
  have hFr17 := hFr14.up eF17 (by simp <;> first | omega | (simp only [isC, isJ] at *; omega))
  have hE19 : M = m_X1_clear_18 (AB ad F17) rj := hE16.trans ((show m_X1_clear_15 (AB ad F14) rj = m_X1_clear_18 (st (AB ad F14) rj 5 (nI 0)) rj from rfl).trans (congr (congrArg (m_X1_clear_18) ((st_cg rfl rfl rfl).trans (AB_put hF14 (Nat.le_of_ble_eq_true rfl) eF17).symm)) (Eq.refl rj)))
  refine lv_aload_n S.1 S.2.1 dX1_clear_30 rfl (lv_at hl0 0 rfl) ?_
  refine lv_iconst (v := (nI 0)) S.1 S.2.1 dX1_clear_31 (by decide +kernel) ?_
  refine r_put S hI hK hP17 hS17 rj (lt_J hrj) hF17 (C := RX1) (T := TX1) (N := 7) hiX1 tyX1_ok nmX1 rfl 6 (by decide) (am_at in_wsX1_clear_0 6 rfl) rfl (nar_bool (by omega)) (fit_bool (by omega)) (Nat.le_of_ble_eq_true rfl) dX1_clear_32 (fun F20 H20 locs20 eF20 hP20 hS20 => ?_)
  have hF20 : F20 rj = .inr (1, [.int (nI 0), .int (nI 0), .int (nI 0), .int (nI 0), .int (nI 0), .int (nI 0), .int (nI 0)]) := by rw [eF20]; exact va_up_self _ _ _
  have hW20 := hW17.up eF20 (ok_J hrj ⟨(nI 0), (nI 0), (nI 0), (nI 0), (nI 0), (nI 0), 0, rfl, by omega⟩)
  have hFr20 := hFr17.up eF20 (by simp <;> first | omega | (simp only [isC, isJ] at *; omega))
  have hE22 : M = m_X1_clear_21 (AB ad F20) rj := hE19.trans ((show m_X1_clear_18 (AB ad F17) rj = m_X1_clear_21 (st (AB ad F17) rj 6 (nI 0)) rj from rfl).trans (congr (congrArg (m_X1_clear_21) ((st_cg rfl rfl rfl).trans (AB_put hF17 (Nat.le_of_ble_eq_true rfl) eF20).symm)) (Eq.refl rj)))
  have hE23 : M = AB ad F20 := hE22.trans ((show m_X1_clear_21 (AB ad F20) rj = (AB ad F20) from rfl).trans rfl)
  exact hret 35 _ _ _ _ dX1_clear_35 hP20 hS20 ⟨hW20, hFr20, ⟨trivial, hM.symm.trans hE23⟩⟩
noncomputable def m_X1_copy_35 (σ : SS) (a0 : Nat) (a1 : Nat) : SS :=
  σ
noncomputable def m_X1_copy_30 (σ : SS) (a0 : Nat) (a1 : Nat) : SS :=
  m_X1_copy_35 (st σ a0 6 (σ a1 6)) a0 a1
noncomputable def m_X1_copy_25 (σ : SS) (a0 : Nat) (a1 : Nat) : SS :=
  m_X1_copy_30 (st σ a0 5 (σ a1 5)) a0 a1
noncomputable def m_X1_copy_20 (σ : SS) (a0 : Nat) (a1 : Nat) : SS :=
  m_X1_copy_25 (st σ a0 4 (σ a1 4)) a0 a1
noncomputable def m_X1_copy_15 (σ : SS) (a0 : Nat) (a1 : Nat) : SS :=
  m_X1_copy_20 (st σ a0 3 (σ a1 3)) a0 a1
noncomputable def m_X1_copy_10 (σ : SS) (a0 : Nat) (a1 : Nat) : SS :=
  m_X1_copy_15 (st σ a0 2 (σ a1 2)) a0 a1
noncomputable def m_X1_copy_5 (σ : SS) (a0 : Nat) (a1 : Nat) : SS :=
  m_X1_copy_10 (st σ a0 1 (σ a1 1)) a0 a1
noncomputable def m_X1_copy (σ : SS) (a0 : Nat) (a1 : Nat) : SS :=
  m_X1_copy_5 (st σ a0 0 (σ a1 0)) a0 a1
set_option maxHeartbeats 4000000 in
set_option maxRecDepth 100000 in
theorem c_X1_copy (l : Launch) (D : va_G) (cA ad : Nat → Nat) (t : Nat) (hI : rI ad) (F : Nat → va_E) (hW : WT cA ad F) (rj : Nat) (hrj : isJ rj) (rk : Nat) (hrk : isJ rk) : MV l D cA ad t yX1_copy wsX1_copy { frames := 0, cells := 0, slots := 0, locals := 0 } [.ref (ad rj), .ref (ad rk)] F (fun F' => WT cA ad F' ∧ rFr [rj] F F' ∧ ((True) ∧ m_X1_copy (AB ad F) rj rk = AB ad F')) := by
  refine en_V rfl (by decide +kernel) (Nat.le_of_ble_eq_true rfl) ?_
  intro p e s m args below meth c ls0 Q S hK hZ hP hS hl0 hret
  have hl0 : lv_has ls0 2 [(0, .ref (ad rj)), (1, .ref (ad rk))] := hl0
  have hFr : rFr [rj] F F := rFr.rf
  have hiX1 : ∀ w ∈ u_ws RX1 TX1 7, w ∈ wsX1_copy := in_wsX1_copy_1
  obtain ⟨M, hM⟩ : ∃ M, M = m_X1_copy (AB ad F) rj rk := ⟨_, rfl⟩
  refine lv_aload_n S.1 S.2.1 dX1_copy_0 rfl (lv_at hl0 0 rfl) ?_
  refine lv_aload_n S.1 S.2.1 dX1_copy_1 rfl (lv_at hl0 1 rfl) ?_
  obtain ⟨ja1, jb1, jc1, jd1, jx1, jy1, jk1, hF1, hk1⟩ := wt_J hW hrk
  refine r_get S hK hP rk (lt_J hrk) hF1 (C := RX1) (T := TX1) (N := 7) hiX1 rfl 0 (by decide) (am_at in_wsX1_copy_0 0 rfl) (v := .int ja1) rfl dX1_copy_2 ?_
  have m2 : ((AB ad F) rk 0) = ja1 := (congrArg (fun q => AB ad F q 0) rfl).trans (AB_f hF1 rfl)
  obtain ⟨ja3, jb3, jc3, jd3, jx3, jy3, jk3, hF3, hk3⟩ := wt_J hW hrj
  refine r_put S hI hK hP hS rj (lt_J hrj) hF3 (C := RX1) (T := TX1) (N := 7) hiX1 tyX1_ok nmX1 rfl 0 (by decide) (am_at in_wsX1_copy_0 0 rfl) rfl rfl rfl (Nat.le_of_ble_eq_true rfl) dX1_copy_5 (fun F4 H4 locs4 eF4 hP4 hS4 => ?_)
  have hF4 : F4 rj = .inr (1, [.int ja1, .int jb3, .int jc3, .int jd3, .int jx3, .int jy3, .int (nI jk3)]) := by rw [eF4]; exact va_up_self _ _ _
  have hW4 := hW.up eF4 (ok_J hrj ⟨ja1, jb3, jc3, jd3, jx3, jy3, jk3, rfl, by omega⟩)
  have hFr4 := hFr.up eF4 (by simp <;> first | omega | (simp only [isC, isJ] at *; omega))
  have hE6 : M = m_X1_copy_5 (AB ad F4) rj rk := hM.trans ((show m_X1_copy (AB ad F) rj rk = m_X1_copy_5 (st (AB ad F) rj 0 ((AB ad F) rk 0)) rj rk from rfl).trans (congr (congr (congrArg (m_X1_copy_5) ((st_cg rfl rfl m2).trans (AB_put hF3 (Nat.le_of_ble_eq_true rfl) eF4).symm)) (Eq.refl rj)) (Eq.refl rk)))
  refine lv_aload_n S.1 S.2.1 dX1_copy_8 rfl (lv_at hl0 0 rfl) ?_
  refine lv_aload_n S.1 S.2.1 dX1_copy_9 rfl (lv_at hl0 1 rfl) ?_
  obtain ⟨ja7, jb7, jc7, jd7, jx7, jy7, jk7, hF7, hk7⟩ := wt_J hW4 hrk
  refine r_get S hK hP4 rk (lt_J hrk) hF7 (C := RX1) (T := TX1) (N := 7) hiX1 rfl 1 (by decide) (am_at in_wsX1_copy_0 1 rfl) (v := .int jb7) rfl dX1_copy_10 ?_
  have m8 : ((AB ad F4) rk 1) = jb7 := (congrArg (fun q => AB ad F4 q 1) rfl).trans (AB_f hF7 rfl)
  refine r_put S hI hK hP4 hS4 rj (lt_J hrj) hF4 (C := RX1) (T := TX1) (N := 7) hiX1 tyX1_ok nmX1 rfl 1 (by decide) (am_at in_wsX1_copy_0 1 rfl) rfl rfl rfl (Nat.le_of_ble_eq_true rfl) dX1_copy_13 (fun F9 H9 locs9 eF9 hP9 hS9 => ?_)
  have hF9 : F9 rj = .inr (1, [.int ja1, .int jb7, .int jc3, .int jd3, .int jx3, .int jy3, .int (nI jk3)]) := by rw [eF9]; exact va_up_self _ _ _
  have hW9 := hW4.up eF9 (ok_J hrj ⟨ja1, jb7, jc3, jd3, jx3, jy3, jk3, rfl, by omega⟩)
  have hFr9 := hFr4.up eF9 (by simp <;> first | omega | (simp only [isC, isJ] at *; omega))
  have hE11 : M = m_X1_copy_10 (AB ad F9) rj rk := hE6.trans ((show m_X1_copy_5 (AB ad F4) rj rk = m_X1_copy_10 (st (AB ad F4) rj 1 ((AB ad F4) rk 1)) rj rk from rfl).trans (congr (congr (congrArg (m_X1_copy_10) ((st_cg rfl rfl m8).trans (AB_put hF4 (Nat.le_of_ble_eq_true rfl) eF9).symm)) (Eq.refl rj)) (Eq.refl rk)))
  refine lv_aload_n S.1 S.2.1 dX1_copy_16 rfl (lv_at hl0 0 rfl) ?_
  refine lv_aload_n S.1 S.2.1 dX1_copy_17 rfl (lv_at hl0 1 rfl) ?_
  obtain ⟨ja12, jb12, jc12, jd12, jx12, jy12, jk12, hF12, hk12⟩ := wt_J hW9 hrk
  refine r_get S hK hP9 rk (lt_J hrk) hF12 (C := RX1) (T := TX1) (N := 7) hiX1 rfl 2 (by decide) (am_at in_wsX1_copy_0 2 rfl) (v := .int jc12) rfl dX1_copy_18 ?_
  have m13 : ((AB ad F9) rk 2) = jc12 := (congrArg (fun q => AB ad F9 q 2) rfl).trans (AB_f hF12 rfl)
  refine r_put S hI hK hP9 hS9 rj (lt_J hrj) hF9 (C := RX1) (T := TX1) (N := 7) hiX1 tyX1_ok nmX1 rfl 2 (by decide) (am_at in_wsX1_copy_0 2 rfl) rfl rfl rfl (Nat.le_of_ble_eq_true rfl) dX1_copy_21 (fun F14 H14 locs14 eF14 hP14 hS14 => ?_)
  have hF14 : F14 rj = .inr (1, [.int ja1, .int jb7, .int jc12, .int jd3, .int jx3, .int jy3, .int (nI jk3)]) := by rw [eF14]; exact va_up_self _ _ _
  have hW14 := hW9.up eF14 (ok_J hrj ⟨ja1, jb7, jc12, jd3, jx3, jy3, jk3, rfl, by omega⟩)
  have hFr14 := hFr9.up eF14 (by simp <;> first | omega | (simp only [isC, isJ] at *; omega))
  have hE16 : M = m_X1_copy_15 (AB ad F14) rj rk := hE11.trans ((show m_X1_copy_10 (AB ad F9) rj rk = m_X1_copy_15 (st (AB ad F9) rj 2 ((AB ad F9) rk 2)) rj rk from rfl).trans (congr (congr (congrArg (m_X1_copy_15) ((st_cg rfl rfl m13).trans (AB_put hF9 (Nat.le_of_ble_eq_true rfl) eF14).symm)) (Eq.refl rj)) (Eq.refl rk)))
  refine lv_aload_n S.1 S.2.1 dX1_copy_24 rfl (lv_at hl0 0 rfl) ?_
  refine lv_aload_n S.1 S.2.1 dX1_copy_25 rfl (lv_at hl0 1 rfl) ?_
  obtain ⟨ja17, jb17, jc17, jd17, jx17, jy17, jk17, hF17, hk17⟩ := wt_J hW14 hrk
  refine r_get S hK hP14 rk (lt_J hrk) hF17 (C := RX1) (T := TX1) (N := 7) hiX1 rfl 3 (by decide) (am_at in_wsX1_copy_0 3 rfl) (v := .int jd17) rfl dX1_copy_26 ?_
  have m18 : ((AB ad F14) rk 3) = jd17 := (congrArg (fun q => AB ad F14 q 3) rfl).trans (AB_f hF17 rfl)
  refine r_put S hI hK hP14 hS14 rj (lt_J hrj) hF14 (C := RX1) (T := TX1) (N := 7) hiX1 tyX1_ok nmX1 rfl 3 (by decide) (am_at in_wsX1_copy_0 3 rfl) rfl rfl rfl (Nat.le_of_ble_eq_true rfl) dX1_copy_29 (fun F19 H19 locs19 eF19 hP19 hS19 => ?_)
  have hF19 : F19 rj = .inr (1, [.int ja1, .int jb7, .int jc12, .int jd17, .int jx3, .int jy3, .int (nI jk3)]) := by rw [eF19]; exact va_up_self _ _ _
  have hW19 := hW14.up eF19 (ok_J hrj ⟨ja1, jb7, jc12, jd17, jx3, jy3, jk3, rfl, by omega⟩)
  have hFr19 := hFr14.up eF19 (by simp <;> first | omega | (simp only [isC, isJ] at *; omega))
  have hE21 : M = m_X1_copy_20 (AB ad F19) rj rk := hE16.trans ((show m_X1_copy_15 (AB ad F14) rj rk = m_X1_copy_20 (st (AB ad F14) rj 3 ((AB ad F14) rk 3)) rj rk from rfl).trans (congr (congr (congrArg (m_X1_copy_20) ((st_cg rfl rfl m18).trans (AB_put hF14 (Nat.le_of_ble_eq_true rfl) eF19).symm)) (Eq.refl rj)) (Eq.refl rk)))
  refine lv_aload_n S.1 S.2.1 dX1_copy_32 rfl (lv_at hl0 0 rfl) ?_
  refine lv_aload_n S.1 S.2.1 dX1_copy_33 rfl (lv_at hl0 1 rfl) ?_
  obtain ⟨ja22, jb22, jc22, jd22, jx22, jy22, jk22, hF22, hk22⟩ := wt_J hW19 hrk
  refine r_get S hK hP19 rk (lt_J hrk) hF22 (C := RX1) (T := TX1) (N := 7) hiX1 rfl 4 (by decide) (am_at in_wsX1_copy_0 4 rfl) (v := .int jx22) rfl dX1_copy_34 ?_
  have m23 : ((AB ad F19) rk 4) = jx22 := (congrArg (fun q => AB ad F19 q 4) rfl).trans (AB_f hF22 rfl)
  refine r_put S hI hK hP19 hS19 rj (lt_J hrj) hF19 (C := RX1) (T := TX1) (N := 7) hiX1 tyX1_ok nmX1 rfl 4 (by decide) (am_at in_wsX1_copy_0 4 rfl) rfl rfl rfl (Nat.le_of_ble_eq_true rfl) dX1_copy_37 (fun F24 H24 locs24 eF24 hP24 hS24 => ?_)
  have hF24 : F24 rj = .inr (1, [.int ja1, .int jb7, .int jc12, .int jd17, .int jx22, .int jy3, .int (nI jk3)]) := by rw [eF24]; exact va_up_self _ _ _
  have hW24 := hW19.up eF24 (ok_J hrj ⟨ja1, jb7, jc12, jd17, jx22, jy3, jk3, rfl, by omega⟩)
  have hFr24 := hFr19.up eF24 (by simp <;> first | omega | (simp only [isC, isJ] at *; omega))
  have hE26 : M = m_X1_copy_25 (AB ad F24) rj rk := hE21.trans ((show m_X1_copy_20 (AB ad F19) rj rk = m_X1_copy_25 (st (AB ad F19) rj 4 ((AB ad F19) rk 4)) rj rk from rfl).trans (congr (congr (congrArg (m_X1_copy_25) ((st_cg rfl rfl m23).trans (AB_put hF19 (Nat.le_of_ble_eq_true rfl) eF24).symm)) (Eq.refl rj)) (Eq.refl rk)))
  refine lv_aload_n S.1 S.2.1 dX1_copy_40 rfl (lv_at hl0 0 rfl) ?_
  refine lv_aload_n S.1 S.2.1 dX1_copy_41 rfl (lv_at hl0 1 rfl) ?_
  obtain ⟨ja27, jb27, jc27, jd27, jx27, jy27, jk27, hF27, hk27⟩ := wt_J hW24 hrk
  refine r_get S hK hP24 rk (lt_J hrk) hF27 (C := RX1) (T := TX1) (N := 7) hiX1 rfl 5 (by decide) (am_at in_wsX1_copy_0 5 rfl) (v := .int jy27) rfl dX1_copy_42 ?_
  have m28 : ((AB ad F24) rk 5) = jy27 := (congrArg (fun q => AB ad F24 q 5) rfl).trans (AB_f hF27 rfl)
  refine r_put S hI hK hP24 hS24 rj (lt_J hrj) hF24 (C := RX1) (T := TX1) (N := 7) hiX1 tyX1_ok nmX1 rfl 5 (by decide) (am_at in_wsX1_copy_0 5 rfl) rfl rfl rfl (Nat.le_of_ble_eq_true rfl) dX1_copy_45 (fun F29 H29 locs29 eF29 hP29 hS29 => ?_)
  have hF29 : F29 rj = .inr (1, [.int ja1, .int jb7, .int jc12, .int jd17, .int jx22, .int jy27, .int (nI jk3)]) := by rw [eF29]; exact va_up_self _ _ _
  have hW29 := hW24.up eF29 (ok_J hrj ⟨ja1, jb7, jc12, jd17, jx22, jy27, jk3, rfl, by omega⟩)
  have hFr29 := hFr24.up eF29 (by simp <;> first | omega | (simp only [isC, isJ] at *; omega))
  have hE31 : M = m_X1_copy_30 (AB ad F29) rj rk := hE26.trans ((show m_X1_copy_25 (AB ad F24) rj rk = m_X1_copy_30 (st (AB ad F24) rj 5 ((AB ad F24) rk 5)) rj rk from rfl).trans (congr (congr (congrArg (m_X1_copy_30) ((st_cg rfl rfl m28).trans (AB_put hF24 (Nat.le_of_ble_eq_true rfl) eF29).symm)) (Eq.refl rj)) (Eq.refl rk)))
  refine lv_aload_n S.1 S.2.1 dX1_copy_48 rfl (lv_at hl0 0 rfl) ?_
  refine lv_aload_n S.1 S.2.1 dX1_copy_49 rfl (lv_at hl0 1 rfl) ?_
  obtain ⟨ja32, jb32, jc32, jd32, jx32, jy32, jk32, hF32, hk32⟩ := wt_J hW29 hrk
  refine r_get S hK hP29 rk (lt_J hrk) hF32 (C := RX1) (T := TX1) (N := 7) hiX1 rfl 6 (by decide) (am_at in_wsX1_copy_0 6 rfl) (v := .int (nI jk32)) rfl dX1_copy_50 ?_
  have m33 : ((AB ad F29) rk 6) = (nI jk32) := (congrArg (fun q => AB ad F29 q 6) rfl).trans (AB_f hF32 rfl)
  refine r_put S hI hK hP29 hS29 rj (lt_J hrj) hF29 (C := RX1) (T := TX1) (N := 7) hiX1 tyX1_ok nmX1 rfl 6 (by decide) (am_at in_wsX1_copy_0 6 rfl) rfl (nar_bool (by omega)) (fit_bool (by omega)) (Nat.le_of_ble_eq_true rfl) dX1_copy_53 (fun F34 H34 locs34 eF34 hP34 hS34 => ?_)
  have hF34 : F34 rj = .inr (1, [.int ja1, .int jb7, .int jc12, .int jd17, .int jx22, .int jy27, .int (nI jk32)]) := by rw [eF34]; exact va_up_self _ _ _
  have hW34 := hW29.up eF34 (ok_J hrj ⟨ja1, jb7, jc12, jd17, jx22, jy27, jk32, rfl, by omega⟩)
  have hFr34 := hFr29.up eF34 (by simp <;> first | omega | (simp only [isC, isJ] at *; omega))
  have hE36 : M = m_X1_copy_35 (AB ad F34) rj rk := hE31.trans ((show m_X1_copy_30 (AB ad F29) rj rk = m_X1_copy_35 (st (AB ad F29) rj 6 ((AB ad F29) rk 6)) rj rk from rfl).trans (congr (congr (congrArg (m_X1_copy_35) ((st_cg rfl rfl m33).trans (AB_put hF29 (Nat.le_of_ble_eq_true rfl) eF34).symm)) (Eq.refl rj)) (Eq.refl rk)))
  have hE37 : M = AB ad F34 := hE36.trans ((show m_X1_copy_35 (AB ad F34) rj rk = (AB ad F34) from rfl).trans rfl)
  exact hret 56 _ _ _ _ dX1_copy_56 hP34 hS34 ⟨hW34, hFr34, ⟨trivial, hM.symm.trans hE37⟩⟩
noncomputable def m_X1_mayStay (σ : SS) (a0 : Nat) (a1 : Nat) : Int32 :=
  if (σ a1 0) ≤ (σ a0 2) then
    (nI 0)
  else
    (nI 1)
set_option maxHeartbeats 4000000 in
set_option maxRecDepth 100000 in
theorem c_X1_mayStay (l : Launch) (D : va_G) (cA ad : Nat → Nat) (t : Nat) (hI : rI ad) (F : Nat → va_E) (hW : WT cA ad F) (rj : Nat) (hrj : isJ rj) (rc : Nat) (hrc : isC rc) : MP l D cA ad t yX1_mayStay wsX1_mayStay { frames := 0, cells := 0, slots := 0, locals := 0 } [.ref (ad rj), .ref (ad rc)] F (fun r => (le32 1 r) ∧ m_X1_mayStay (AB ad F) rj rc = r) := by
  refine en_P rfl (by decide +kernel) (Nat.le_of_ble_eq_true rfl) ?_
  intro p e s m args below meth c ls0 Q S hK hZ hP hS hl0 hret
  have hl0 : lv_has ls0 2 [(0, .ref (ad rj)), (1, .ref (ad rc))] := hl0
  have hiX0 : ∀ w ∈ u_ws RX0 TX0 10, w ∈ wsX1_mayStay := in_wsX1_mayStay_2
  have hiX1 : ∀ w ∈ u_ws RX1 TX1 7, w ∈ wsX1_mayStay := in_wsX1_mayStay_1
  obtain ⟨M, hM⟩ : ∃ M, M = m_X1_mayStay (AB ad F) rj rc := ⟨_, rfl⟩
  refine lv_aload_n S.1 S.2.1 dX1_mayStay_0 rfl (lv_at hl0 0 rfl) ?_
  obtain ⟨ja1, jb1, jc1, jd1, jx1, jy1, jk1, hF1, hk1⟩ := wt_J hW hrj
  refine r_get S hK hP rj (lt_J hrj) hF1 (C := RX1) (T := TX1) (N := 7) hiX1 rfl 2 (by decide) (am_at in_wsX1_mayStay_0 0 rfl) (v := .int jc1) rfl dX1_mayStay_1 ?_
  have m2 : ((AB ad F) rj 2) = jc1 := (congrArg (fun q => AB ad F q 2) rfl).trans (AB_f hF1 rfl)
  refine lv_aload_n S.1 S.2.1 dX1_mayStay_4 rfl (lv_at hl0 1 rfl) ?_
  obtain ⟨sl3, fm3, tn3, rn3, bn3, hF3, hb3_1, hb3_2, hb3_3⟩ := wt_C hW hrc
  refine r_get S hK hP rc (lt_C hrc) hF3 (C := RX0) (T := TX0) (N := 10) hiX0 rfl 0 (by decide) (am_at in_wsX1_mayStay_0 1 rfl) (v := .int (nI sl3)) rfl dX1_mayStay_5 ?_
  have m4 : ((AB ad F) rc 0) = (nI sl3) := (congrArg (fun q => AB ad F q 0) rfl).trans (AB_f hF3 rfl)
  refine lv_icmp_ge (tgt := 15) S.1 S.2.1 dX1_mayStay_8 (by decide) (fun c5 => ?_) (fun c5 => ?_)
  · skip
    have k6 := ci_le (nI_toInt (n := sl3) (by omega)) rfl c5
    refine lv_iconst (v := (nI 0)) S.1 S.2.1 dX1_mayStay_15 (by decide +kernel) ?_
    have hE7 : M = (nI 0) := hM.trans ((show m_X1_mayStay (AB ad F) rj rc = (nI 0) from by unfold m_X1_mayStay; rw [if_pos (le_cg m4 m2 c5)]).trans rfl)
    exact hret 16 _ _ dX1_mayStay_16 rfl (⟨⟨0, by omega, rfl⟩, hM.symm.trans hE7⟩)
  have k8 := ci_nle (nI_toInt (n := sl3) (by omega)) rfl c5
  refine lv_iconst (v := (nI 1)) S.1 S.2.1 dX1_mayStay_11 (by decide +kernel) ?_
  refine lv_goto (tgt := 16) S.1 S.2.1 dX1_mayStay_12 (by decide) ?_
  have hE9 : M = (nI 1) := hM.trans ((show m_X1_mayStay (AB ad F) rj rc = (nI 1) from by unfold m_X1_mayStay; rw [if_neg (nle_cg m4 m2 c5)]).trans rfl)
  exact hret 16 _ _ dX1_mayStay_16 rfl (⟨⟨1, by omega, rfl⟩, hM.symm.trans hE9⟩)
noncomputable def m_X1_walks (σ : SS) (a0 : Nat) (a1 : Nat) : Int32 :=
  (m_X0_walksFrom σ a1 (σ a0 0) (σ a0 5))
set_option maxHeartbeats 4000000 in
set_option maxRecDepth 100000 in
theorem c_X1_walks (l : Launch) (D : va_G) (cA ad : Nat → Nat) (t : Nat) (hI : rI ad) (F : Nat → va_E) (hW : WT cA ad F) (rj : Nat) (hrj : isJ rj) (rc : Nat) (hrc : isC rc) : MP l D cA ad t yX1_walks wsX1_walks { frames := 2, cells := 0, slots := 0, locals := 46 } [.ref (ad rj), .ref (ad rc)] F (fun r => (True) ∧ m_X1_walks (AB ad F) rj rc = r) := by
  refine en_P rfl (by decide +kernel) (Nat.le_of_ble_eq_true rfl) ?_
  intro p e s m args below meth c ls0 Q S hK hZ hP hS hl0 hret
  have hl0 : lv_has ls0 2 [(0, .ref (ad rj)), (1, .ref (ad rc))] := hl0
  have hiX1 : ∀ w ∈ u_ws RX1 TX1 7, w ∈ wsX1_walks := in_wsX1_walks_1
  obtain ⟨M, hM⟩ : ∃ M, M = m_X1_walks (AB ad F) rj rc := ⟨_, rfl⟩
  refine lv_aload_n S.1 S.2.1 dX1_walks_0 rfl (lv_at hl0 1 rfl) ?_
  refine lv_aload_n S.1 S.2.1 dX1_walks_1 rfl (lv_at hl0 0 rfl) ?_
  obtain ⟨ja1, jb1, jc1, jd1, jx1, jy1, jk1, hF1, hk1⟩ := wt_J hW hrj
  refine r_get S hK hP rj (lt_J hrj) hF1 (C := RX1) (T := TX1) (N := 7) hiX1 rfl 0 (by decide) (am_at in_wsX1_walks_0 0 rfl) (v := .int ja1) rfl dX1_walks_2 ?_
  have m2 : ((AB ad F) rj 0) = ja1 := (congrArg (fun q => AB ad F q 0) rfl).trans (AB_f hF1 rfl)
  refine lv_aload_n S.1 S.2.1 dX1_walks_5 rfl (lv_at hl0 0 rfl) ?_
  refine r_get S hK hP rj (lt_J hrj) hF1 (C := RX1) (T := TX1) (N := 7) hiX1 rfl 5 (by decide) (am_at in_wsX1_walks_0 1 rfl) (v := .int jy1) rfl dX1_walks_6 ?_
  have m3 : ((AB ad F) rj 5) = jy1 := (congrArg (fun q => AB ad F q 5) rfl).trans (AB_f hF1 rfl)
  obtain ⟨sl5, fm5, tn5, rn5, bn5, hF5, hb5_1, hb5_2, hb5_3⟩ := wt_C hW hrc
  refine r_cVp (As := [.int ja1, .int jy1]) (rest := []) S hK hZ hP hS hl0.1 rc (lt_C hrc) hF5 (C := RX0) rfl (c_X0_walksFrom l D cA ad t hI F hW rc hrc ja1 jy1) (cwV 2 S.2.2.2.2 gX1_walks_X0_walksFrom rfl rfl rfl (by decide +kernel) ⟨Nat.le_of_ble_eq_true rfl, Nat.le_of_ble_eq_true rfl⟩) rfl rfl (Nat.le_of_ble_eq_true rfl) ⟨Nat.zero_le _, Nat.zero_le _⟩ dX1_walks_9 (fun r4 hr4 => ?_)
  obtain ⟨hr4, hm4⟩ := hr4
  have m6 : (m_X0_walksFrom (AB ad F) rc ((AB ad F) rj 0) ((AB ad F) rj 5)) = r4 := (congr (congr (congr (Eq.refl (m_X0_walksFrom (AB ad F))) (Eq.refl rc)) m2) m3).trans hm4
  have hE7 : M = r4 := hM.trans ((show m_X1_walks (AB ad F) rj rc = (m_X0_walksFrom (AB ad F) rc ((AB ad F) rj 0) ((AB ad F) rj 5)) from rfl).trans m6)
  exact hret 12 _ _ dX1_walks_12 rfl (⟨trivial, hM.symm.trans hE7⟩)
noncomputable def m_X1_stayMonth_60 (σ : SS) (a0 : Int32) (a1 : Nat) (a2 : Nat) : Int32 × SS :=
  (a0, σ)
noncomputable def m_X1_stayMonth_54 (σ : SS) (a0 : Int32) (a1 : Nat) (a2 : Nat) : Int32 × SS :=
  m_X1_stayMonth_60 (st σ a1 1 ((σ a1 1) + (nI 1))) a0 a1 a2
noncomputable def m_X1_stayMonth_48 (σ : SS) (a0 : Int32) (a1 : Nat) (a2 : Nat) : Int32 × SS :=
  m_X1_stayMonth_54 (st σ a1 2 ((σ a1 2) + (nI 1))) a0 a1 a2
noncomputable def m_X1_stayMonth_42 (σ : SS) (a0 : Int32) (a1 : Nat) (a2 : Nat) : Int32 × SS :=
  m_X1_stayMonth_48 (st σ a1 3 ((σ a1 3) + a0)) a0 a1 a2
noncomputable def m_X1_stayMonth_31 (σ : SS) (a0 : Int32) (a1 : Nat) (a2 : Nat) : Int32 × SS :=
  (a0, σ)
noncomputable def m_X1_stayMonth_25 (σ : SS) (a0 : Int32) (a1 : Nat) (a2 : Nat) : Int32 × SS :=
  m_X1_stayMonth_31 (st σ a1 1 ((σ a1 1) + (nI 1))) a0 a1 a2
noncomputable def m_X1_stayMonth_19 (σ : SS) (a0 : Int32) (a1 : Nat) (a2 : Nat) : Int32 × SS :=
  m_X1_stayMonth_25 (st σ a1 2 ((σ a1 2) + (nI 1))) a0 a1 a2
noncomputable def m_X1_stayMonth (σ : SS) (a0 : Nat) (a1 : Nat) : Int32 × SS :=
  if (m_X0_worksIn σ a1 (σ a0 0) (σ a0 1)) = (0 : Int32) then
    m_X1_stayMonth_19 (st σ a0 3 ((σ a0 3) + (m_X0_gainIn σ a1 (σ a0 0) (σ a0 1)))) (m_X0_gainIn σ a1 (σ a0 0) (σ a0 1)) a0 a1
  else
    m_X1_stayMonth_42 (st σ a0 4 ((σ a0 4) ||| ((nI 1) <<< ((σ a0 0) &&& 31)))) (m_X0_gainIn σ a1 (σ a0 0) (σ a0 1)) a0 a1
set_option maxHeartbeats 4000000 in
set_option maxRecDepth 100000 in
theorem c_X1_stayMonth (l : Launch) (D : va_G) (cA ad : Nat → Nat) (t : Nat) (hI : rI ad) (F : Nat → va_E) (hW : WT cA ad F) (rj : Nat) (hrj : isJ rj) (rc : Nat) (hrc : isC rc) : MI l D cA ad t yX1_stayMonth wsX1_stayMonth { frames := 3, cells := 0, slots := 0, locals := 65 } [.ref (ad rj), .ref (ad rc)] F (fun r F' => WT cA ad F' ∧ rFr [rj] F F' ∧ ((True) ∧ m_X1_stayMonth (AB ad F) rj rc = (r, AB ad F'))) := by
  refine en_I rfl (by decide +kernel) (Nat.le_of_ble_eq_true rfl) ?_
  intro p e s m args below meth c ls0 Q S hK hZ hP hS hl0 hret
  have hl0 : lv_has ls0 3 [(0, .ref (ad rj)), (1, .ref (ad rc))] := hl0
  have hFr : rFr [rj] F F := rFr.rf
  have hiX1 : ∀ w ∈ u_ws RX1 TX1 7, w ∈ wsX1_stayMonth := in_wsX1_stayMonth_1
  obtain ⟨M, hM⟩ : ∃ M, M = m_X1_stayMonth (AB ad F) rj rc := ⟨_, rfl⟩
  refine lv_aload_n S.1 S.2.1 dX1_stayMonth_0 rfl (lv_at hl0 1 rfl) ?_
  refine lv_aload_n S.1 S.2.1 dX1_stayMonth_1 rfl (lv_at hl0 0 rfl) ?_
  obtain ⟨ja1, jb1, jc1, jd1, jx1, jy1, jk1, hF1, hk1⟩ := wt_J hW hrj
  refine r_get S hK hP rj (lt_J hrj) hF1 (C := RX1) (T := TX1) (N := 7) hiX1 rfl 0 (by decide) (am_at in_wsX1_stayMonth_0 0 rfl) (v := .int ja1) rfl dX1_stayMonth_2 ?_
  have m2 : ((AB ad F) rj 0) = ja1 := (congrArg (fun q => AB ad F q 0) rfl).trans (AB_f hF1 rfl)
  refine lv_aload_n S.1 S.2.1 dX1_stayMonth_5 rfl (lv_at hl0 0 rfl) ?_
  refine r_get S hK hP rj (lt_J hrj) hF1 (C := RX1) (T := TX1) (N := 7) hiX1 rfl 1 (by decide) (am_at in_wsX1_stayMonth_0 1 rfl) (v := .int jb1) rfl dX1_stayMonth_6 ?_
  have m3 : ((AB ad F) rj 1) = jb1 := (congrArg (fun q => AB ad F q 1) rfl).trans (AB_f hF1 rfl)
  obtain ⟨sl5, fm5, tn5, rn5, bn5, hF5, hb5_1, hb5_2, hb5_3⟩ := wt_C hW hrc
  refine r_cVp (As := [.int ja1, .int jb1]) (rest := []) S hK hZ hP hS hl0.1 rc (lt_C hrc) hF5 (C := RX0) rfl (c_X0_gainIn l D cA ad t hI F hW rc hrc ja1 jb1) (cwV 2 S.2.2.2.2 gX1_stayMonth_X0_gainIn rfl rfl rfl (by decide +kernel) ⟨Nat.le_of_ble_eq_true rfl, Nat.le_of_ble_eq_true rfl⟩) rfl rfl (Nat.le_of_ble_eq_true rfl) ⟨Nat.zero_le _, Nat.zero_le _⟩ dX1_stayMonth_9 (fun r4 hr4 => ?_)
  obtain ⟨hr4, hm4⟩ := hr4
  have m6 : (m_X0_gainIn (AB ad F) rc ((AB ad F) rj 0) ((AB ad F) rj 1)) = r4 := (congr (congr (congr (Eq.refl (m_X0_gainIn (AB ad F))) (Eq.refl rc)) m2) m3).trans hm4
  refine lv_istore_n (lv' := [(2, .int r4), (0, .ref (ad rj)), (1, .ref (ad rc))]) S.1 S.2.1 dX1_stayMonth_12 rfl hl0 (by decide) rfl (fun ls7 hl7 => ?_)
  refine lv_aload_n S.1 S.2.1 dX1_stayMonth_13 rfl (lv_at hl7 2 rfl) ?_
  refine lv_aload_n S.1 S.2.1 dX1_stayMonth_14 rfl (lv_at hl7 1 rfl) ?_
  refine r_get S hK hP rj (lt_J hrj) hF1 (C := RX1) (T := TX1) (N := 7) hiX1 rfl 0 (by decide) (am_at in_wsX1_stayMonth_0 0 rfl) (v := .int ja1) rfl dX1_stayMonth_15 ?_
  have m8 : ((AB ad F) rj 0) = ja1 := (congrArg (fun q => AB ad F q 0) rfl).trans (AB_f hF1 rfl)
  refine lv_aload_n S.1 S.2.1 dX1_stayMonth_18 rfl (lv_at hl7 1 rfl) ?_
  refine r_get S hK hP rj (lt_J hrj) hF1 (C := RX1) (T := TX1) (N := 7) hiX1 rfl 1 (by decide) (am_at in_wsX1_stayMonth_0 1 rfl) (v := .int jb1) rfl dX1_stayMonth_19 ?_
  have m9 : ((AB ad F) rj 1) = jb1 := (congrArg (fun q => AB ad F q 1) rfl).trans (AB_f hF1 rfl)
  refine r_cVp (As := [.int ja1, .int jb1]) (rest := []) S hK hZ hP hS hl7.1 rc (lt_C hrc) hF5 (C := RX0) rfl (c_X0_worksIn l D cA ad t hI F hW rc hrc ja1 jb1) (cwV 2 S.2.2.2.2 gX1_stayMonth_X0_worksIn rfl rfl rfl (by decide +kernel) ⟨Nat.le_of_ble_eq_true rfl, Nat.le_of_ble_eq_true rfl⟩) rfl rfl (Nat.le_of_ble_eq_true rfl) ⟨Nat.zero_le _, Nat.zero_le _⟩ dX1_stayMonth_22 (fun r10 hr10 => ?_)
  obtain ⟨hr10, hm10⟩ := hr10
  obtain ⟨⟨b11, hb11, rfl⟩, hx11⟩ := hr10
  have hx11 : b11 ≠ 0 → 0 ≤ ja1.toInt ∧ ja1.toInt ≤ _ := fun q => hx11 (nI_ne0 (by omega) (by omega))
  have m12 : (m_X0_worksIn (AB ad F) rc ((AB ad F) rj 0) ((AB ad F) rj 1)) = (nI b11) := (congr (congr (congr (Eq.refl (m_X0_worksIn (AB ad F))) (Eq.refl rc)) m8) m9).trans hm10
  refine lv_if_eq (tgt := 43) S.1 S.2.1 dX1_stayMonth_25 (by decide) (fun c13 => ?_) (fun c13 => ?_)
  · skip
    have k14 := ci_eq (nI_toInt (n := b11) (Nat.lt_of_le_of_lt hb11 (by decide))) z_ti c13
    refine lv_aload_n S.1 S.2.1 dX1_stayMonth_43 rfl (lv_at hl7 1 rfl) ?_
    refine lv_dup S.1 S.2.1 dX1_stayMonth_44 rfl ?_
    refine r_get S hK hP rj (lt_J hrj) hF1 (C := RX1) (T := TX1) (N := 7) hiX1 rfl 3 (by decide) (am_at in_wsX1_stayMonth_0 3 rfl) (v := .int jd1) rfl dX1_stayMonth_45 ?_
    have m15 : ((AB ad F) rj 3) = jd1 := (congrArg (fun q => AB ad F q 3) rfl).trans (AB_f hF1 rfl)
    refine lv_iload_n S.1 S.2.1 dX1_stayMonth_48 rfl (lv_at hl7 0 rfl) ?_
    refine lv_iadd S.1 S.2.1 dX1_stayMonth_49 ?_
    refine lv_topi (fun v16 e16 => ?_)
    have m17 : (((AB ad F) rj 3) + (m_X0_gainIn (AB ad F) rc ((AB ad F) rj 0) ((AB ad F) rj 1))) = v16 := cg2 (fun (x : Int32) (y : Int32) => x + y) m15 m6 e16
    refine r_put S hI hK hP hS rj (lt_J hrj) hF1 (C := RX1) (T := TX1) (N := 7) hiX1 tyX1_ok nmX1 rfl 3 (by decide) (am_at in_wsX1_stayMonth_0 3 rfl) rfl rfl rfl (Nat.le_of_ble_eq_true rfl) dX1_stayMonth_50 (fun F18 H18 locs18 eF18 hP18 hS18 => ?_)
    have hF18 : F18 rj = .inr (1, [.int ja1, .int jb1, .int jc1, .int v16, .int jx1, .int jy1, .int (nI jk1)]) := by rw [eF18]; exact va_up_self _ _ _
    have hW18 := hW.up eF18 (ok_J hrj ⟨ja1, jb1, jc1, v16, jx1, jy1, jk1, rfl, by omega⟩)
    have hFr18 := hFr.up eF18 (by simp <;> first | omega | (simp only [isC, isJ] at *; omega))
    have hE20 : M = m_X1_stayMonth_19 (AB ad F18) r4 rj rc := hM.trans ((show m_X1_stayMonth (AB ad F) rj rc = m_X1_stayMonth_19 (st (AB ad F) rj 3 (((AB ad F) rj 3) + (m_X0_gainIn (AB ad F) rc ((AB ad F) rj 0) ((AB ad F) rj 1)))) (m_X0_gainIn (AB ad F) rc ((AB ad F) rj 0) ((AB ad F) rj 1)) rj rc from by unfold m_X1_stayMonth; rw [if_pos (eq_cg m12 rfl c13)]).trans (congr (congr (congr (congrArg (m_X1_stayMonth_19) ((st_cg rfl rfl m17).trans (AB_put hF1 (Nat.le_of_ble_eq_true rfl) eF18).symm)) m6) (Eq.refl rj)) (Eq.refl rc)))
    refine lv_aload_n S.1 S.2.1 dX1_stayMonth_53 rfl (lv_at hl7 1 rfl) ?_
    refine lv_dup S.1 S.2.1 dX1_stayMonth_54 rfl ?_
    refine r_get S hK hP18 rj (lt_J hrj) hF18 (C := RX1) (T := TX1) (N := 7) hiX1 rfl 2 (by decide) (am_at in_wsX1_stayMonth_0 4 rfl) (v := .int jc1) rfl dX1_stayMonth_55 ?_
    have m21 : ((AB ad F18) rj 2) = jc1 := (congrArg (fun q => AB ad F18 q 2) rfl).trans (AB_f hF18 rfl)
    refine lv_iconst (v := (nI 1)) S.1 S.2.1 dX1_stayMonth_58 (by decide +kernel) ?_
    refine lv_iadd S.1 S.2.1 dX1_stayMonth_59 ?_
    refine lv_topi (fun v22 e22 => ?_)
    have m23 : (((AB ad F18) rj 2) + (nI 1)) = v22 := cg2 (fun (x : Int32) (y : Int32) => x + y) m21 (Eq.refl ((nI 1) : Int32)) e22
    refine r_put S hI hK hP18 hS18 rj (lt_J hrj) hF18 (C := RX1) (T := TX1) (N := 7) hiX1 tyX1_ok nmX1 rfl 2 (by decide) (am_at in_wsX1_stayMonth_0 4 rfl) rfl rfl rfl (Nat.le_of_ble_eq_true rfl) dX1_stayMonth_60 (fun F24 H24 locs24 eF24 hP24 hS24 => ?_)
    have hF24 : F24 rj = .inr (1, [.int ja1, .int jb1, .int v22, .int v16, .int jx1, .int jy1, .int (nI jk1)]) := by rw [eF24]; exact va_up_self _ _ _
    have hW24 := hW18.up eF24 (ok_J hrj ⟨ja1, jb1, v22, v16, jx1, jy1, jk1, rfl, by omega⟩)
    have hFr24 := hFr18.up eF24 (by simp <;> first | omega | (simp only [isC, isJ] at *; omega))
    have hE26 : M = m_X1_stayMonth_25 (AB ad F24) r4 rj rc := hE20.trans ((show m_X1_stayMonth_19 (AB ad F18) r4 rj rc = m_X1_stayMonth_25 (st (AB ad F18) rj 2 (((AB ad F18) rj 2) + (nI 1))) r4 rj rc from rfl).trans (congr (congr (congr (congrArg (m_X1_stayMonth_25) ((st_cg rfl rfl m23).trans (AB_put hF18 (Nat.le_of_ble_eq_true rfl) eF24).symm)) (Eq.refl (r4 : Int32))) (Eq.refl rj)) (Eq.refl rc)))
    refine lv_aload_n S.1 S.2.1 dX1_stayMonth_63 rfl (lv_at hl7 1 rfl) ?_
    refine lv_dup S.1 S.2.1 dX1_stayMonth_64 rfl ?_
    refine r_get S hK hP24 rj (lt_J hrj) hF24 (C := RX1) (T := TX1) (N := 7) hiX1 rfl 1 (by decide) (am_at in_wsX1_stayMonth_0 1 rfl) (v := .int jb1) rfl dX1_stayMonth_65 ?_
    have m27 : ((AB ad F24) rj 1) = jb1 := (congrArg (fun q => AB ad F24 q 1) rfl).trans (AB_f hF24 rfl)
    refine lv_iconst (v := (nI 1)) S.1 S.2.1 dX1_stayMonth_68 (by decide +kernel) ?_
    refine lv_iadd S.1 S.2.1 dX1_stayMonth_69 ?_
    refine lv_topi (fun v28 e28 => ?_)
    have m29 : (((AB ad F24) rj 1) + (nI 1)) = v28 := cg2 (fun (x : Int32) (y : Int32) => x + y) m27 (Eq.refl ((nI 1) : Int32)) e28
    refine r_put S hI hK hP24 hS24 rj (lt_J hrj) hF24 (C := RX1) (T := TX1) (N := 7) hiX1 tyX1_ok nmX1 rfl 1 (by decide) (am_at in_wsX1_stayMonth_0 1 rfl) rfl rfl rfl (Nat.le_of_ble_eq_true rfl) dX1_stayMonth_70 (fun F30 H30 locs30 eF30 hP30 hS30 => ?_)
    have hF30 : F30 rj = .inr (1, [.int ja1, .int v28, .int v22, .int v16, .int jx1, .int jy1, .int (nI jk1)]) := by rw [eF30]; exact va_up_self _ _ _
    have hW30 := hW24.up eF30 (ok_J hrj ⟨ja1, v28, v22, v16, jx1, jy1, jk1, rfl, by omega⟩)
    have hFr30 := hFr24.up eF30 (by simp <;> first | omega | (simp only [isC, isJ] at *; omega))
    have hE32 : M = m_X1_stayMonth_31 (AB ad F30) r4 rj rc := hE26.trans ((show m_X1_stayMonth_25 (AB ad F24) r4 rj rc = m_X1_stayMonth_31 (st (AB ad F24) rj 1 (((AB ad F24) rj 1) + (nI 1))) r4 rj rc from rfl).trans (congr (congr (congr (congrArg (m_X1_stayMonth_31) ((st_cg rfl rfl m29).trans (AB_put hF24 (Nat.le_of_ble_eq_true rfl) eF30).symm)) (Eq.refl (r4 : Int32))) (Eq.refl rj)) (Eq.refl rc)))
    refine lv_iload_n S.1 S.2.1 dX1_stayMonth_73 rfl (lv_at hl7 0 rfl) ?_
    have hE33 : M = (r4, AB ad F30) := hE32.trans ((show m_X1_stayMonth_31 (AB ad F30) r4 rj rc = (r4, (AB ad F30)) from rfl).trans (congrArg (fun q => (q, AB ad F30)) rfl))
    exact hret 74 _ _ _ _ _ dX1_stayMonth_74 rfl hP30 hS30 ⟨hW30, hFr30, ⟨trivial, hM.symm.trans hE33⟩⟩
  have k34 := ci_ne (nI_toInt (n := b11) (Nat.lt_of_le_of_lt hb11 (by decide))) z_ti c13
  refine lv_aload_n S.1 S.2.1 dX1_stayMonth_28 rfl (lv_at hl7 1 rfl) ?_
  refine lv_dup S.1 S.2.1 dX1_stayMonth_29 rfl ?_
  refine r_get S hK hP rj (lt_J hrj) hF1 (C := RX1) (T := TX1) (N := 7) hiX1 rfl 4 (by decide) (am_at in_wsX1_stayMonth_0 2 rfl) (v := .int jx1) rfl dX1_stayMonth_30 ?_
  have m35 : ((AB ad F) rj 4) = jx1 := (congrArg (fun q => AB ad F q 4) rfl).trans (AB_f hF1 rfl)
  refine lv_iconst (v := (nI 1)) S.1 S.2.1 dX1_stayMonth_33 (by decide +kernel) ?_
  refine lv_aload_n S.1 S.2.1 dX1_stayMonth_34 rfl (lv_at hl7 1 rfl) ?_
  refine r_get S hK hP rj (lt_J hrj) hF1 (C := RX1) (T := TX1) (N := 7) hiX1 rfl 0 (by decide) (am_at in_wsX1_stayMonth_0 0 rfl) (v := .int ja1) rfl dX1_stayMonth_35 ?_
  have m36 : ((AB ad F) rj 0) = ja1 := (congrArg (fun q => AB ad F q 0) rfl).trans (AB_f hF1 rfl)
  refine lv_ishl S.1 S.2.1 dX1_stayMonth_38 ?_
  refine lv_topi (fun v37 e37 => ?_)
  have m38 : ((nI 1) <<< (((AB ad F) rj 0) &&& 31)) = v37 := cg2 (fun (x : Int32) (y : Int32) => x <<< (y &&& 31)) (Eq.refl ((nI 1) : Int32)) m36 e37
  refine lv_ior S.1 S.2.1 dX1_stayMonth_39 ?_
  refine lv_topi (fun v39 e39 => ?_)
  have m40 : (((AB ad F) rj 4) ||| ((nI 1) <<< (((AB ad F) rj 0) &&& 31))) = v39 := cg2 (fun (x : Int32) (y : Int32) => x ||| y) m35 m38 e39
  refine r_put S hI hK hP hS rj (lt_J hrj) hF1 (C := RX1) (T := TX1) (N := 7) hiX1 tyX1_ok nmX1 rfl 4 (by decide) (am_at in_wsX1_stayMonth_0 2 rfl) rfl rfl rfl (Nat.le_of_ble_eq_true rfl) dX1_stayMonth_40 (fun F41 H41 locs41 eF41 hP41 hS41 => ?_)
  have hF41 : F41 rj = .inr (1, [.int ja1, .int jb1, .int jc1, .int jd1, .int v39, .int jy1, .int (nI jk1)]) := by rw [eF41]; exact va_up_self _ _ _
  have hW41 := hW.up eF41 (ok_J hrj ⟨ja1, jb1, jc1, jd1, v39, jy1, jk1, rfl, by omega⟩)
  have hFr41 := hFr.up eF41 (by simp <;> first | omega | (simp only [isC, isJ] at *; omega))
  have hE43 : M = m_X1_stayMonth_42 (AB ad F41) r4 rj rc := hM.trans ((show m_X1_stayMonth (AB ad F) rj rc = m_X1_stayMonth_42 (st (AB ad F) rj 4 (((AB ad F) rj 4) ||| ((nI 1) <<< (((AB ad F) rj 0) &&& 31)))) (m_X0_gainIn (AB ad F) rc ((AB ad F) rj 0) ((AB ad F) rj 1)) rj rc from by unfold m_X1_stayMonth; rw [if_neg (neq_cg m12 rfl c13)]).trans (congr (congr (congr (congrArg (m_X1_stayMonth_42) ((st_cg rfl rfl m40).trans (AB_put hF1 (Nat.le_of_ble_eq_true rfl) eF41).symm)) m6) (Eq.refl rj)) (Eq.refl rc)))
  refine lv_aload_n S.1 S.2.1 dX1_stayMonth_43 rfl (lv_at hl7 1 rfl) ?_
  refine lv_dup S.1 S.2.1 dX1_stayMonth_44 rfl ?_
  refine r_get S hK hP41 rj (lt_J hrj) hF41 (C := RX1) (T := TX1) (N := 7) hiX1 rfl 3 (by decide) (am_at in_wsX1_stayMonth_0 3 rfl) (v := .int jd1) rfl dX1_stayMonth_45 ?_
  have m44 : ((AB ad F41) rj 3) = jd1 := (congrArg (fun q => AB ad F41 q 3) rfl).trans (AB_f hF41 rfl)
  refine lv_iload_n S.1 S.2.1 dX1_stayMonth_48 rfl (lv_at hl7 0 rfl) ?_
  refine lv_iadd S.1 S.2.1 dX1_stayMonth_49 ?_
  refine lv_topi (fun v45 e45 => ?_)
  have m46 : (((AB ad F41) rj 3) + r4) = v45 := cg2 (fun (x : Int32) (y : Int32) => x + y) m44 (Eq.refl (r4 : Int32)) e45
  refine r_put S hI hK hP41 hS41 rj (lt_J hrj) hF41 (C := RX1) (T := TX1) (N := 7) hiX1 tyX1_ok nmX1 rfl 3 (by decide) (am_at in_wsX1_stayMonth_0 3 rfl) rfl rfl rfl (Nat.le_of_ble_eq_true rfl) dX1_stayMonth_50 (fun F47 H47 locs47 eF47 hP47 hS47 => ?_)
  have hF47 : F47 rj = .inr (1, [.int ja1, .int jb1, .int jc1, .int v45, .int v39, .int jy1, .int (nI jk1)]) := by rw [eF47]; exact va_up_self _ _ _
  have hW47 := hW41.up eF47 (ok_J hrj ⟨ja1, jb1, jc1, v45, v39, jy1, jk1, rfl, by omega⟩)
  have hFr47 := hFr41.up eF47 (by simp <;> first | omega | (simp only [isC, isJ] at *; omega))
  have hE49 : M = m_X1_stayMonth_48 (AB ad F47) r4 rj rc := hE43.trans ((show m_X1_stayMonth_42 (AB ad F41) r4 rj rc = m_X1_stayMonth_48 (st (AB ad F41) rj 3 (((AB ad F41) rj 3) + r4)) r4 rj rc from rfl).trans (congr (congr (congr (congrArg (m_X1_stayMonth_48) ((st_cg rfl rfl m46).trans (AB_put hF41 (Nat.le_of_ble_eq_true rfl) eF47).symm)) (Eq.refl (r4 : Int32))) (Eq.refl rj)) (Eq.refl rc)))
  refine lv_aload_n S.1 S.2.1 dX1_stayMonth_53 rfl (lv_at hl7 1 rfl) ?_
  refine lv_dup S.1 S.2.1 dX1_stayMonth_54 rfl ?_
  refine r_get S hK hP47 rj (lt_J hrj) hF47 (C := RX1) (T := TX1) (N := 7) hiX1 rfl 2 (by decide) (am_at in_wsX1_stayMonth_0 4 rfl) (v := .int jc1) rfl dX1_stayMonth_55 ?_
  have m50 : ((AB ad F47) rj 2) = jc1 := (congrArg (fun q => AB ad F47 q 2) rfl).trans (AB_f hF47 rfl)
  refine lv_iconst (v := (nI 1)) S.1 S.2.1 dX1_stayMonth_58 (by decide +kernel) ?_
  refine lv_iadd S.1 S.2.1 dX1_stayMonth_59 ?_
  refine lv_topi (fun v51 e51 => ?_)
  have m52 : (((AB ad F47) rj 2) + (nI 1)) = v51 := cg2 (fun (x : Int32) (y : Int32) => x + y) m50 (Eq.refl ((nI 1) : Int32)) e51
  refine r_put S hI hK hP47 hS47 rj (lt_J hrj) hF47 (C := RX1) (T := TX1) (N := 7) hiX1 tyX1_ok nmX1 rfl 2 (by decide) (am_at in_wsX1_stayMonth_0 4 rfl) rfl rfl rfl (Nat.le_of_ble_eq_true rfl) dX1_stayMonth_60 (fun F53 H53 locs53 eF53 hP53 hS53 => ?_)
  have hF53 : F53 rj = .inr (1, [.int ja1, .int jb1, .int v51, .int v45, .int v39, .int jy1, .int (nI jk1)]) := by rw [eF53]; exact va_up_self _ _ _
  have hW53 := hW47.up eF53 (ok_J hrj ⟨ja1, jb1, v51, v45, v39, jy1, jk1, rfl, by omega⟩)
  have hFr53 := hFr47.up eF53 (by simp <;> first | omega | (simp only [isC, isJ] at *; omega))
  have hE55 : M = m_X1_stayMonth_54 (AB ad F53) r4 rj rc := hE49.trans ((show m_X1_stayMonth_48 (AB ad F47) r4 rj rc = m_X1_stayMonth_54 (st (AB ad F47) rj 2 (((AB ad F47) rj 2) + (nI 1))) r4 rj rc from rfl).trans (congr (congr (congr (congrArg (m_X1_stayMonth_54) ((st_cg rfl rfl m52).trans (AB_put hF47 (Nat.le_of_ble_eq_true rfl) eF53).symm)) (Eq.refl (r4 : Int32))) (Eq.refl rj)) (Eq.refl rc)))
  refine lv_aload_n S.1 S.2.1 dX1_stayMonth_63 rfl (lv_at hl7 1 rfl) ?_
  refine lv_dup S.1 S.2.1 dX1_stayMonth_64 rfl ?_
  refine r_get S hK hP53 rj (lt_J hrj) hF53 (C := RX1) (T := TX1) (N := 7) hiX1 rfl 1 (by decide) (am_at in_wsX1_stayMonth_0 1 rfl) (v := .int jb1) rfl dX1_stayMonth_65 ?_
  have m56 : ((AB ad F53) rj 1) = jb1 := (congrArg (fun q => AB ad F53 q 1) rfl).trans (AB_f hF53 rfl)
  refine lv_iconst (v := (nI 1)) S.1 S.2.1 dX1_stayMonth_68 (by decide +kernel) ?_
  refine lv_iadd S.1 S.2.1 dX1_stayMonth_69 ?_
  refine lv_topi (fun v57 e57 => ?_)
  have m58 : (((AB ad F53) rj 1) + (nI 1)) = v57 := cg2 (fun (x : Int32) (y : Int32) => x + y) m56 (Eq.refl ((nI 1) : Int32)) e57
  refine r_put S hI hK hP53 hS53 rj (lt_J hrj) hF53 (C := RX1) (T := TX1) (N := 7) hiX1 tyX1_ok nmX1 rfl 1 (by decide) (am_at in_wsX1_stayMonth_0 1 rfl) rfl rfl rfl (Nat.le_of_ble_eq_true rfl) dX1_stayMonth_70 (fun F59 H59 locs59 eF59 hP59 hS59 => ?_)
  have hF59 : F59 rj = .inr (1, [.int ja1, .int v57, .int v51, .int v45, .int v39, .int jy1, .int (nI jk1)]) := by rw [eF59]; exact va_up_self _ _ _
  have hW59 := hW53.up eF59 (ok_J hrj ⟨ja1, v57, v51, v45, v39, jy1, jk1, rfl, by omega⟩)
  have hFr59 := hFr53.up eF59 (by simp <;> first | omega | (simp only [isC, isJ] at *; omega))
  have hE61 : M = m_X1_stayMonth_60 (AB ad F59) r4 rj rc := hE55.trans ((show m_X1_stayMonth_54 (AB ad F53) r4 rj rc = m_X1_stayMonth_60 (st (AB ad F53) rj 1 (((AB ad F53) rj 1) + (nI 1))) r4 rj rc from rfl).trans (congr (congr (congr (congrArg (m_X1_stayMonth_60) ((st_cg rfl rfl m58).trans (AB_put hF53 (Nat.le_of_ble_eq_true rfl) eF59).symm)) (Eq.refl (r4 : Int32))) (Eq.refl rj)) (Eq.refl rc)))
  refine lv_iload_n S.1 S.2.1 dX1_stayMonth_73 rfl (lv_at hl7 0 rfl) ?_
  have hE62 : M = (r4, AB ad F59) := hE61.trans ((show m_X1_stayMonth_60 (AB ad F59) r4 rj rc = (r4, (AB ad F59)) from rfl).trans (congrArg (fun q => (q, AB ad F59)) rfl))
  exact hret 74 _ _ _ _ _ dX1_stayMonth_74 rfl hP59 hS59 ⟨hW59, hFr59, ⟨trivial, hM.symm.trans hE62⟩⟩
noncomputable def m_X1_walkMonth_12 (σ : SS) (a0 : Nat) (a1 : Int32) : SS :=
  σ
noncomputable def m_X1_walkMonth_6 (σ : SS) (a0 : Nat) (a1 : Int32) : SS :=
  m_X1_walkMonth_12 (st σ a0 1 ((σ a0 1) + (nI 1))) a0 a1
noncomputable def m_X1_walkMonth_3 (σ : SS) (a0 : Nat) (a1 : Int32) : SS :=
  m_X1_walkMonth_6 (st σ a0 2 (nI 0)) a0 a1
noncomputable def m_X1_walkMonth (σ : SS) (a0 : Nat) (a1 : Int32) : SS :=
  m_X1_walkMonth_3 (st σ a0 0 a1) a0 a1
set_option maxHeartbeats 4000000 in
set_option maxRecDepth 100000 in
theorem c_X1_walkMonth (l : Launch) (D : va_G) (cA ad : Nat → Nat) (t : Nat) (hI : rI ad) (F : Nat → va_E) (hW : WT cA ad F) (rj : Nat) (hrj : isJ rj) (p1 : Int32) : MV l D cA ad t yX1_walkMonth wsX1_walkMonth { frames := 0, cells := 0, slots := 0, locals := 0 } [.ref (ad rj), .int p1] F (fun F' => WT cA ad F' ∧ rFr [rj] F F' ∧ ((True) ∧ m_X1_walkMonth (AB ad F) rj p1 = AB ad F')) := by
  refine en_V rfl (by decide +kernel) (Nat.le_of_ble_eq_true rfl) ?_
  intro p e s m args below meth c ls0 Q S hK hZ hP hS hl0 hret
  have hl0 : lv_has ls0 2 [(0, .ref (ad rj)), (1, .int p1)] := hl0
  have hFr : rFr [rj] F F := rFr.rf
  have hiX1 : ∀ w ∈ u_ws RX1 TX1 7, w ∈ wsX1_walkMonth := in_wsX1_walkMonth_1
  obtain ⟨M, hM⟩ : ∃ M, M = m_X1_walkMonth (AB ad F) rj p1 := ⟨_, rfl⟩
  refine lv_aload_n S.1 S.2.1 dX1_walkMonth_0 rfl (lv_at hl0 0 rfl) ?_
  refine lv_iload_n S.1 S.2.1 dX1_walkMonth_1 rfl (lv_at hl0 1 rfl) ?_
  obtain ⟨ja1, jb1, jc1, jd1, jx1, jy1, jk1, hF1, hk1⟩ := wt_J hW hrj
  refine r_put S hI hK hP hS rj (lt_J hrj) hF1 (C := RX1) (T := TX1) (N := 7) hiX1 tyX1_ok nmX1 rfl 0 (by decide) (am_at in_wsX1_walkMonth_0 0 rfl) rfl rfl rfl (Nat.le_of_ble_eq_true rfl) dX1_walkMonth_2 (fun F2 H2 locs2 eF2 hP2 hS2 => ?_)
  have hF2 : F2 rj = .inr (1, [.int p1, .int jb1, .int jc1, .int jd1, .int jx1, .int jy1, .int (nI jk1)]) := by rw [eF2]; exact va_up_self _ _ _
  have hW2 := hW.up eF2 (ok_J hrj ⟨p1, jb1, jc1, jd1, jx1, jy1, jk1, rfl, by omega⟩)
  have hFr2 := hFr.up eF2 (by simp <;> first | omega | (simp only [isC, isJ] at *; omega))
  have hE4 : M = m_X1_walkMonth_3 (AB ad F2) rj p1 := hM.trans ((show m_X1_walkMonth (AB ad F) rj p1 = m_X1_walkMonth_3 (st (AB ad F) rj 0 p1) rj p1 from rfl).trans (congr (congr (congrArg (m_X1_walkMonth_3) ((st_cg rfl rfl rfl).trans (AB_put hF1 (Nat.le_of_ble_eq_true rfl) eF2).symm)) (Eq.refl rj)) (Eq.refl (p1 : Int32))))
  refine lv_aload_n S.1 S.2.1 dX1_walkMonth_5 rfl (lv_at hl0 0 rfl) ?_
  refine lv_iconst (v := (nI 0)) S.1 S.2.1 dX1_walkMonth_6 (by decide +kernel) ?_
  refine r_put S hI hK hP2 hS2 rj (lt_J hrj) hF2 (C := RX1) (T := TX1) (N := 7) hiX1 tyX1_ok nmX1 rfl 2 (by decide) (am_at in_wsX1_walkMonth_0 1 rfl) rfl rfl rfl (Nat.le_of_ble_eq_true rfl) dX1_walkMonth_7 (fun F5 H5 locs5 eF5 hP5 hS5 => ?_)
  have hF5 : F5 rj = .inr (1, [.int p1, .int jb1, .int (nI 0), .int jd1, .int jx1, .int jy1, .int (nI jk1)]) := by rw [eF5]; exact va_up_self _ _ _
  have hW5 := hW2.up eF5 (ok_J hrj ⟨p1, jb1, (nI 0), jd1, jx1, jy1, jk1, rfl, by omega⟩)
  have hFr5 := hFr2.up eF5 (by simp <;> first | omega | (simp only [isC, isJ] at *; omega))
  have hE7 : M = m_X1_walkMonth_6 (AB ad F5) rj p1 := hE4.trans ((show m_X1_walkMonth_3 (AB ad F2) rj p1 = m_X1_walkMonth_6 (st (AB ad F2) rj 2 (nI 0)) rj p1 from rfl).trans (congr (congr (congrArg (m_X1_walkMonth_6) ((st_cg rfl rfl rfl).trans (AB_put hF2 (Nat.le_of_ble_eq_true rfl) eF5).symm)) (Eq.refl rj)) (Eq.refl (p1 : Int32))))
  refine lv_aload_n S.1 S.2.1 dX1_walkMonth_10 rfl (lv_at hl0 0 rfl) ?_
  refine lv_dup S.1 S.2.1 dX1_walkMonth_11 rfl ?_
  refine r_get S hK hP5 rj (lt_J hrj) hF5 (C := RX1) (T := TX1) (N := 7) hiX1 rfl 1 (by decide) (am_at in_wsX1_walkMonth_0 2 rfl) (v := .int jb1) rfl dX1_walkMonth_12 ?_
  have m8 : ((AB ad F5) rj 1) = jb1 := (congrArg (fun q => AB ad F5 q 1) rfl).trans (AB_f hF5 rfl)
  refine lv_iconst (v := (nI 1)) S.1 S.2.1 dX1_walkMonth_15 (by decide +kernel) ?_
  refine lv_iadd S.1 S.2.1 dX1_walkMonth_16 ?_
  refine lv_topi (fun v9 e9 => ?_)
  have m10 : (((AB ad F5) rj 1) + (nI 1)) = v9 := cg2 (fun (x : Int32) (y : Int32) => x + y) m8 (Eq.refl ((nI 1) : Int32)) e9
  refine r_put S hI hK hP5 hS5 rj (lt_J hrj) hF5 (C := RX1) (T := TX1) (N := 7) hiX1 tyX1_ok nmX1 rfl 1 (by decide) (am_at in_wsX1_walkMonth_0 2 rfl) rfl rfl rfl (Nat.le_of_ble_eq_true rfl) dX1_walkMonth_17 (fun F11 H11 locs11 eF11 hP11 hS11 => ?_)
  have hF11 : F11 rj = .inr (1, [.int p1, .int v9, .int (nI 0), .int jd1, .int jx1, .int jy1, .int (nI jk1)]) := by rw [eF11]; exact va_up_self _ _ _
  have hW11 := hW5.up eF11 (ok_J hrj ⟨p1, v9, (nI 0), jd1, jx1, jy1, jk1, rfl, by omega⟩)
  have hFr11 := hFr5.up eF11 (by simp <;> first | omega | (simp only [isC, isJ] at *; omega))
  have hE13 : M = m_X1_walkMonth_12 (AB ad F11) rj p1 := hE7.trans ((show m_X1_walkMonth_6 (AB ad F5) rj p1 = m_X1_walkMonth_12 (st (AB ad F5) rj 1 (((AB ad F5) rj 1) + (nI 1))) rj p1 from rfl).trans (congr (congr (congrArg (m_X1_walkMonth_12) ((st_cg rfl rfl m10).trans (AB_put hF5 (Nat.le_of_ble_eq_true rfl) eF11).symm)) (Eq.refl rj)) (Eq.refl (p1 : Int32))))
  have hE14 : M = AB ad F11 := hE13.trans ((show m_X1_walkMonth_12 (AB ad F11) rj p1 = (AB ad F11) from rfl).trans rfl)
  exact hret 20 _ _ _ _ dX1_walkMonth_20 hP11 hS11 ⟨hW11, hFr11, ⟨trivial, hM.symm.trans hE14⟩⟩
noncomputable def m_X2_loseOldest_31 (k0 : SS → Int32 → Nat → SS) (σ : SS) (a0 : Int32) (a1 : Nat) : SS :=
  k0 σ (a0 + Int32.ofInt (1)) a1
noncomputable def m_X2_loseOldest_19 (k0 : SS → Int32 → Nat → SS) (σ : SS) (a0 : Int32) (a1 : Nat) : SS :=
  σ
noncomputable def m_X2_loseOldest_15 (k0 : SS → Int32 → Nat → SS) (σ : SS) (a0 : Int32) (a1 : Nat) : SS :=
  m_X2_loseOldest_19 k0 (st σ 4 1 (nI 19)) a0 a1
noncomputable def m_X2_loseOldest_L9_7_b (k0 : SS → Int32 → Nat → SS) (σ : SS) (a0 : Int32) (a1 : Nat) : SS :=
  if (nI 20) ≤ a0 then
    m_X2_loseOldest_15 k0 (st σ 5 (rl (nI 19)) (nI a1)) a0 a1
  else
    m_X2_loseOldest_31 k0 (st σ 5 (rl (a0 - (nI 1))) (nI (rl (σ 5 (rl a0))))) a0 a1
noncomputable def m_X2_loseOldest_L9_7 : Nat → SS → Int32 → Nat → SS
  | 0 => fun σ _ _ => σ
  | n + 1 => m_X2_loseOldest_L9_7_b (m_X2_loseOldest_L9_7 n)
noncomputable def m_X2_loseOldest (σ : SS) : SS :=
  m_X2_loseOldest_L9_7 2000 σ (nI 1) (rl (σ 5 (rl (nI 0))))
set_option maxHeartbeats 4000000 in
set_option maxRecDepth 100000 in
theorem c_X2_loseOldest (l : Launch) (D : va_G) (cA ad : Nat → Nat) (t : Nat) (hI : rI ad) (F : Nat → va_E) (hW : WT cA ad F) : MV l D cA ad t yX2_loseOldest wsX2_loseOldest { frames := 0, cells := 0, slots := 0, locals := 0 } [.ref (ad 4)] F (fun F' => WT cA ad F' ∧ rFr [4, 5] F F' ∧ ((∃ k : Nat, F' 4 = .inr (2, [.ref (ad 5), .int (nI k)]) ∧ k < 20) ∧ m_X2_loseOldest (AB ad F) = AB ad F')) := by
  refine en_V rfl (by decide +kernel) (Nat.le_of_ble_eq_true rfl) ?_
  intro p e s m args below meth c ls0 Q S hK hZ hP hS hl0 hret
  have hl0 : lv_has ls0 3 [(0, .ref (ad 4))] := hl0
  have hFr : rFr [4, 5] F F := rFr.rf
  have hiX2 : ∀ w ∈ u_ws RX2 TX2 2, w ∈ wsX2_loseOldest := in_wsX2_loseOldest_1
  obtain ⟨M, hM⟩ : ∃ M, M = m_X2_loseOldest (AB ad F) := ⟨_, rfl⟩
  refine lv_aload_n S.1 S.2.1 dX2_loseOldest_0 rfl (lv_at hl0 0 rfl) ?_
  obtain ⟨k1, hF1, hk1⟩ := wt_past hW
  refine r_get S hK hP 4 (by decide) hF1 (C := RX2) (T := TX2) (N := 2) hiX2 rfl 0 (by decide) (am_at in_wsX2_loseOldest_0 0 rfl) (v := .ref (ad 5)) rfl dX2_loseOldest_1 ?_
  refine lv_iconst (v := (nI 0)) S.1 S.2.1 dX2_loseOldest_4 (by decide +kernel) ?_
  obtain ⟨g2, hF2, hg2⟩ := wt_kept hW
  obtain ⟨j3, hj3, hg3⟩ := hg2 0 (by omega)
  refine r_aald S hK hP 5 (by decide) hF2 (vp_in_nI (show 0 < 20 by omega) (by omega)) (a := ad j3) (by rw [nI_clamp (by omega)]; exact hg3) dX2_loseOldest_5 ?_
  have m4 : (rl ((AB ad F) 5 (rl (nI 0)))) = j3 := (congrArg rl (ab_cg (σ := AB ad F) rfl rfl)).trans (AB_q hI (lt_J (show isJ j3 from Or.inr (Or.inl hj3))) hF2 (by rw [show rl (nI 0) = 0 from nI_clamp (by omega)]; exact hg3))
  refine lv_astore_n (lv' := [(1, .ref (ad j3)), (0, .ref (ad 4))]) S.1 S.2.1 dX2_loseOldest_6 rfl hl0 (by decide) rfl (fun ls5 hl5 => ?_)
  refine lv_iconst (v := (nI 1)) S.1 S.2.1 dX2_loseOldest_7 (by decide +kernel) ?_
  refine lv_istore_n (lv' := [(2, .int (nI 1)), (1, .ref (ad j3)), (0, .ref (ad 4))]) S.1 S.2.1 dX2_loseOldest_8 rfl hl5 (by decide) rfl (fun ls6 hl6 => ?_)
  have lp7 : ∀ (n7 : Nat) (q27 : Nat), ∀ (Fl7 : Nat → va_E) (Hl7 : Heap) (lol7 : List Loc), 1 ≤ q27 ∧ q27 ≤ 20 → 20 - q27 < n7 → WT cA ad Fl7 → rFr [4, 5] F Fl7 → va_P D vwCl (rW ad Fl7) Hl7 → va_S (rA ad) s.heap Hl7 lol7 → M = m_X2_loseOldest_L9_7 n7 (AB ad Fl7) (nI q27) j3 → ∀ (ls : Array Slot), lv_has ls 3 [(2, .int (nI q27)), (1, .ref (ad j3)), (0, .ref (ad 4))] → W p l e { frames := 0, cells := 0, slots := 0, locals := 0 } s m args below meth c Hl7 lol7 0 0 Q (F0 m 9 ls []) := by
    intro n7
    induction n7 with
    | zero =>
      intro q27 Fl7 Hl7 lol7 iv7_0 hm7 hWl7 hFl7 hPl7 hSl7 hEl7 ls7 hl7
      exact absurd hm7 (Nat.not_lt_zero _)
    | succ n7 ih7 =>
      intro q27 Fl7 Hl7 lol7 iv7_0 hm7 hWl7 hFl7 hPl7 hSl7 hEl7 ls7 hl7
      have hE8 : M = m_X2_loseOldest_L9_7_b (m_X2_loseOldest_L9_7 n7) (AB ad Fl7) (nI q27) j3 := hEl7
      refine lv_iload_n S.1 S.2.1 dX2_loseOldest_9 rfl (lv_at hl7 0 rfl) ?_
      refine lv_bipush (v := (nI 20)) S.1 S.2.1 dX2_loseOldest_10 (by decide +kernel) ?_
      refine lv_icmp_ge (tgt := 35) S.1 S.2.1 dX2_loseOldest_12 (by decide) (fun c9 => ?_) (fun c9 => ?_)
      · skip
        have k10 := ci_le (nI_toInt (n := 20) (by decide)) (nI_toInt (n := q27) (by omega)) c9
        refine lv_aload_n S.1 S.2.1 dX2_loseOldest_35 rfl (lv_at hl7 2 rfl) ?_
        obtain ⟨k11, hF11, hk11⟩ := wt_past hWl7
        refine r_get S hK hPl7 4 (by decide) hF11 (C := RX2) (T := TX2) (N := 2) hiX2 rfl 0 (by decide) (am_at in_wsX2_loseOldest_0 0 rfl) (v := .ref (ad 5)) rfl dX2_loseOldest_36 ?_
        refine lv_bipush (v := (nI 19)) S.1 S.2.1 dX2_loseOldest_39 (by decide +kernel) ?_
        refine lv_aload_n S.1 S.2.1 dX2_loseOldest_41 rfl (lv_at hl7 1 rfl) ?_
        obtain ⟨g12, hF12, hg12⟩ := wt_kept hWl7
        obtain ⟨ja13, jb13, jc13, jd13, jx13, jy13, jk13, hF13, hk13⟩ := wt_J hWl7 (show isJ j3 from Or.inr (Or.inl hj3))
        refine r_aast S hI hK hPl7 hSl7 5 (by decide) hF12 j3 (lt_J (show isJ j3 from Or.inr (Or.inl hj3))) hF13 (vp_in_nI (show 19 < 20 by omega) (by omega)) dX2_loseOldest_42 (fun F14 H14 locs14 eF14 hP14 hS14 => ?_)
        have hW14 := hWl7.up eF14 (ok_kept (okKept_up hg12 hj3))
        have hFr14 := hFl7.up eF14 (by simp <;> first | omega | (simp only [isC, isJ] at *; omega))
        have hE16 : M = m_X2_loseOldest_15 (m_X2_loseOldest_L9_7 n7) (AB ad F14) (nI q27) j3 := hE8.trans ((show m_X2_loseOldest_L9_7_b (m_X2_loseOldest_L9_7 n7) (AB ad Fl7) (nI q27) j3 = m_X2_loseOldest_15 (m_X2_loseOldest_L9_7 n7) (st (AB ad Fl7) 5 (rl (nI 19)) (nI j3)) (nI q27) j3 from by unfold m_X2_loseOldest_L9_7_b; rw [if_pos (le_cg rfl rfl c9)]).trans (congr (congr (congrArg (m_X2_loseOldest_15 (m_X2_loseOldest_L9_7 n7)) ((st_cg rfl (congrArg rl rfl) (congrArg nI rfl)).trans (AB_aast hI (lt_J (show isJ j3 from Or.inr (Or.inl hj3))) hF12 eF14).symm)) (Eq.refl ((nI q27) : Int32))) (Eq.refl j3)))
        refine lv_aload_n S.1 S.2.1 dX2_loseOldest_43 rfl (lv_at hl7 2 rfl) ?_
        refine lv_bipush (v := (nI 19)) S.1 S.2.1 dX2_loseOldest_44 (by decide +kernel) ?_
        have hF17 := (show F14 4 = Fl7 4 by rw [eF14]; exact va_up_ne _ _ (by decide)).trans hF11
        refine r_put S hI hK hP14 hS14 4 (by decide) hF17 (C := RX2) (T := TX2) (N := 2) hiX2 tyX2_ok nmX2 rfl 1 (by decide) (am_at in_wsX2_loseOldest_0 1 rfl) rfl rfl rfl (Nat.le_of_ble_eq_true rfl) dX2_loseOldest_46 (fun F18 H18 locs18 eF18 hP18 hS18 => ?_)
        have hF18 : F18 4 = .inr (2, [.ref (ad 5), .int (nI 19)]) := by rw [eF18]; exact va_up_self _ _ _
        have hW18 := hW14.up eF18 (ok_past ⟨19, rfl, by omega⟩)
        have hFr18 := hFr14.up eF18 (by simp <;> first | omega | (simp only [isC, isJ] at *; omega))
        have hE20 : M = m_X2_loseOldest_19 (m_X2_loseOldest_L9_7 n7) (AB ad F18) (nI q27) j3 := hE16.trans ((show m_X2_loseOldest_15 (m_X2_loseOldest_L9_7 n7) (AB ad F14) (nI q27) j3 = m_X2_loseOldest_19 (m_X2_loseOldest_L9_7 n7) (st (AB ad F14) 4 1 (nI 19)) (nI q27) j3 from rfl).trans (congr (congr (congrArg (m_X2_loseOldest_19 (m_X2_loseOldest_L9_7 n7)) ((st_cg rfl rfl rfl).trans (AB_put hF17 (Nat.le_of_ble_eq_true rfl) eF18).symm)) (Eq.refl ((nI q27) : Int32))) (Eq.refl j3)))
        have hE21 : M = AB ad F18 := hE20.trans ((show m_X2_loseOldest_19 (m_X2_loseOldest_L9_7 n7) (AB ad F18) (nI q27) j3 = (AB ad F18) from rfl).trans rfl)
        exact hret 49 _ _ _ _ dX2_loseOldest_49 hP18 hS18 ⟨hW18, hFr18, ⟨⟨19, hF18, by omega⟩, hM.symm.trans hE21⟩⟩
      have k22 := ci_nle (nI_toInt (n := 20) (by decide)) (nI_toInt (n := q27) (by omega)) c9
      refine lv_aload_n S.1 S.2.1 dX2_loseOldest_15 rfl (lv_at hl7 2 rfl) ?_
      obtain ⟨k23, hF23, hk23⟩ := wt_past hWl7
      refine r_get S hK hPl7 4 (by decide) hF23 (C := RX2) (T := TX2) (N := 2) hiX2 rfl 0 (by decide) (am_at in_wsX2_loseOldest_0 0 rfl) (v := .ref (ad 5)) rfl dX2_loseOldest_16 ?_
      refine lv_iload_n S.1 S.2.1 dX2_loseOldest_19 rfl (lv_at hl7 0 rfl) ?_
      refine lv_iconst (v := (nI 1)) S.1 S.2.1 dX2_loseOldest_20 (by decide +kernel) ?_
      refine lv_isub S.1 S.2.1 dX2_loseOldest_21 ?_
      refine lv_topi (fun v24 e24 => ?_)
      obtain rfl : v24 = nI (q27 - 1) := e24.trans (pk_sub (by omega))
      have m25 : ((nI q27) - (nI 1)) = (nI (q27 - 1)) := cg2 (fun (x : Int32) (y : Int32) => x - y) (Eq.refl ((nI q27) : Int32)) (Eq.refl ((nI 1) : Int32)) e24
      refine lv_aload_n S.1 S.2.1 dX2_loseOldest_22 rfl (lv_at hl7 2 rfl) ?_
      refine r_get S hK hPl7 4 (by decide) hF23 (C := RX2) (T := TX2) (N := 2) hiX2 rfl 0 (by decide) (am_at in_wsX2_loseOldest_0 0 rfl) (v := .ref (ad 5)) rfl dX2_loseOldest_23 ?_
      refine lv_iload_n S.1 S.2.1 dX2_loseOldest_26 rfl (lv_at hl7 0 rfl) ?_
      obtain ⟨g26, hF26, hg26⟩ := wt_kept hWl7
      obtain ⟨j27, hj27, hg27⟩ := hg26 q27 (by omega)
      refine r_aald S hK hPl7 5 (by decide) hF26 (vp_in_nI (show q27 < 20 by omega) (by omega)) (a := ad j27) (by rw [nI_clamp (by omega)]; exact hg27) dX2_loseOldest_27 ?_
      have m28 : (rl ((AB ad Fl7) 5 (rl (nI q27)))) = j27 := (congrArg rl (ab_cg (σ := AB ad Fl7) rfl rfl)).trans (AB_q hI (lt_J (show isJ j27 from Or.inr (Or.inl hj27))) hF26 (by rw [show rl (nI q27) = q27 from nI_clamp (by omega)]; exact hg27))
      obtain ⟨ja29, jb29, jc29, jd29, jx29, jy29, jk29, hF29, hk29⟩ := wt_J hWl7 (show isJ j27 from Or.inr (Or.inl hj27))
      refine r_aast S hI hK hPl7 hSl7 5 (by decide) hF26 j27 (lt_J (show isJ j27 from Or.inr (Or.inl hj27))) hF29 (vp_in_nI (show q27 - 1 < 20 by omega) (by omega)) dX2_loseOldest_28 (fun F30 H30 locs30 eF30 hP30 hS30 => ?_)
      have hW30 := hWl7.up eF30 (ok_kept (okKept_up hg26 hj27))
      have hFr30 := hFl7.up eF30 (by simp <;> first | omega | (simp only [isC, isJ] at *; omega))
      have hE32 : M = m_X2_loseOldest_31 (m_X2_loseOldest_L9_7 n7) (AB ad F30) (nI q27) j3 := hE8.trans ((show m_X2_loseOldest_L9_7_b (m_X2_loseOldest_L9_7 n7) (AB ad Fl7) (nI q27) j3 = m_X2_loseOldest_31 (m_X2_loseOldest_L9_7 n7) (st (AB ad Fl7) 5 (rl ((nI q27) - (nI 1))) (nI (rl ((AB ad Fl7) 5 (rl (nI q27)))))) (nI q27) j3 from by unfold m_X2_loseOldest_L9_7_b; rw [if_neg (nle_cg rfl rfl c9)]).trans (congr (congr (congrArg (m_X2_loseOldest_31 (m_X2_loseOldest_L9_7 n7)) ((st_cg rfl (congrArg rl m25) (congrArg nI m28)).trans (AB_aast hI (lt_J (show isJ j27 from Or.inr (Or.inl hj27))) hF26 eF30).symm)) (Eq.refl ((nI q27) : Int32))) (Eq.refl j3)))
      have m34 : ((nI q27) + Int32.ofInt (1)) = (nI (q27 + 1)) := (congrArg (fun q : Int32 => q + Int32.ofInt (1)) rfl).trans (nI_add _ 1)
      refine lv_iinc (v := (nI (q27 + 1))) (lv' := [(2, .int (nI (q27 + 1))), (1, .ref (ad j3)), (0, .ref (ad 4))]) S.1 S.2.1 dX2_loseOldest_29 hl7 (k := 0) rfl (nI_add _ 1) (by decide) rfl (fun ls33 hl33 => ?_)
      refine lv_goto (tgt := 9) S.1 S.2.1 dX2_loseOldest_32 (by decide) ?_
      have hE35 : M = (m_X2_loseOldest_L9_7 n7) (AB ad F30) (nI (q27 + 1)) j3 := hE32.trans ((show m_X2_loseOldest_31 (m_X2_loseOldest_L9_7 n7) (AB ad F30) (nI q27) j3 = (m_X2_loseOldest_L9_7 n7) (AB ad F30) ((nI q27) + Int32.ofInt (1)) j3 from rfl).trans (congr (congr (congrArg ((m_X2_loseOldest_L9_7 n7)) (rfl : AB ad F30 = AB ad F30)) m34) (Eq.refl j3)))
      exact ih7 (q27 + 1) F30 H30 locs30 (by omega) (by omega) hW30 hFr30 hP30 hS30 hE35 ls33 (lv_sub hl33 [0, 1, 2] rfl)
  have hE36 : M = m_X2_loseOldest_L9_7 2000 (AB ad F) (nI 1) j3 := hM.trans ((show m_X2_loseOldest (AB ad F) = m_X2_loseOldest_L9_7 2000 (AB ad F) (nI 1) (rl ((AB ad F) 5 (rl (nI 0)))) from rfl).trans (congr (congr (congrArg (m_X2_loseOldest_L9_7 2000) (rfl : AB ad F = AB ad F)) (Eq.refl ((nI 1) : Int32))) m4))
  exact lp7 2000 (1) F s.heap [] (by omega) (by omega) hW hFr hP hS hE36 ls6 (lv_sub hl6 [0, 1, 2] rfl)
noncomputable def m_X2_push_39 (σ : SS) (a0 : Nat) : SS :=
  σ
noncomputable def m_X2_push_32 (σ : SS) (a0 : Nat) : SS :=
  m_X2_push_39 (st σ 4 1 ((σ 4 1) + (nI 1))) a0
noncomputable def m_X2_push_24 (σ : SS) (a0 : Nat) : SS :=
  m_X2_push_32 (m_X1_copy σ (rl (σ 5 (rl (σ 4 1)))) a0) a0
noncomputable def m_X2_push_18 (σ : SS) (a0 : Nat) : SS :=
  σ
noncomputable def m_X2_push_11 (σ : SS) (a0 : Nat) : SS :=
  m_X2_push_18 (st σ 4 1 ((σ 4 1) + (nI 1))) a0
noncomputable def m_X2_push (σ : SS) (a0 : Nat) : SS :=
  if (σ 4 1) < (nI 20) then
    m_X2_push_11 (m_X1_copy σ (rl (σ 5 (rl (σ 4 1)))) a0) a0
  else
    m_X2_push_24 (m_X2_loseOldest σ) a0
set_option maxHeartbeats 4000000 in
set_option maxRecDepth 100000 in
theorem c_X2_push (l : Launch) (D : va_G) (cA ad : Nat → Nat) (t : Nat) (hI : rI ad) (F : Nat → va_E) (hW : WT cA ad F) (rj : Nat) (hrj : isJ rj) : MV l D cA ad t yX2_push wsX2_push { frames := 1, cells := 0, slots := 0, locals := 22 } [.ref (ad 4), .ref (ad rj)] F (fun F' => WT cA ad F' ∧ rFr [4, 5, 6, 7, 8, 9, 10, 11, 12, 13, 14, 15, 16, 17, 18, 19, 20, 21, 22, 23, 24, 25] F F' ∧ ((True) ∧ m_X2_push (AB ad F) rj = AB ad F')) := by
  refine en_V rfl (by decide +kernel) (Nat.le_of_ble_eq_true rfl) ?_
  intro p e s m args below meth c ls0 Q S hK hZ hP hS hl0 hret
  have hl0 : lv_has ls0 2 [(0, .ref (ad 4)), (1, .ref (ad rj))] := hl0
  have hFr : rFr [4, 5, 6, 7, 8, 9, 10, 11, 12, 13, 14, 15, 16, 17, 18, 19, 20, 21, 22, 23, 24, 25] F F := rFr.rf
  have hiX2 : ∀ w ∈ u_ws RX2 TX2 2, w ∈ wsX2_push := in_wsX2_push_1
  obtain ⟨M, hM⟩ : ∃ M, M = m_X2_push (AB ad F) rj := ⟨_, rfl⟩
  refine lv_aload_n S.1 S.2.1 dX2_push_0 rfl (lv_at hl0 0 rfl) ?_
  obtain ⟨k1, hF1, hk1⟩ := wt_past hW
  refine r_get S hK hP 4 (by decide) hF1 (C := RX2) (T := TX2) (N := 2) hiX2 rfl 1 (by decide) (am_at in_wsX2_push_0 0 rfl) (v := .int (nI k1)) rfl dX2_push_1 ?_
  have m2 : ((AB ad F) 4 1) = (nI k1) := AB_f hF1 rfl
  refine lv_bipush (v := (nI 20)) S.1 S.2.1 dX2_push_4 (by decide +kernel) ?_
  refine lv_icmp_lt (tgt := 13) S.1 S.2.1 dX2_push_6 (by decide) (fun c3 => ?_) (fun c3 => ?_)
  · skip
    have k4 := ci_lt (nI_toInt (n := k1) (by omega)) (nI_toInt (n := 20) (by decide)) c3
    refine lv_aload_n S.1 S.2.1 dX2_push_13 rfl (lv_at hl0 0 rfl) ?_
    refine r_get S hK hP 4 (by decide) hF1 (C := RX2) (T := TX2) (N := 2) hiX2 rfl 0 (by decide) (am_at in_wsX2_push_0 1 rfl) (v := .ref (ad 5)) rfl dX2_push_14 ?_
    refine lv_aload_n S.1 S.2.1 dX2_push_17 rfl (lv_at hl0 0 rfl) ?_
    refine r_get S hK hP 4 (by decide) hF1 (C := RX2) (T := TX2) (N := 2) hiX2 rfl 1 (by decide) (am_at in_wsX2_push_0 0 rfl) (v := .int (nI k1)) rfl dX2_push_18 ?_
    have m5 : ((AB ad F) 4 1) = (nI k1) := AB_f hF1 rfl
    obtain ⟨g6, hF6, hg6⟩ := wt_kept hW
    obtain ⟨j7, hj7, hg7⟩ := hg6 k1 (by omega)
    refine r_aald S hK hP 5 (by decide) hF6 (vp_in_nI (show k1 < 20 by omega) (by omega)) (a := ad j7) (by rw [nI_clamp (by omega)]; exact hg7) dX2_push_21 ?_
    have m8 : (rl ((AB ad F) 5 (rl ((AB ad F) 4 1)))) = j7 := (congrArg rl (ab_cg (σ := AB ad F) rfl m5)).trans (AB_q hI (lt_J (show isJ j7 from Or.inr (Or.inl hj7))) hF6 (by rw [show rl (nI k1) = k1 from nI_clamp (by omega)]; exact hg7))
    refine lv_aload_n S.1 S.2.1 dX2_push_22 rfl (lv_at hl0 1 rfl) ?_
    obtain ⟨ja10, jb10, jc10, jd10, jx10, jy10, jk10, hF10, hk10⟩ := wt_J hW (show isJ j7 from Or.inr (Or.inl hj7))
    refine r_cVv (As := [.ref (ad rj)]) (rest := []) S hK hZ hP hS hl0.1 j7 (lt_J (show isJ j7 from Or.inr (Or.inl hj7))) hF10 (C := RX1) rfl (c_X1_copy l D cA ad t hI F hW j7 (show isJ j7 from Or.inr (Or.inl hj7)) rj hrj) (cwV 1 S.2.2.2.2 gX2_push_X1_copy rfl rfl rfl (by decide +kernel) ⟨Nat.le_of_ble_eq_true rfl, Nat.le_of_ble_eq_true rfl⟩) rfl rfl (Nat.le_of_ble_eq_true rfl) ⟨Nat.zero_le _, Nat.zero_le _⟩ dX2_push_23 (fun F9 H9 locs9 hr9 hP9 hS9 => ?_)
    obtain ⟨hW9, hFc9, hr9⟩ := hr9
    obtain ⟨hr9, hm9⟩ := hr9
    have hFr9 := hFr.tr hFc9 (by simp <;> first | omega | (simp only [isC, isJ] at *; omega))
    have hE12 : M = m_X2_push_11 (AB ad F9) rj := hM.trans ((show m_X2_push (AB ad F) rj = m_X2_push_11 (m_X1_copy (AB ad F) (rl ((AB ad F) 5 (rl ((AB ad F) 4 1)))) rj) rj from by unfold m_X2_push; rw [if_pos (lt_cg m2 rfl c3)]).trans (congr (congrArg (m_X2_push_11) ((congr (congr (Eq.refl (m_X1_copy (AB ad F))) m8) (Eq.refl rj)).trans hm9)) (Eq.refl rj)))
    refine lv_aload_n S.1 S.2.1 dX2_push_26 rfl (lv_at hl0 0 rfl) ?_
    refine lv_dup S.1 S.2.1 dX2_push_27 rfl ?_
    have hF13 := (hFc9 4 (by have hh_j7 := (show isJ j7 from Or.inr (Or.inl hj7)); unfold isJ at hh_j7; simp only [List.mem_cons, List.not_mem_nil, or_false, not_or]; omega)).trans hF1
    refine r_get S hK hP9 4 (by decide) hF13 (C := RX2) (T := TX2) (N := 2) hiX2 rfl 1 (by decide) (am_at in_wsX2_push_0 0 rfl) (v := .int (nI k1)) rfl dX2_push_28 ?_
    have m14 : ((AB ad F9) 4 1) = (nI k1) := AB_f hF13 rfl
    refine lv_iconst (v := (nI 1)) S.1 S.2.1 dX2_push_31 (by decide +kernel) ?_
    refine lv_iadd S.1 S.2.1 dX2_push_32 ?_
    refine lv_topi (fun v15 e15 => ?_)
    obtain rfl : v15 = nI (k1 + 1) := e15.trans (nI_add _ _)
    have m16 : (((AB ad F9) 4 1) + (nI 1)) = (nI (k1 + 1)) := cg2 (fun (x : Int32) (y : Int32) => x + y) m14 (Eq.refl ((nI 1) : Int32)) e15
    refine r_put S hI hK hP9 hS9 4 (by decide) hF13 (C := RX2) (T := TX2) (N := 2) hiX2 tyX2_ok nmX2 rfl 1 (by decide) (am_at in_wsX2_push_0 0 rfl) rfl rfl rfl (Nat.le_of_ble_eq_true rfl) dX2_push_33 (fun F17 H17 locs17 eF17 hP17 hS17 => ?_)
    have hF17 : F17 4 = .inr (2, [.ref (ad 5), .int (nI (k1 + 1))]) := by rw [eF17]; exact va_up_self _ _ _
    have hW17 := hW9.up eF17 (ok_past ⟨k1 + 1, rfl, by omega⟩)
    have hFr17 := hFr9.up eF17 (by simp <;> first | omega | (simp only [isC, isJ] at *; omega))
    have hE19 : M = m_X2_push_18 (AB ad F17) rj := hE12.trans ((show m_X2_push_11 (AB ad F9) rj = m_X2_push_18 (st (AB ad F9) 4 1 (((AB ad F9) 4 1) + (nI 1))) rj from rfl).trans (congr (congrArg (m_X2_push_18) ((st_cg rfl rfl m16).trans (AB_put hF13 (Nat.le_of_ble_eq_true rfl) eF17).symm)) (Eq.refl rj)))
    have hE20 : M = AB ad F17 := hE19.trans ((show m_X2_push_18 (AB ad F17) rj = (AB ad F17) from rfl).trans rfl)
    exact hret 36 _ _ _ _ dX2_push_36 hP17 hS17 ⟨hW17, hFr17, ⟨trivial, hM.symm.trans hE20⟩⟩
  have k21 := ci_nlt (nI_toInt (n := k1) (by omega)) (nI_toInt (n := 20) (by decide)) c3
  refine lv_aload_n S.1 S.2.1 dX2_push_9 rfl (lv_at hl0 0 rfl) ?_
  refine r_cVv (As := []) (rest := []) S hK hZ hP hS hl0.1 4 (by decide) hF1 (C := RX2) rfl (c_X2_loseOldest l D cA ad t hI F hW ) (cwV 0 S.2.2.2.2 gX2_push_X2_loseOldest rfl rfl rfl (by decide +kernel) ⟨Nat.le_of_ble_eq_true rfl, Nat.le_of_ble_eq_true rfl⟩) rfl rfl (Nat.le_of_ble_eq_true rfl) ⟨Nat.zero_le _, Nat.zero_le _⟩ dX2_push_10 (fun F22 H22 locs22 hr22 hP22 hS22 => ?_)
  obtain ⟨hW22, hFc22, hr22⟩ := hr22
  obtain ⟨hr22, hm22⟩ := hr22
  have hFr22 := hFr.tr hFc22 (by simp <;> first | omega | (simp only [isC, isJ] at *; omega))
  obtain ⟨k23, hF23, hk23⟩ := hr22
  have hE25 : M = m_X2_push_24 (AB ad F22) rj := hM.trans ((show m_X2_push (AB ad F) rj = m_X2_push_24 (m_X2_loseOldest (AB ad F)) rj from by unfold m_X2_push; rw [if_neg (nlt_cg m2 rfl c3)]).trans (congr (congrArg (m_X2_push_24) ((Eq.refl (m_X2_loseOldest (AB ad F))).trans hm22)) (Eq.refl rj)))
  refine lv_aload_n S.1 S.2.1 dX2_push_13 rfl (lv_at hl0 0 rfl) ?_
  refine r_get S hK hP22 4 (by decide) hF23 (C := RX2) (T := TX2) (N := 2) hiX2 rfl 0 (by decide) (am_at in_wsX2_push_0 1 rfl) (v := .ref (ad 5)) rfl dX2_push_14 ?_
  refine lv_aload_n S.1 S.2.1 dX2_push_17 rfl (lv_at hl0 0 rfl) ?_
  refine r_get S hK hP22 4 (by decide) hF23 (C := RX2) (T := TX2) (N := 2) hiX2 rfl 1 (by decide) (am_at in_wsX2_push_0 0 rfl) (v := .int (nI k23)) rfl dX2_push_18 ?_
  have m26 : ((AB ad F22) 4 1) = (nI k23) := AB_f hF23 rfl
  obtain ⟨g27, hF27, hg27⟩ := wt_kept hW22
  obtain ⟨j28, hj28, hg28⟩ := hg27 k23 (by omega)
  refine r_aald S hK hP22 5 (by decide) hF27 (vp_in_nI (show k23 < 20 by omega) (by omega)) (a := ad j28) (by rw [nI_clamp (by omega)]; exact hg28) dX2_push_21 ?_
  have m29 : (rl ((AB ad F22) 5 (rl ((AB ad F22) 4 1)))) = j28 := (congrArg rl (ab_cg (σ := AB ad F22) rfl m26)).trans (AB_q hI (lt_J (show isJ j28 from Or.inr (Or.inl hj28))) hF27 (by rw [show rl (nI k23) = k23 from nI_clamp (by omega)]; exact hg28))
  refine lv_aload_n S.1 S.2.1 dX2_push_22 rfl (lv_at hl0 1 rfl) ?_
  obtain ⟨ja31, jb31, jc31, jd31, jx31, jy31, jk31, hF31, hk31⟩ := wt_J hW22 (show isJ j28 from Or.inr (Or.inl hj28))
  refine r_cVv (As := [.ref (ad rj)]) (rest := []) S hK hZ hP22 hS22 hl0.1 j28 (lt_J (show isJ j28 from Or.inr (Or.inl hj28))) hF31 (C := RX1) rfl (c_X1_copy l D cA ad t hI F22 hW22 j28 (show isJ j28 from Or.inr (Or.inl hj28)) rj hrj) (cwV 1 S.2.2.2.2 gX2_push_X1_copy rfl rfl rfl (by decide +kernel) ⟨Nat.le_of_ble_eq_true rfl, Nat.le_of_ble_eq_true rfl⟩) rfl rfl (Nat.le_of_ble_eq_true rfl) ⟨Nat.zero_le _, Nat.zero_le _⟩ dX2_push_23 (fun F30 H30 locs30 hr30 hP30 hS30 => ?_)
  obtain ⟨hW30, hFc30, hr30⟩ := hr30
  obtain ⟨hr30, hm30⟩ := hr30
  have hFr30 := hFr22.tr hFc30 (by simp <;> first | omega | (simp only [isC, isJ] at *; omega))
  have hE33 : M = m_X2_push_32 (AB ad F30) rj := hE25.trans ((show m_X2_push_24 (AB ad F22) rj = m_X2_push_32 (m_X1_copy (AB ad F22) (rl ((AB ad F22) 5 (rl ((AB ad F22) 4 1)))) rj) rj from rfl).trans (congr (congrArg (m_X2_push_32) ((congr (congr (Eq.refl (m_X1_copy (AB ad F22))) m29) (Eq.refl rj)).trans hm30)) (Eq.refl rj)))
  refine lv_aload_n S.1 S.2.1 dX2_push_26 rfl (lv_at hl0 0 rfl) ?_
  refine lv_dup S.1 S.2.1 dX2_push_27 rfl ?_
  have hF34 := (hFc30 4 (by have hh_j28 := (show isJ j28 from Or.inr (Or.inl hj28)); unfold isJ at hh_j28; simp only [List.mem_cons, List.not_mem_nil, or_false, not_or]; omega)).trans hF23
  refine r_get S hK hP30 4 (by decide) hF34 (C := RX2) (T := TX2) (N := 2) hiX2 rfl 1 (by decide) (am_at in_wsX2_push_0 0 rfl) (v := .int (nI k23)) rfl dX2_push_28 ?_
  have m35 : ((AB ad F30) 4 1) = (nI k23) := AB_f hF34 rfl
  refine lv_iconst (v := (nI 1)) S.1 S.2.1 dX2_push_31 (by decide +kernel) ?_
  refine lv_iadd S.1 S.2.1 dX2_push_32 ?_
  refine lv_topi (fun v36 e36 => ?_)
  obtain rfl : v36 = nI (k23 + 1) := e36.trans (nI_add _ _)
  have m37 : (((AB ad F30) 4 1) + (nI 1)) = (nI (k23 + 1)) := cg2 (fun (x : Int32) (y : Int32) => x + y) m35 (Eq.refl ((nI 1) : Int32)) e36
  refine r_put S hI hK hP30 hS30 4 (by decide) hF34 (C := RX2) (T := TX2) (N := 2) hiX2 tyX2_ok nmX2 rfl 1 (by decide) (am_at in_wsX2_push_0 0 rfl) rfl rfl rfl (Nat.le_of_ble_eq_true rfl) dX2_push_33 (fun F38 H38 locs38 eF38 hP38 hS38 => ?_)
  have hF38 : F38 4 = .inr (2, [.ref (ad 5), .int (nI (k23 + 1))]) := by rw [eF38]; exact va_up_self _ _ _
  have hW38 := hW30.up eF38 (ok_past ⟨k23 + 1, rfl, by omega⟩)
  have hFr38 := hFr30.up eF38 (by simp <;> first | omega | (simp only [isC, isJ] at *; omega))
  have hE40 : M = m_X2_push_39 (AB ad F38) rj := hE33.trans ((show m_X2_push_32 (AB ad F30) rj = m_X2_push_39 (st (AB ad F30) 4 1 (((AB ad F30) 4 1) + (nI 1))) rj from rfl).trans (congr (congrArg (m_X2_push_39) ((st_cg rfl rfl m37).trans (AB_put hF34 (Nat.le_of_ble_eq_true rfl) eF38).symm)) (Eq.refl rj)))
  have hE41 : M = AB ad F38 := hE40.trans ((show m_X2_push_39 (AB ad F38) rj = (AB ad F38) from rfl).trans rfl)
  exact hret 36 _ _ _ _ dX2_push_36 hP38 hS38 ⟨hW38, hFr38, ⟨trivial, hM.symm.trans hE41⟩⟩
noncomputable def m_X2_pop_19 (σ : SS) (a0 : Nat) : SS :=
  σ
noncomputable def m_X2_pop_11 (σ : SS) (a0 : Nat) : SS :=
  m_X2_pop_19 (m_X1_copy σ a0 (rl (σ 5 (rl (σ 4 1))))) a0
noncomputable def m_X2_pop (σ : SS) (a0 : Nat) : SS :=
  if (σ 4 1) ≤ (0 : Int32) then
    σ
  else
    m_X2_pop_11 (st σ 4 1 ((σ 4 1) - (nI 1))) a0
set_option maxHeartbeats 4000000 in
set_option maxRecDepth 100000 in
theorem c_X2_pop (l : Launch) (D : va_G) (cA ad : Nat → Nat) (t : Nat) (hI : rI ad) (F : Nat → va_E) (hW : WT cA ad F) (rj : Nat) (hrj : isJ rj) : MV l D cA ad t yX2_pop wsX2_pop { frames := 1, cells := 0, slots := 0, locals := 21 } [.ref (ad 4), .ref (ad rj)] F (fun F' => WT cA ad F' ∧ rFr [4, rj] F F' ∧ ((True) ∧ m_X2_pop (AB ad F) rj = AB ad F')) := by
  refine en_V rfl (by decide +kernel) (Nat.le_of_ble_eq_true rfl) ?_
  intro p e s m args below meth c ls0 Q S hK hZ hP hS hl0 hret
  have hl0 : lv_has ls0 2 [(0, .ref (ad 4)), (1, .ref (ad rj))] := hl0
  have hFr : rFr [4, rj] F F := rFr.rf
  have hiX2 : ∀ w ∈ u_ws RX2 TX2 2, w ∈ wsX2_pop := in_wsX2_pop_1
  obtain ⟨M, hM⟩ : ∃ M, M = m_X2_pop (AB ad F) rj := ⟨_, rfl⟩
  refine lv_aload_n S.1 S.2.1 dX2_pop_0 rfl (lv_at hl0 0 rfl) ?_
  obtain ⟨k1, hF1, hk1⟩ := wt_past hW
  refine r_get S hK hP 4 (by decide) hF1 (C := RX2) (T := TX2) (N := 2) hiX2 rfl 1 (by decide) (am_at in_wsX2_pop_0 0 rfl) (v := .int (nI k1)) rfl dX2_pop_1 ?_
  have m2 : ((AB ad F) 4 1) = (nI k1) := AB_f hF1 rfl
  refine lv_if_le (tgt := 30) S.1 S.2.1 dX2_pop_4 (by decide) (fun c3 => ?_) (fun c3 => ?_)
  · skip
    have k4 := ci_le (nI_toInt (n := k1) (by omega)) z_ti c3
    have hE5 : M = AB ad F := hM.trans ((show m_X2_pop (AB ad F) rj = (AB ad F) from by unfold m_X2_pop; rw [if_pos (le_cg m2 rfl c3)]).trans rfl)
    exact hret 30 _ _ _ _ dX2_pop_30 hP hS ⟨hW, hFr, ⟨trivial, hM.symm.trans hE5⟩⟩
  have k6 := ci_nle (nI_toInt (n := k1) (by omega)) z_ti c3
  refine lv_aload_n S.1 S.2.1 dX2_pop_7 rfl (lv_at hl0 0 rfl) ?_
  refine lv_dup S.1 S.2.1 dX2_pop_8 rfl ?_
  refine r_get S hK hP 4 (by decide) hF1 (C := RX2) (T := TX2) (N := 2) hiX2 rfl 1 (by decide) (am_at in_wsX2_pop_0 0 rfl) (v := .int (nI k1)) rfl dX2_pop_9 ?_
  have m7 : ((AB ad F) 4 1) = (nI k1) := AB_f hF1 rfl
  refine lv_iconst (v := (nI 1)) S.1 S.2.1 dX2_pop_12 (by decide +kernel) ?_
  refine lv_isub S.1 S.2.1 dX2_pop_13 ?_
  refine lv_topi (fun v8 e8 => ?_)
  obtain rfl : v8 = nI (k1 - 1) := e8.trans (pk_sub (by omega))
  have m9 : (((AB ad F) 4 1) - (nI 1)) = (nI (k1 - 1)) := cg2 (fun (x : Int32) (y : Int32) => x - y) m7 (Eq.refl ((nI 1) : Int32)) e8
  refine r_put S hI hK hP hS 4 (by decide) hF1 (C := RX2) (T := TX2) (N := 2) hiX2 tyX2_ok nmX2 rfl 1 (by decide) (am_at in_wsX2_pop_0 0 rfl) rfl rfl rfl (Nat.le_of_ble_eq_true rfl) dX2_pop_14 (fun F10 H10 locs10 eF10 hP10 hS10 => ?_)
  have hF10 : F10 4 = .inr (2, [.ref (ad 5), .int (nI (k1 - 1))]) := by rw [eF10]; exact va_up_self _ _ _
  have hW10 := hW.up eF10 (ok_past ⟨k1 - 1, rfl, by omega⟩)
  have hFr10 := hFr.up eF10 (by simp <;> first | omega | (simp only [isC, isJ] at *; omega))
  have hE12 : M = m_X2_pop_11 (AB ad F10) rj := hM.trans ((show m_X2_pop (AB ad F) rj = m_X2_pop_11 (st (AB ad F) 4 1 (((AB ad F) 4 1) - (nI 1))) rj from by unfold m_X2_pop; rw [if_neg (nle_cg m2 rfl c3)]).trans (congr (congrArg (m_X2_pop_11) ((st_cg rfl rfl m9).trans (AB_put hF1 (Nat.le_of_ble_eq_true rfl) eF10).symm)) (Eq.refl rj)))
  refine lv_aload_n S.1 S.2.1 dX2_pop_17 rfl (lv_at hl0 1 rfl) ?_
  refine lv_aload_n S.1 S.2.1 dX2_pop_18 rfl (lv_at hl0 0 rfl) ?_
  refine r_get S hK hP10 4 (by decide) hF10 (C := RX2) (T := TX2) (N := 2) hiX2 rfl 0 (by decide) (am_at in_wsX2_pop_0 1 rfl) (v := .ref (ad 5)) rfl dX2_pop_19 ?_
  refine lv_aload_n S.1 S.2.1 dX2_pop_22 rfl (lv_at hl0 0 rfl) ?_
  refine r_get S hK hP10 4 (by decide) hF10 (C := RX2) (T := TX2) (N := 2) hiX2 rfl 1 (by decide) (am_at in_wsX2_pop_0 0 rfl) (v := .int (nI (k1 - 1))) rfl dX2_pop_23 ?_
  have m13 : ((AB ad F10) 4 1) = (nI (k1 - 1)) := AB_f hF10 rfl
  obtain ⟨g14, hF14, hg14⟩ := wt_kept hW10
  obtain ⟨j15, hj15, hg15⟩ := hg14 (k1 - 1) (by omega)
  refine r_aald S hK hP10 5 (by decide) hF14 (vp_in_nI (show k1 - 1 < 20 by omega) (by omega)) (a := ad j15) (by rw [nI_clamp (by omega)]; exact hg15) dX2_pop_26 ?_
  have m16 : (rl ((AB ad F10) 5 (rl ((AB ad F10) 4 1)))) = j15 := (congrArg rl (ab_cg (σ := AB ad F10) rfl m13)).trans (AB_q hI (lt_J (show isJ j15 from Or.inr (Or.inl hj15))) hF14 (by rw [show rl (nI (k1 - 1)) = (k1 - 1) from nI_clamp (by omega)]; exact hg15))
  obtain ⟨ja18, jb18, jc18, jd18, jx18, jy18, jk18, hF18, hk18⟩ := wt_J hW10 hrj
  refine r_cVv (As := [.ref (ad j15)]) (rest := []) S hK hZ hP10 hS10 hl0.1 rj (lt_J hrj) hF18 (C := RX1) rfl (c_X1_copy l D cA ad t hI F10 hW10 rj hrj j15 (show isJ j15 from Or.inr (Or.inl hj15))) (cwV 1 S.2.2.2.2 gX2_pop_X1_copy rfl rfl rfl (by decide +kernel) ⟨Nat.le_of_ble_eq_true rfl, Nat.le_of_ble_eq_true rfl⟩) rfl rfl (Nat.le_of_ble_eq_true rfl) ⟨Nat.zero_le _, Nat.zero_le _⟩ dX2_pop_27 (fun F17 H17 locs17 hr17 hP17 hS17 => ?_)
  obtain ⟨hW17, hFc17, hr17⟩ := hr17
  obtain ⟨hr17, hm17⟩ := hr17
  have hFr17 := hFr10.tr hFc17 (by simp <;> first | omega | (simp only [isC, isJ] at *; omega))
  have hE20 : M = m_X2_pop_19 (AB ad F17) rj := hE12.trans ((show m_X2_pop_11 (AB ad F10) rj = m_X2_pop_19 (m_X1_copy (AB ad F10) rj (rl ((AB ad F10) 5 (rl ((AB ad F10) 4 1))))) rj from rfl).trans (congr (congrArg (m_X2_pop_19) ((congr (congr (Eq.refl (m_X1_copy (AB ad F10))) (Eq.refl rj)) m16).trans hm17)) (Eq.refl rj)))
  have hE21 : M = AB ad F17 := hE20.trans ((show m_X2_pop_19 (AB ad F17) rj = (AB ad F17) from rfl).trans rfl)
  exact hret 30 _ _ _ _ dX2_pop_30 hP17 hS17 ⟨hW17, hFr17, ⟨trivial, hM.symm.trans hE21⟩⟩
noncomputable def m_X7_exitsOf_L4_3_b (k0 : SS → Int32 → Int32 → Int32 → Nat → Int32) (σ : SS) (a0 : Int32) (a1 : Int32) (a2 : Int32) (a3 : Nat) : Int32 :=
  if (nI 8) ≤ a0 then
    a1
  else
    if ((a2 >>> (a0 &&& 31)) &&& (nI 1)) = (0 : Int32) then
      k0 σ (a0 + Int32.ofInt (1)) a1 a2 a3
    else
      k0 σ (a0 + Int32.ofInt (1)) (a1 ||| (σ a3 (rl a0))) a2 a3
noncomputable def m_X7_exitsOf_L4_3 : Nat → SS → Int32 → Int32 → Int32 → Nat → Int32
  | 0 => fun σ _ _ _ _ => 0
  | n + 1 => m_X7_exitsOf_L4_3_b (m_X7_exitsOf_L4_3 n)
noncomputable def m_X7_exitsOf (σ : SS) (a0 : Int32) (a1 : Nat) : Int32 :=
  m_X7_exitsOf_L4_3 2000 σ (nI 0) (nI 0) a0 a1
set_option maxHeartbeats 4000000 in
set_option maxRecDepth 100000 in
theorem c_X7_exitsOf (l : Launch) (D : va_G) (cA ad : Nat → Nat) (t : Nat) (hI : rI ad) (F : Nat → va_E) (hW : WT cA ad F) (p1 : Int32) (ra : Nat) (hra : (ra, 8) ∈ rLI) (hura : ra ∉ [60, 61, 62, 63, 64, 66]) : MP l D cA ad t yX7_exitsOf wsX7_exitsOf { frames := 0, cells := 0, slots := 0, locals := 0 } [.int p1, .ref (ad ra)] F (fun r => (True) ∧ m_X7_exitsOf (AB ad F) p1 ra = r) := by
  refine en_P rfl (by decide +kernel) (Nat.le_of_ble_eq_true rfl) ?_
  intro p e s m args below meth c ls0 Q S hK hZ hP hS hl0 hret
  have hl0 : lv_has ls0 4 [(0, .int p1), (1, .ref (ad ra))] := hl0
  obtain ⟨M, hM⟩ : ∃ M, M = m_X7_exitsOf (AB ad F) p1 ra := ⟨_, rfl⟩
  refine lv_iconst (v := (nI 0)) S.1 S.2.1 dX7_exitsOf_0 (by decide +kernel) ?_
  refine lv_istore_n (lv' := [(2, .int (nI 0)), (0, .int p1), (1, .ref (ad ra))]) S.1 S.2.1 dX7_exitsOf_1 rfl hl0 (by decide) rfl (fun ls1 hl1 => ?_)
  refine lv_iconst (v := (nI 0)) S.1 S.2.1 dX7_exitsOf_2 (by decide +kernel) ?_
  refine lv_istore_n (lv' := [(3, .int (nI 0)), (2, .int (nI 0)), (0, .int p1), (1, .ref (ad ra))]) S.1 S.2.1 dX7_exitsOf_3 rfl hl1 (by decide) rfl (fun ls2 hl2 => ?_)
  have lp3 : ∀ (n3 : Nat) (q33 : Nat) (x3_2 : Int32), q33 ≤ 8 → 8 - q33 < n3 → M = m_X7_exitsOf_L4_3 n3 (AB ad F) (nI q33) x3_2 p1 ra → ∀ (ls : Array Slot), lv_has ls 4 [(3, .int (nI q33)), (2, .int x3_2), (0, .int p1), (1, .ref (ad ra))] → W p l e { frames := 0, cells := 0, slots := 0, locals := 0 } s m args below meth c s.heap [] 0 0 Q (F0 m 4 ls []) := by
    intro n3
    induction n3 with
    | zero =>
      intro q33 x3_2 iv3_0 hm3 hEl3 ls3 hl3
      exact absurd hm3 (Nat.not_lt_zero _)
    | succ n3 ih3 =>
      intro q33 x3_2 iv3_0 hm3 hEl3 ls3 hl3
      have hE4 : M = m_X7_exitsOf_L4_3_b (m_X7_exitsOf_L4_3 n3) (AB ad F) (nI q33) x3_2 p1 ra := hEl3
      refine lv_iload_n S.1 S.2.1 dX7_exitsOf_4 rfl (lv_at hl3 0 rfl) ?_
      refine lv_aload_n S.1 S.2.1 dX7_exitsOf_5 rfl (lv_at hl3 3 rfl) ?_
      obtain ⟨g5, hF5, hg5⟩ := wt_I hW hra
      refine r_alen S hK hP ra (lt_I hra) 0 hF5 rfl dX7_exitsOf_6 ?_
      refine lv_icmp_ge (tgt := 30) S.1 S.2.1 dX7_exitsOf_7 (by decide) (fun c6 => ?_) (fun c6 => ?_)
      · skip
        have k7 := ci_le (nI_toInt (n := 8) (by decide)) (nI_toInt (n := q33) (by omega)) c6
        refine lv_iload_n S.1 S.2.1 dX7_exitsOf_30 rfl (lv_at hl3 1 rfl) ?_
        have hE8 : M = x3_2 := hE4.trans ((show m_X7_exitsOf_L4_3_b (m_X7_exitsOf_L4_3 n3) (AB ad F) (nI q33) x3_2 p1 ra = x3_2 from by unfold m_X7_exitsOf_L4_3_b; rw [if_pos (le_cg rfl rfl c6)]).trans rfl)
        exact hret 31 _ _ dX7_exitsOf_31 rfl (⟨trivial, hM.symm.trans hE8⟩)
      have k9 := ci_nle (nI_toInt (n := 8) (by decide)) (nI_toInt (n := q33) (by omega)) c6
      refine lv_iload_n S.1 S.2.1 dX7_exitsOf_10 rfl (lv_at hl3 2 rfl) ?_
      refine lv_iload_n S.1 S.2.1 dX7_exitsOf_11 rfl (lv_at hl3 0 rfl) ?_
      refine lv_ishr S.1 S.2.1 dX7_exitsOf_12 ?_
      refine lv_topi (fun v10 e10 => ?_)
      have m11 : (p1 >>> ((nI q33) &&& 31)) = v10 := cg2 (fun (x : Int32) (y : Int32) => x >>> (y &&& 31)) (Eq.refl (p1 : Int32)) (Eq.refl ((nI q33) : Int32)) e10
      refine lv_iconst (v := (nI 1)) S.1 S.2.1 dX7_exitsOf_13 (by decide +kernel) ?_
      refine lv_iand S.1 S.2.1 dX7_exitsOf_14 ?_
      refine lv_topi (fun v12 e12 => ?_)
      have m13 : ((p1 >>> ((nI q33) &&& 31)) &&& (nI 1)) = v12 := cg2 (fun (x : Int32) (y : Int32) => x &&& y) m11 (Eq.refl ((nI 1) : Int32)) e12
      refine lv_if_eq (tgt := 24) S.1 S.2.1 dX7_exitsOf_15 (by decide) (fun c14 => ?_) (fun c14 => ?_)
      · skip
        have k15 := ci_eq rfl z_ti c14
        have m17 : ((nI q33) + Int32.ofInt (1)) = (nI (q33 + 1)) := (congrArg (fun q : Int32 => q + Int32.ofInt (1)) rfl).trans (nI_add _ 1)
        refine lv_iinc (v := (nI (q33 + 1))) (lv' := [(3, .int (nI (q33 + 1))), (2, .int x3_2), (0, .int p1), (1, .ref (ad ra))]) S.1 S.2.1 dX7_exitsOf_24 hl3 (k := 0) rfl (nI_add _ 1) (by decide) rfl (fun ls16 hl16 => ?_)
        refine lv_goto (tgt := 4) S.1 S.2.1 dX7_exitsOf_27 (by decide) ?_
        have hE18 : M = (m_X7_exitsOf_L4_3 n3) (AB ad F) (nI (q33 + 1)) x3_2 p1 ra := hE4.trans ((show m_X7_exitsOf_L4_3_b (m_X7_exitsOf_L4_3 n3) (AB ad F) (nI q33) x3_2 p1 ra = (m_X7_exitsOf_L4_3 n3) (AB ad F) ((nI q33) + Int32.ofInt (1)) x3_2 p1 ra from by unfold m_X7_exitsOf_L4_3_b; rw [if_neg (nle_cg rfl rfl c6), if_pos (eq_cg m13 rfl c14)]).trans (congr (congr (congr (congr (congrArg ((m_X7_exitsOf_L4_3 n3)) (rfl : AB ad F = AB ad F)) m17) (Eq.refl (x3_2 : Int32))) (Eq.refl (p1 : Int32))) (Eq.refl ra)))
        exact ih3 (q33 + 1) (x3_2) (by omega) (by omega) hE18 ls16 (lv_sub hl16 [0, 1, 2, 3] rfl)
      have k19 := ci_ne rfl z_ti c14
      refine lv_iload_n S.1 S.2.1 dX7_exitsOf_18 rfl (lv_at hl3 1 rfl) ?_
      refine lv_aload_n S.1 S.2.1 dX7_exitsOf_19 rfl (lv_at hl3 3 rfl) ?_
      refine lv_iload_n S.1 S.2.1 dX7_exitsOf_20 rfl (lv_at hl3 0 rfl) ?_
      refine r_iald S hK hP ra (lt_I hra) hF5 (vp_in_nI (show q33 < 8 by omega) (by omega)) dX7_exitsOf_21 ?_
      refine lv_topi (fun v21 e21 => ?_)
      have m22 : ((AB ad F) ra (rl (nI q33))) = v21 := (ab_cg rfl rfl).trans ((AB_g hF5).trans e21.symm)
      refine lv_ior S.1 S.2.1 dX7_exitsOf_22 ?_
      refine lv_topi (fun v23 e23 => ?_)
      have m24 : (x3_2 ||| ((AB ad F) ra (rl (nI q33)))) = v23 := cg2 (fun (x : Int32) (y : Int32) => x ||| y) (Eq.refl (x3_2 : Int32)) m22 e23
      refine lv_istore_n (lv' := [(2, .int v23), (3, .int (nI q33)), (0, .int p1), (1, .ref (ad ra))]) S.1 S.2.1 dX7_exitsOf_23 rfl hl3 (by decide) rfl (fun ls25 hl25 => ?_)
      have m27 : ((nI q33) + Int32.ofInt (1)) = (nI (q33 + 1)) := (congrArg (fun q : Int32 => q + Int32.ofInt (1)) rfl).trans (nI_add _ 1)
      refine lv_iinc (v := (nI (q33 + 1))) (lv' := [(3, .int (nI (q33 + 1))), (2, .int v23), (0, .int p1), (1, .ref (ad ra))]) S.1 S.2.1 dX7_exitsOf_24 hl25 (k := 1) rfl (nI_add _ 1) (by decide) rfl (fun ls26 hl26 => ?_)
      refine lv_goto (tgt := 4) S.1 S.2.1 dX7_exitsOf_27 (by decide) ?_
      have hE28 : M = (m_X7_exitsOf_L4_3 n3) (AB ad F) (nI (q33 + 1)) v23 p1 ra := hE4.trans ((show m_X7_exitsOf_L4_3_b (m_X7_exitsOf_L4_3 n3) (AB ad F) (nI q33) x3_2 p1 ra = (m_X7_exitsOf_L4_3 n3) (AB ad F) ((nI q33) + Int32.ofInt (1)) (x3_2 ||| ((AB ad F) ra (rl (nI q33)))) p1 ra from by unfold m_X7_exitsOf_L4_3_b; rw [if_neg (nle_cg rfl rfl c6), if_neg (neq_cg m13 rfl c14)]).trans (congr (congr (congr (congr (congrArg ((m_X7_exitsOf_L4_3 n3)) (rfl : AB ad F = AB ad F)) m27) m24) (Eq.refl (p1 : Int32))) (Eq.refl ra)))
      exact ih3 (q33 + 1) (v23) (by omega) (by omega) hE28 ls26 (lv_sub hl26 [0, 1, 2, 3] rfl)
  have hE29 : M = m_X7_exitsOf_L4_3 2000 (AB ad F) (nI 0) (nI 0) p1 ra := hM.trans ((show m_X7_exitsOf (AB ad F) p1 ra = m_X7_exitsOf_L4_3 2000 (AB ad F) (nI 0) (nI 0) p1 ra from rfl).trans (congr (congr (congr (congr (congrArg (m_X7_exitsOf_L4_3 2000) (rfl : AB ad F = AB ad F)) (Eq.refl ((nI 0) : Int32))) (Eq.refl ((nI 0) : Int32))) (Eq.refl (p1 : Int32))) (Eq.refl ra)))
  exact lp3 2000 (0) ((nI 0)) (by omega) (by omega) hE29 ls2 (lv_sub hl2 [0, 1, 2, 3] rfl)
