noncomputable def m_X0_clear_15 (σ : SS) (a0 : Nat) : SS :=
  σ
noncomputable def m_X0_clear_12 (σ : SS) (a0 : Nat) : SS :=
  m_X0_clear_15 (st σ a0 4 (nI 0)) a0
noncomputable def m_X0_clear_9 (σ : SS) (a0 : Nat) : SS :=
  m_X0_clear_12 (st σ a0 3 (nI 0)) a0
noncomputable def m_X0_clear_6 (σ : SS) (a0 : Nat) : SS :=
  m_X0_clear_9 (st σ a0 2 (nI 0)) a0
noncomputable def m_X0_clear_3 (σ : SS) (a0 : Nat) : SS :=
  m_X0_clear_6 (st σ a0 1 (nI 0)) a0
noncomputable def m_X0_clear (σ : SS) (a0 : Nat) : SS :=
  m_X0_clear_3 (st σ a0 0 (nI 0)) a0
set_option maxHeartbeats 4000000 in
set_option maxRecDepth 100000 in
theorem c_X0_clear (l : Launch) (D : va_G) (cA ad : Nat → Nat) (t : Nat) (hI : rI ad) (F : Nat → va_E) (hW : WT cA ad F) (rc : Nat) (hrc : isC rc) : MV l D cA ad t yX0_clear wsX0_clear { frames := 0, cells := 0, slots := 0, locals := 0 } [.ref (ad rc)] F (fun F' => WT cA ad F' ∧ rFr [rc] F F' ∧ ((True) ∧ m_X0_clear (AB ad F) rc = AB ad F')) := by
  refine en_V rfl (by decide +kernel) (Nat.le_of_ble_eq_true rfl) ?_
  intro p e s m args below meth c ls0 Q S hK hZ hP hS hl0 hret
  have hl0 : lv_has ls0 1 [(0, .ref (ad rc))] := hl0
  have hFr : rFr [rc] F F := rFr.rf
  have hiX0 : ∀ w ∈ u_ws RX0 TX0 10, w ∈ wsX0_clear := in_wsX0_clear_1
  obtain ⟨M, hM⟩ : ∃ M, M = m_X0_clear (AB ad F) rc := ⟨_, rfl⟩
  refine lv_aload_n S.1 S.2.1 dX0_clear_0 rfl (lv_at hl0 0 rfl) ?_
  refine lv_iconst (v := (nI 0)) S.1 S.2.1 dX0_clear_1 (by decide +kernel) ?_
  obtain ⟨sl1, fm1, tn1, rn1, bn1, hF1, hb1_1, hb1_2, hb1_3⟩ := wt_C hW hrc
  refine r_put S hI hK hP hS rc (lt_C hrc) hF1 (C := RX0) (T := TX0) (N := 10) hiX0 tyX0_ok nmX0 rfl 0 (by decide) (am_at in_wsX0_clear_0 0 rfl) rfl rfl rfl (Nat.le_of_ble_eq_true rfl) dX0_clear_2 (fun F2 H2 locs2 eF2 hP2 hS2 => ?_)
  have hF2 : F2 rc = .inr (0, [.int (nI 0), .int fm1, .int (nI tn1), .int (nI rn1), .int bn1, .ref (ad (rc + 1)), .ref (ad (rc + 2)), .ref (ad (rc + 3)), .ref (ad (rc + 4)), .ref (ad (rc + 5))]) := by rw [eF2]; exact va_up_self _ _ _
  have hW2 := hW.up eF2 (ok_C hrc ⟨0, fm1, tn1, rn1, bn1, rfl, by omega, by omega, by omega⟩)
  have hFr2 := hFr.up eF2 (by simp <;> first | omega | (simp only [isC, isJ] at *; omega))
  have hE4 : M = m_X0_clear_3 (AB ad F2) rc := hM.trans ((show m_X0_clear (AB ad F) rc = m_X0_clear_3 (st (AB ad F) rc 0 (nI 0)) rc from rfl).trans (congr (congrArg (m_X0_clear_3) ((st_cg rfl rfl rfl).trans (AB_put hF1 (Nat.le_of_ble_eq_true rfl) eF2).symm)) (Eq.refl rc)))
  refine lv_aload_n S.1 S.2.1 dX0_clear_5 rfl (lv_at hl0 0 rfl) ?_
  refine lv_iconst (v := (nI 0)) S.1 S.2.1 dX0_clear_6 (by decide +kernel) ?_
  refine r_put S hI hK hP2 hS2 rc (lt_C hrc) hF2 (C := RX0) (T := TX0) (N := 10) hiX0 tyX0_ok nmX0 rfl 1 (by decide) (am_at in_wsX0_clear_0 1 rfl) rfl rfl rfl (Nat.le_of_ble_eq_true rfl) dX0_clear_7 (fun F5 H5 locs5 eF5 hP5 hS5 => ?_)
  have hF5 : F5 rc = .inr (0, [.int (nI 0), .int (nI 0), .int (nI tn1), .int (nI rn1), .int bn1, .ref (ad (rc + 1)), .ref (ad (rc + 2)), .ref (ad (rc + 3)), .ref (ad (rc + 4)), .ref (ad (rc + 5))]) := by rw [eF5]; exact va_up_self _ _ _
  have hW5 := hW2.up eF5 (ok_C hrc ⟨0, (nI 0), tn1, rn1, bn1, rfl, by omega, by omega, by omega⟩)
  have hFr5 := hFr2.up eF5 (by simp <;> first | omega | (simp only [isC, isJ] at *; omega))
  have hE7 : M = m_X0_clear_6 (AB ad F5) rc := hE4.trans ((show m_X0_clear_3 (AB ad F2) rc = m_X0_clear_6 (st (AB ad F2) rc 1 (nI 0)) rc from rfl).trans (congr (congrArg (m_X0_clear_6) ((st_cg rfl rfl rfl).trans (AB_put hF2 (Nat.le_of_ble_eq_true rfl) eF5).symm)) (Eq.refl rc)))
  refine lv_aload_n S.1 S.2.1 dX0_clear_10 rfl (lv_at hl0 0 rfl) ?_
  refine lv_iconst (v := (nI 0)) S.1 S.2.1 dX0_clear_11 (by decide +kernel) ?_
  refine r_put S hI hK hP5 hS5 rc (lt_C hrc) hF5 (C := RX0) (T := TX0) (N := 10) hiX0 tyX0_ok nmX0 rfl 2 (by decide) (am_at in_wsX0_clear_0 2 rfl) rfl rfl rfl (Nat.le_of_ble_eq_true rfl) dX0_clear_12 (fun F8 H8 locs8 eF8 hP8 hS8 => ?_)
  have hF8 : F8 rc = .inr (0, [.int (nI 0), .int (nI 0), .int (nI 0), .int (nI rn1), .int bn1, .ref (ad (rc + 1)), .ref (ad (rc + 2)), .ref (ad (rc + 3)), .ref (ad (rc + 4)), .ref (ad (rc + 5))]) := by rw [eF8]; exact va_up_self _ _ _
  have hW8 := hW5.up eF8 (ok_C hrc ⟨0, (nI 0), 0, rn1, bn1, rfl, by omega, by omega, by omega⟩)
  have hFr8 := hFr5.up eF8 (by simp <;> first | omega | (simp only [isC, isJ] at *; omega))
  have hE10 : M = m_X0_clear_9 (AB ad F8) rc := hE7.trans ((show m_X0_clear_6 (AB ad F5) rc = m_X0_clear_9 (st (AB ad F5) rc 2 (nI 0)) rc from rfl).trans (congr (congrArg (m_X0_clear_9) ((st_cg rfl rfl rfl).trans (AB_put hF5 (Nat.le_of_ble_eq_true rfl) eF8).symm)) (Eq.refl rc)))
  refine lv_aload_n S.1 S.2.1 dX0_clear_15 rfl (lv_at hl0 0 rfl) ?_
  refine lv_iconst (v := (nI 0)) S.1 S.2.1 dX0_clear_16 (by decide +kernel) ?_
  refine r_put S hI hK hP8 hS8 rc (lt_C hrc) hF8 (C := RX0) (T := TX0) (N := 10) hiX0 tyX0_ok nmX0 rfl 3 (by decide) (am_at in_wsX0_clear_0 3 rfl) rfl rfl rfl (Nat.le_of_ble_eq_true rfl) dX0_clear_17 (fun F11 H11 locs11 eF11 hP11 hS11 => ?_)
  have hF11 : F11 rc = .inr (0, [.int (nI 0), .int (nI 0), .int (nI 0), .int (nI 0), .int bn1, .ref (ad (rc + 1)), .ref (ad (rc + 2)), .ref (ad (rc + 3)), .ref (ad (rc + 4)), .ref (ad (rc + 5))]) := by rw [eF11]; exact va_up_self _ _ _
  have hW11 := hW8.up eF11 (ok_C hrc ⟨0, (nI 0), 0, 0, bn1, rfl, by omega, by omega, by omega⟩)
  have hFr11 := hFr8.up eF11 (by simp <;> first | omega | (simp only [isC, isJ] at *; omega))
  have hE13 : M = m_X0_clear_12 (AB ad F11) rc := hE10.trans ((show m_X0_clear_9 (AB ad F8) rc = m_X0_clear_12 (st (AB ad F8) rc 3 (nI 0)) rc from rfl).trans (congr (congrArg (m_X0_clear_12) ((st_cg rfl rfl rfl).trans (AB_put hF8 (Nat.le_of_ble_eq_true rfl) eF11).symm)) (Eq.refl rc)))
  refine lv_aload_n S.1 S.2.1 dX0_clear_20 rfl (lv_at hl0 0 rfl) ?_
  refine lv_iconst (v := (nI 0)) S.1 S.2.1 dX0_clear_21 (by decide +kernel) ?_
  refine r_put S hI hK hP11 hS11 rc (lt_C hrc) hF11 (C := RX0) (T := TX0) (N := 10) hiX0 tyX0_ok nmX0 rfl 4 (by decide) (am_at in_wsX0_clear_0 4 rfl) rfl rfl rfl (Nat.le_of_ble_eq_true rfl) dX0_clear_22 (fun F14 H14 locs14 eF14 hP14 hS14 => ?_)
  have hF14 : F14 rc = .inr (0, [.int (nI 0), .int (nI 0), .int (nI 0), .int (nI 0), .int (nI 0), .ref (ad (rc + 1)), .ref (ad (rc + 2)), .ref (ad (rc + 3)), .ref (ad (rc + 4)), .ref (ad (rc + 5))]) := by rw [eF14]; exact va_up_self _ _ _
  have hW14 := hW11.up eF14 (ok_C hrc ⟨0, (nI 0), 0, 0, (nI 0), rfl, by omega, by omega, by omega⟩)
  have hFr14 := hFr11.up eF14 (by simp <;> first | omega | (simp only [isC, isJ] at *; omega))
  have hE16 : M = m_X0_clear_15 (AB ad F14) rc := hE13.trans ((show m_X0_clear_12 (AB ad F11) rc = m_X0_clear_15 (st (AB ad F11) rc 4 (nI 0)) rc from rfl).trans (congr (congrArg (m_X0_clear_15) ((st_cg rfl rfl rfl).trans (AB_put hF11 (Nat.le_of_ble_eq_true rfl) eF14).symm)) (Eq.refl rc)))
  have hE17 : M = AB ad F14 := hE16.trans ((show m_X0_clear_15 (AB ad F14) rc = (AB ad F14) from rfl).trans rfl)
  exact hret 25 _ _ _ _ dX0_clear_25 hP14 hS14 ⟨hW14, hFr14, ⟨trivial, hM.symm.trans hE17⟩⟩
noncomputable def m_X0_addTown_53 (σ : SS) (a0 : Nat) (a1 : Int32) (a2 : Int32) (a3 : Int32) : SS :=
  σ
noncomputable def m_X0_addTown_47 (σ : SS) (a0 : Nat) (a1 : Int32) (a2 : Int32) (a3 : Int32) : SS :=
  m_X0_addTown_53 (st σ a0 2 ((σ a0 2) + (nI 1))) a0 a1 a2 a3
noncomputable def m_X0_addTown_37 (σ : SS) (a0 : Nat) (a1 : Int32) (a2 : Int32) (a3 : Int32) : SS :=
  σ
noncomputable def m_X0_addTown_31 (σ : SS) (a0 : Nat) (a1 : Int32) (a2 : Int32) (a3 : Int32) : SS :=
  m_X0_addTown_37 (st σ a0 2 ((σ a0 2) + (nI 1))) a0 a1 a2 a3
noncomputable def m_X0_addTown_22 (σ : SS) (a0 : Nat) (a1 : Int32) (a2 : Int32) (a3 : Int32) : SS :=
  if (nI 50) ≤ a1 then
    m_X0_addTown_31 (st σ a0 4 ((σ a0 4) ||| (nI 0))) a0 a1 a2 a3
  else
    m_X0_addTown_47 (st σ a0 4 ((σ a0 4) ||| ((nI 1) <<< ((σ a0 2) &&& 31)))) a0 a1 a2 a3
noncomputable def m_X0_addTown_16 (σ : SS) (a0 : Nat) (a1 : Int32) (a2 : Int32) (a3 : Int32) : SS :=
  m_X0_addTown_22 (st σ (a0 + 3) (rl (σ a0 2)) a3) a0 a1 a2 a3
noncomputable def m_X0_addTown_10 (σ : SS) (a0 : Nat) (a1 : Int32) (a2 : Int32) (a3 : Int32) : SS :=
  m_X0_addTown_16 (st σ (a0 + 2) (rl (σ a0 2)) a2) a0 a1 a2 a3
noncomputable def m_X0_addTown (σ : SS) (a0 : Nat) (a1 : Int32) (a2 : Int32) (a3 : Int32) : SS :=
  if (nI 8) ≤ (σ a0 2) then
    σ
  else
    m_X0_addTown_10 (st σ (a0 + 1) (rl (σ a0 2)) a1) a0 a1 a2 a3
set_option maxHeartbeats 4000000 in
set_option maxRecDepth 100000 in
theorem c_X0_addTown (l : Launch) (D : va_G) (cA ad : Nat → Nat) (t : Nat) (hI : rI ad) (F : Nat → va_E) (hW : WT cA ad F) (rc : Nat) (hrc : isC rc) (p1 : Int32) (p2 : Int32) (p3 : Int32) : MV l D cA ad t yX0_addTown wsX0_addTown { frames := 0, cells := 0, slots := 0, locals := 0 } [.ref (ad rc), .int p1, .int p2, .int p3] F (fun F' => WT cA ad F' ∧ rFr [rc, rc + 1, rc + 2, rc + 3] F F' ∧ ((True) ∧ m_X0_addTown (AB ad F) rc p1 p2 p3 = AB ad F')) := by
  refine en_V rfl (by decide +kernel) (Nat.le_of_ble_eq_true rfl) ?_
  intro p e s m args below meth c ls0 Q S hK hZ hP hS hl0 hret
  have hl0 : lv_has ls0 4 [(0, .ref (ad rc)), (1, .int p1), (2, .int p2), (3, .int p3)] := hl0
  have hFr : rFr [rc, rc + 1, rc + 2, rc + 3] F F := rFr.rf
  have hiX0 : ∀ w ∈ u_ws RX0 TX0 10, w ∈ wsX0_addTown := in_wsX0_addTown_1
  obtain ⟨M, hM⟩ : ∃ M, M = m_X0_addTown (AB ad F) rc p1 p2 p3 := ⟨_, rfl⟩
  refine lv_aload_n S.1 S.2.1 dX0_addTown_0 rfl (lv_at hl0 0 rfl) ?_
  obtain ⟨sl1, fm1, tn1, rn1, bn1, hF1, hb1_1, hb1_2, hb1_3⟩ := wt_C hW hrc
  refine r_get S hK hP rc (lt_C hrc) hF1 (C := RX0) (T := TX0) (N := 10) hiX0 rfl 2 (by decide) (am_at in_wsX0_addTown_0 0 rfl) (v := .int (nI tn1)) rfl dX0_addTown_1 ?_
  have m2 : ((AB ad F) rc 2) = (nI tn1) := (congrArg (fun q => AB ad F q 2) rfl).trans (AB_f hF1 rfl)
  refine lv_bipush (v := (nI 8)) S.1 S.2.1 dX0_addTown_4 (by decide +kernel) ?_
  refine lv_icmp_ge (tgt := 74) S.1 S.2.1 dX0_addTown_6 (by decide) (fun c3 => ?_) (fun c3 => ?_)
  · skip
    have k4 := ci_le (nI_toInt (n := 8) (by decide)) (nI_toInt (n := tn1) (by omega)) c3
    have hE5 : M = AB ad F := hM.trans ((show m_X0_addTown (AB ad F) rc p1 p2 p3 = (AB ad F) from by unfold m_X0_addTown; rw [if_pos (le_cg rfl m2 c3)]).trans rfl)
    exact hret 74 _ _ _ _ dX0_addTown_74 hP hS ⟨hW, hFr, ⟨trivial, hM.symm.trans hE5⟩⟩
  have k6 := ci_nle (nI_toInt (n := 8) (by decide)) (nI_toInt (n := tn1) (by omega)) c3
  refine lv_aload_n S.1 S.2.1 dX0_addTown_9 rfl (lv_at hl0 0 rfl) ?_
  refine r_get S hK hP rc (lt_C hrc) hF1 (C := RX0) (T := TX0) (N := 10) hiX0 rfl 5 (by decide) (am_at in_wsX0_addTown_0 1 rfl) (v := .ref (ad (rc + 1))) rfl dX0_addTown_10 ?_
  refine lv_aload_n S.1 S.2.1 dX0_addTown_13 rfl (lv_at hl0 0 rfl) ?_
  refine r_get S hK hP rc (lt_C hrc) hF1 (C := RX0) (T := TX0) (N := 10) hiX0 rfl 2 (by decide) (am_at in_wsX0_addTown_0 0 rfl) (v := .int (nI tn1)) rfl dX0_addTown_14 ?_
  have m7 : ((AB ad F) rc 2) = (nI tn1) := (congrArg (fun q => AB ad F q 2) rfl).trans (AB_f hF1 rfl)
  refine lv_iload_n S.1 S.2.1 dX0_addTown_17 rfl (lv_at hl0 1 rfl) ?_
  obtain ⟨g8, hF8, hg8⟩ := wt_I hW (C1_I hrc)
  refine r_iast S hI hK hP hS (rc + 1) (lt_I (C1_I hrc)) hF8 (vp_in_nI (show tn1 < 8 by omega) (by omega)) dX0_addTown_18 (fun F9 H9 locs9 eF9 hP9 hS9 => ?_)
  have hW9 := hW.up eF9 (ok_I (C1_I hrc) (okI_up hg8 (pr_of (C_u hrc (by decide) (by decide)))))
  have hFr9 := hFr.up eF9 (by simp <;> first | omega | (simp only [isC, isJ] at *; omega))
  have hE11 : M = m_X0_addTown_10 (AB ad F9) rc p1 p2 p3 := hM.trans ((show m_X0_addTown (AB ad F) rc p1 p2 p3 = m_X0_addTown_10 (st (AB ad F) (rc + 1) (rl ((AB ad F) rc 2)) p1) rc p1 p2 p3 from by unfold m_X0_addTown; rw [if_neg (nle_cg rfl m2 c3)]).trans (congr (congr (congr (congr (congrArg (m_X0_addTown_10) ((st_cg (congrArg (fun q : Nat => q + 1) (Eq.refl rc)) (congrArg rl m7) rfl).trans (AB_ast hF8 eF9).symm)) (Eq.refl rc)) (Eq.refl (p1 : Int32))) (Eq.refl (p2 : Int32))) (Eq.refl (p3 : Int32))))
  refine lv_aload_n S.1 S.2.1 dX0_addTown_19 rfl (lv_at hl0 0 rfl) ?_
  have hF12 := (show F9 rc = F rc by rw [eF9]; exact va_up_ne _ _ (by have hh1 := hrc; unfold isC at hh1; omega)).trans hF1
  refine r_get S hK hP9 rc (lt_C hrc) hF12 (C := RX0) (T := TX0) (N := 10) hiX0 rfl 6 (by decide) (am_at in_wsX0_addTown_0 2 rfl) (v := .ref (ad (rc + 2))) rfl dX0_addTown_20 ?_
  refine lv_aload_n S.1 S.2.1 dX0_addTown_23 rfl (lv_at hl0 0 rfl) ?_
  refine r_get S hK hP9 rc (lt_C hrc) hF12 (C := RX0) (T := TX0) (N := 10) hiX0 rfl 2 (by decide) (am_at in_wsX0_addTown_0 0 rfl) (v := .int (nI tn1)) rfl dX0_addTown_24 ?_
  have m13 : ((AB ad F9) rc 2) = (nI tn1) := (congrArg (fun q => AB ad F9 q 2) rfl).trans (AB_f hF12 rfl)
  refine lv_iload_n S.1 S.2.1 dX0_addTown_27 rfl (lv_at hl0 2 rfl) ?_
  obtain ⟨g14, hF14, hg14⟩ := wt_I hW9 (C2_I hrc)
  refine r_iast S hI hK hP9 hS9 (rc + 2) (lt_I (C2_I hrc)) hF14 (vp_in_nI (show tn1 < 8 by omega) (by omega)) dX0_addTown_28 (fun F15 H15 locs15 eF15 hP15 hS15 => ?_)
  have hW15 := hW9.up eF15 (ok_I (C2_I hrc) (okI_up hg14 (pr_of (C_u hrc (by decide) (by decide)))))
  have hFr15 := hFr9.up eF15 (by simp <;> first | omega | (simp only [isC, isJ] at *; omega))
  have hE17 : M = m_X0_addTown_16 (AB ad F15) rc p1 p2 p3 := hE11.trans ((show m_X0_addTown_10 (AB ad F9) rc p1 p2 p3 = m_X0_addTown_16 (st (AB ad F9) (rc + 2) (rl ((AB ad F9) rc 2)) p2) rc p1 p2 p3 from rfl).trans (congr (congr (congr (congr (congrArg (m_X0_addTown_16) ((st_cg (congrArg (fun q : Nat => q + 2) (Eq.refl rc)) (congrArg rl m13) rfl).trans (AB_ast hF14 eF15).symm)) (Eq.refl rc)) (Eq.refl (p1 : Int32))) (Eq.refl (p2 : Int32))) (Eq.refl (p3 : Int32))))
  refine lv_aload_n S.1 S.2.1 dX0_addTown_29 rfl (lv_at hl0 0 rfl) ?_
  have hF18 := (show F15 rc = F9 rc by rw [eF15]; exact va_up_ne _ _ (by have hh1 := hrc; unfold isC at hh1; omega)).trans hF12
  refine r_get S hK hP15 rc (lt_C hrc) hF18 (C := RX0) (T := TX0) (N := 10) hiX0 rfl 7 (by decide) (am_at in_wsX0_addTown_0 3 rfl) (v := .ref (ad (rc + 3))) rfl dX0_addTown_30 ?_
  refine lv_aload_n S.1 S.2.1 dX0_addTown_33 rfl (lv_at hl0 0 rfl) ?_
  refine r_get S hK hP15 rc (lt_C hrc) hF18 (C := RX0) (T := TX0) (N := 10) hiX0 rfl 2 (by decide) (am_at in_wsX0_addTown_0 0 rfl) (v := .int (nI tn1)) rfl dX0_addTown_34 ?_
  have m19 : ((AB ad F15) rc 2) = (nI tn1) := (congrArg (fun q => AB ad F15 q 2) rfl).trans (AB_f hF18 rfl)
  refine lv_iload_n S.1 S.2.1 dX0_addTown_37 rfl (lv_at hl0 3 rfl) ?_
  obtain ⟨g20, hF20, hg20⟩ := wt_I hW15 (C3_I hrc)
  refine r_iast S hI hK hP15 hS15 (rc + 3) (lt_I (C3_I hrc)) hF20 (vp_in_nI (show tn1 < 8 by omega) (by omega)) dX0_addTown_38 (fun F21 H21 locs21 eF21 hP21 hS21 => ?_)
  have hW21 := hW15.up eF21 (ok_I (C3_I hrc) (okI_up hg20 (pr_of (C_u hrc (by decide) (by decide)))))
  have hFr21 := hFr15.up eF21 (by simp <;> first | omega | (simp only [isC, isJ] at *; omega))
  have hE23 : M = m_X0_addTown_22 (AB ad F21) rc p1 p2 p3 := hE17.trans ((show m_X0_addTown_16 (AB ad F15) rc p1 p2 p3 = m_X0_addTown_22 (st (AB ad F15) (rc + 3) (rl ((AB ad F15) rc 2)) p3) rc p1 p2 p3 from rfl).trans (congr (congr (congr (congr (congrArg (m_X0_addTown_22) ((st_cg (congrArg (fun q : Nat => q + 3) (Eq.refl rc)) (congrArg rl m19) rfl).trans (AB_ast hF20 eF21).symm)) (Eq.refl rc)) (Eq.refl (p1 : Int32))) (Eq.refl (p2 : Int32))) (Eq.refl (p3 : Int32))))
  refine lv_aload_n S.1 S.2.1 dX0_addTown_39 rfl (lv_at hl0 0 rfl) ?_
  refine lv_dup S.1 S.2.1 dX0_addTown_40 rfl ?_
  have hF24 := (show F21 rc = F15 rc by rw [eF21]; exact va_up_ne _ _ (by have hh1 := hrc; unfold isC at hh1; omega)).trans hF18
  refine r_get S hK hP21 rc (lt_C hrc) hF24 (C := RX0) (T := TX0) (N := 10) hiX0 rfl 4 (by decide) (am_at in_wsX0_addTown_0 4 rfl) (v := .int bn1) rfl dX0_addTown_41 ?_
  have m25 : ((AB ad F21) rc 4) = bn1 := (congrArg (fun q => AB ad F21 q 4) rfl).trans (AB_f hF24 rfl)
  refine lv_iload_n S.1 S.2.1 dX0_addTown_44 rfl (lv_at hl0 1 rfl) ?_
  refine lv_bipush (v := (nI 50)) S.1 S.2.1 dX0_addTown_45 (by decide +kernel) ?_
  refine lv_icmp_ge (tgt := 59) S.1 S.2.1 dX0_addTown_47 (by decide) (fun c26 => ?_) (fun c26 => ?_)
  · skip
    have k27 := ci_le (nI_toInt (n := 50) (by decide)) rfl c26
    refine lv_iconst (v := (nI 0)) S.1 S.2.1 dX0_addTown_59 (by decide +kernel) ?_
    refine lv_ior S.1 S.2.1 dX0_addTown_60 ?_
    refine lv_topi (fun v28 e28 => ?_)
    have m29 : (((AB ad F21) rc 4) ||| (nI 0)) = v28 := cg2 (fun (x : Int32) (y : Int32) => x ||| y) m25 (Eq.refl ((nI 0) : Int32)) e28
    refine r_put S hI hK hP21 hS21 rc (lt_C hrc) hF24 (C := RX0) (T := TX0) (N := 10) hiX0 tyX0_ok nmX0 rfl 4 (by decide) (am_at in_wsX0_addTown_0 4 rfl) rfl rfl rfl (Nat.le_of_ble_eq_true rfl) dX0_addTown_61 (fun F30 H30 locs30 eF30 hP30 hS30 => ?_)
    have hF30 : F30 rc = .inr (0, [.int (nI sl1), .int fm1, .int (nI tn1), .int (nI rn1), .int v28, .ref (ad (rc + 1)), .ref (ad (rc + 2)), .ref (ad (rc + 3)), .ref (ad (rc + 4)), .ref (ad (rc + 5))]) := by rw [eF30]; exact va_up_self _ _ _
    have hW30 := hW21.up eF30 (ok_C hrc ⟨sl1, fm1, tn1, rn1, v28, rfl, by omega, by omega, by omega⟩)
    have hFr30 := hFr21.up eF30 (by simp <;> first | omega | (simp only [isC, isJ] at *; omega))
    have hE32 : M = m_X0_addTown_31 (AB ad F30) rc p1 p2 p3 := hE23.trans ((show m_X0_addTown_22 (AB ad F21) rc p1 p2 p3 = m_X0_addTown_31 (st (AB ad F21) rc 4 (((AB ad F21) rc 4) ||| (nI 0))) rc p1 p2 p3 from by unfold m_X0_addTown_22; rw [if_pos (le_cg rfl rfl c26)]).trans (congr (congr (congr (congr (congrArg (m_X0_addTown_31) ((st_cg rfl rfl m29).trans (AB_put hF24 (Nat.le_of_ble_eq_true rfl) eF30).symm)) (Eq.refl rc)) (Eq.refl (p1 : Int32))) (Eq.refl (p2 : Int32))) (Eq.refl (p3 : Int32))))
    refine lv_aload_n S.1 S.2.1 dX0_addTown_64 rfl (lv_at hl0 0 rfl) ?_
    refine lv_dup S.1 S.2.1 dX0_addTown_65 rfl ?_
    refine r_get S hK hP30 rc (lt_C hrc) hF30 (C := RX0) (T := TX0) (N := 10) hiX0 rfl 2 (by decide) (am_at in_wsX0_addTown_0 0 rfl) (v := .int (nI tn1)) rfl dX0_addTown_66 ?_
    have m33 : ((AB ad F30) rc 2) = (nI tn1) := (congrArg (fun q => AB ad F30 q 2) rfl).trans (AB_f hF30 rfl)
    refine lv_iconst (v := (nI 1)) S.1 S.2.1 dX0_addTown_69 (by decide +kernel) ?_
    refine lv_iadd S.1 S.2.1 dX0_addTown_70 ?_
    refine lv_topi (fun v34 e34 => ?_)
    obtain rfl : v34 = nI (tn1 + 1) := e34.trans (nI_add _ _)
    have m35 : (((AB ad F30) rc 2) + (nI 1)) = (nI (tn1 + 1)) := cg2 (fun (x : Int32) (y : Int32) => x + y) m33 (Eq.refl ((nI 1) : Int32)) e34
    refine r_put S hI hK hP30 hS30 rc (lt_C hrc) hF30 (C := RX0) (T := TX0) (N := 10) hiX0 tyX0_ok nmX0 rfl 2 (by decide) (am_at in_wsX0_addTown_0 0 rfl) rfl rfl rfl (Nat.le_of_ble_eq_true rfl) dX0_addTown_71 (fun F36 H36 locs36 eF36 hP36 hS36 => ?_)
    have hF36 : F36 rc = .inr (0, [.int (nI sl1), .int fm1, .int (nI (tn1 + 1)), .int (nI rn1), .int v28, .ref (ad (rc + 1)), .ref (ad (rc + 2)), .ref (ad (rc + 3)), .ref (ad (rc + 4)), .ref (ad (rc + 5))]) := by rw [eF36]; exact va_up_self _ _ _
    have hW36 := hW30.up eF36 (ok_C hrc ⟨sl1, fm1, tn1 + 1, rn1, v28, rfl, by omega, by omega, by omega⟩)
    have hFr36 := hFr30.up eF36 (by simp <;> first | omega | (simp only [isC, isJ] at *; omega))
    have hE38 : M = m_X0_addTown_37 (AB ad F36) rc p1 p2 p3 := hE32.trans ((show m_X0_addTown_31 (AB ad F30) rc p1 p2 p3 = m_X0_addTown_37 (st (AB ad F30) rc 2 (((AB ad F30) rc 2) + (nI 1))) rc p1 p2 p3 from rfl).trans (congr (congr (congr (congr (congrArg (m_X0_addTown_37) ((st_cg rfl rfl m35).trans (AB_put hF30 (Nat.le_of_ble_eq_true rfl) eF36).symm)) (Eq.refl rc)) (Eq.refl (p1 : Int32))) (Eq.refl (p2 : Int32))) (Eq.refl (p3 : Int32))))
    have hE39 : M = AB ad F36 := hE38.trans ((show m_X0_addTown_37 (AB ad F36) rc p1 p2 p3 = (AB ad F36) from rfl).trans rfl)
    exact hret 74 _ _ _ _ dX0_addTown_74 hP36 hS36 ⟨hW36, hFr36, ⟨trivial, hM.symm.trans hE39⟩⟩
  have k40 := ci_nle (nI_toInt (n := 50) (by decide)) rfl c26
  refine lv_iconst (v := (nI 1)) S.1 S.2.1 dX0_addTown_50 (by decide +kernel) ?_
  refine lv_aload_n S.1 S.2.1 dX0_addTown_51 rfl (lv_at hl0 0 rfl) ?_
  refine r_get S hK hP21 rc (lt_C hrc) hF24 (C := RX0) (T := TX0) (N := 10) hiX0 rfl 2 (by decide) (am_at in_wsX0_addTown_0 0 rfl) (v := .int (nI tn1)) rfl dX0_addTown_52 ?_
  have m41 : ((AB ad F21) rc 2) = (nI tn1) := (congrArg (fun q => AB ad F21 q 2) rfl).trans (AB_f hF24 rfl)
  refine lv_ishl S.1 S.2.1 dX0_addTown_55 ?_
  refine lv_topi (fun v42 e42 => ?_)
  have m43 : ((nI 1) <<< (((AB ad F21) rc 2) &&& 31)) = v42 := cg2 (fun (x : Int32) (y : Int32) => x <<< (y &&& 31)) (Eq.refl ((nI 1) : Int32)) m41 e42
  refine lv_goto (tgt := 60) S.1 S.2.1 dX0_addTown_56 (by decide) ?_
  refine lv_ior S.1 S.2.1 dX0_addTown_60 ?_
  refine lv_topi (fun v44 e44 => ?_)
  have m45 : (((AB ad F21) rc 4) ||| ((nI 1) <<< (((AB ad F21) rc 2) &&& 31))) = v44 := cg2 (fun (x : Int32) (y : Int32) => x ||| y) m25 m43 e44
  refine r_put S hI hK hP21 hS21 rc (lt_C hrc) hF24 (C := RX0) (T := TX0) (N := 10) hiX0 tyX0_ok nmX0 rfl 4 (by decide) (am_at in_wsX0_addTown_0 4 rfl) rfl rfl rfl (Nat.le_of_ble_eq_true rfl) dX0_addTown_61 (fun F46 H46 locs46 eF46 hP46 hS46 => ?_)
  have hF46 : F46 rc = .inr (0, [.int (nI sl1), .int fm1, .int (nI tn1), .int (nI rn1), .int v44, .ref (ad (rc + 1)), .ref (ad (rc + 2)), .ref (ad (rc + 3)), .ref (ad (rc + 4)), .ref (ad (rc + 5))]) := by rw [eF46]; exact va_up_self _ _ _
  have hW46 := hW21.up eF46 (ok_C hrc ⟨sl1, fm1, tn1, rn1, v44, rfl, by omega, by omega, by omega⟩)
  have hFr46 := hFr21.up eF46 (by simp <;> first | omega | (simp only [isC, isJ] at *; omega))
  have hE48 : M = m_X0_addTown_47 (AB ad F46) rc p1 p2 p3 := hE23.trans ((show m_X0_addTown_22 (AB ad F21) rc p1 p2 p3 = m_X0_addTown_47 (st (AB ad F21) rc 4 (((AB ad F21) rc 4) ||| ((nI 1) <<< (((AB ad F21) rc 2) &&& 31)))) rc p1 p2 p3 from by unfold m_X0_addTown_22; rw [if_neg (nle_cg rfl rfl c26)]).trans (congr (congr (congr (congr (congrArg (m_X0_addTown_47) ((st_cg rfl rfl m45).trans (AB_put hF24 (Nat.le_of_ble_eq_true rfl) eF46).symm)) (Eq.refl rc)) (Eq.refl (p1 : Int32))) (Eq.refl (p2 : Int32))) (Eq.refl (p3 : Int32))))
  refine lv_aload_n S.1 S.2.1 dX0_addTown_64 rfl (lv_at hl0 0 rfl) ?_
  refine lv_dup S.1 S.2.1 dX0_addTown_65 rfl ?_
  refine r_get S hK hP46 rc (lt_C hrc) hF46 (C := RX0) (T := TX0) (N := 10) hiX0 rfl 2 (by decide) (am_at in_wsX0_addTown_0 0 rfl) (v := .int (nI tn1)) rfl dX0_addTown_66 ?_
  have m49 : ((AB ad F46) rc 2) = (nI tn1) := (congrArg (fun q => AB ad F46 q 2) rfl).trans (AB_f hF46 rfl)
  refine lv_iconst (v := (nI 1)) S.1 S.2.1 dX0_addTown_69 (by decide +kernel) ?_
  refine lv_iadd S.1 S.2.1 dX0_addTown_70 ?_
  refine lv_topi (fun v50 e50 => ?_)
  obtain rfl : v50 = nI (tn1 + 1) := e50.trans (nI_add _ _)
  have m51 : (((AB ad F46) rc 2) + (nI 1)) = (nI (tn1 + 1)) := cg2 (fun (x : Int32) (y : Int32) => x + y) m49 (Eq.refl ((nI 1) : Int32)) e50
  refine r_put S hI hK hP46 hS46 rc (lt_C hrc) hF46 (C := RX0) (T := TX0) (N := 10) hiX0 tyX0_ok nmX0 rfl 2 (by decide) (am_at in_wsX0_addTown_0 0 rfl) rfl rfl rfl (Nat.le_of_ble_eq_true rfl) dX0_addTown_71 (fun F52 H52 locs52 eF52 hP52 hS52 => ?_)
  have hF52 : F52 rc = .inr (0, [.int (nI sl1), .int fm1, .int (nI (tn1 + 1)), .int (nI rn1), .int v44, .ref (ad (rc + 1)), .ref (ad (rc + 2)), .ref (ad (rc + 3)), .ref (ad (rc + 4)), .ref (ad (rc + 5))]) := by rw [eF52]; exact va_up_self _ _ _
  have hW52 := hW46.up eF52 (ok_C hrc ⟨sl1, fm1, tn1 + 1, rn1, v44, rfl, by omega, by omega, by omega⟩)
  have hFr52 := hFr46.up eF52 (by simp <;> first | omega | (simp only [isC, isJ] at *; omega))
  have hE54 : M = m_X0_addTown_53 (AB ad F52) rc p1 p2 p3 := hE48.trans ((show m_X0_addTown_47 (AB ad F46) rc p1 p2 p3 = m_X0_addTown_53 (st (AB ad F46) rc 2 (((AB ad F46) rc 2) + (nI 1))) rc p1 p2 p3 from rfl).trans (congr (congr (congr (congr (congrArg (m_X0_addTown_53) ((st_cg rfl rfl m51).trans (AB_put hF46 (Nat.le_of_ble_eq_true rfl) eF52).symm)) (Eq.refl rc)) (Eq.refl (p1 : Int32))) (Eq.refl (p2 : Int32))) (Eq.refl (p3 : Int32))))
  have hE55 : M = AB ad F52 := hE54.trans ((show m_X0_addTown_53 (AB ad F52) rc p1 p2 p3 = (AB ad F52) from rfl).trans rfl)
  exact hret 74 _ _ _ _ dX0_addTown_74 hP52 hS52 ⟨hW52, hFr52, ⟨trivial, hM.symm.trans hE55⟩⟩
noncomputable def m_X0_addRoad_23 (σ : SS) (a0 : Nat) (a1 : Int32) (a2 : Int32) : SS :=
  σ
noncomputable def m_X0_addRoad_16 (σ : SS) (a0 : Nat) (a1 : Int32) (a2 : Int32) : SS :=
  m_X0_addRoad_23 (st σ a0 3 ((σ a0 3) + (nI 1))) a0 a1 a2
noncomputable def m_X0_addRoad_10 (σ : SS) (a0 : Nat) (a1 : Int32) (a2 : Int32) : SS :=
  m_X0_addRoad_16 (st σ (a0 + 5) (rl (σ a0 3)) a2) a0 a1 a2
noncomputable def m_X0_addRoad (σ : SS) (a0 : Nat) (a1 : Int32) (a2 : Int32) : SS :=
  if (nI 12) ≤ (σ a0 3) then
    σ
  else
    m_X0_addRoad_10 (st σ (a0 + 4) (rl (σ a0 3)) a1) a0 a1 a2
set_option maxHeartbeats 4000000 in
set_option maxRecDepth 100000 in
theorem c_X0_addRoad (l : Launch) (D : va_G) (cA ad : Nat → Nat) (t : Nat) (hI : rI ad) (F : Nat → va_E) (hW : WT cA ad F) (rc : Nat) (hrc : isC rc) (p1 : Int32) (p2 : Int32) : MV l D cA ad t yX0_addRoad wsX0_addRoad { frames := 0, cells := 0, slots := 0, locals := 0 } [.ref (ad rc), .int p1, .int p2] F (fun F' => WT cA ad F' ∧ rFr [rc, rc + 4, rc + 5] F F' ∧ ((True) ∧ m_X0_addRoad (AB ad F) rc p1 p2 = AB ad F')) := by
  refine en_V rfl (by decide +kernel) (Nat.le_of_ble_eq_true rfl) ?_
  intro p e s m args below meth c ls0 Q S hK hZ hP hS hl0 hret
  have hl0 : lv_has ls0 3 [(0, .ref (ad rc)), (1, .int p1), (2, .int p2)] := hl0
  have hFr : rFr [rc, rc + 4, rc + 5] F F := rFr.rf
  have hiX0 : ∀ w ∈ u_ws RX0 TX0 10, w ∈ wsX0_addRoad := in_wsX0_addRoad_1
  obtain ⟨M, hM⟩ : ∃ M, M = m_X0_addRoad (AB ad F) rc p1 p2 := ⟨_, rfl⟩
  refine lv_aload_n S.1 S.2.1 dX0_addRoad_0 rfl (lv_at hl0 0 rfl) ?_
  obtain ⟨sl1, fm1, tn1, rn1, bn1, hF1, hb1_1, hb1_2, hb1_3⟩ := wt_C hW hrc
  refine r_get S hK hP rc (lt_C hrc) hF1 (C := RX0) (T := TX0) (N := 10) hiX0 rfl 3 (by decide) (am_at in_wsX0_addRoad_0 0 rfl) (v := .int (nI rn1)) rfl dX0_addRoad_1 ?_
  have m2 : ((AB ad F) rc 3) = (nI rn1) := (congrArg (fun q => AB ad F q 3) rfl).trans (AB_f hF1 rfl)
  refine lv_bipush (v := (nI 12)) S.1 S.2.1 dX0_addRoad_4 (by decide +kernel) ?_
  refine lv_icmp_ge (tgt := 39) S.1 S.2.1 dX0_addRoad_6 (by decide) (fun c3 => ?_) (fun c3 => ?_)
  · skip
    have k4 := ci_le (nI_toInt (n := 12) (by decide)) (nI_toInt (n := rn1) (by omega)) c3
    have hE5 : M = AB ad F := hM.trans ((show m_X0_addRoad (AB ad F) rc p1 p2 = (AB ad F) from by unfold m_X0_addRoad; rw [if_pos (le_cg rfl m2 c3)]).trans rfl)
    exact hret 39 _ _ _ _ dX0_addRoad_39 hP hS ⟨hW, hFr, ⟨trivial, hM.symm.trans hE5⟩⟩
  have k6 := ci_nle (nI_toInt (n := 12) (by decide)) (nI_toInt (n := rn1) (by omega)) c3
  refine lv_aload_n S.1 S.2.1 dX0_addRoad_9 rfl (lv_at hl0 0 rfl) ?_
  refine r_get S hK hP rc (lt_C hrc) hF1 (C := RX0) (T := TX0) (N := 10) hiX0 rfl 8 (by decide) (am_at in_wsX0_addRoad_0 1 rfl) (v := .ref (ad (rc + 4))) rfl dX0_addRoad_10 ?_
  refine lv_aload_n S.1 S.2.1 dX0_addRoad_13 rfl (lv_at hl0 0 rfl) ?_
  refine r_get S hK hP rc (lt_C hrc) hF1 (C := RX0) (T := TX0) (N := 10) hiX0 rfl 3 (by decide) (am_at in_wsX0_addRoad_0 0 rfl) (v := .int (nI rn1)) rfl dX0_addRoad_14 ?_
  have m7 : ((AB ad F) rc 3) = (nI rn1) := (congrArg (fun q => AB ad F q 3) rfl).trans (AB_f hF1 rfl)
  refine lv_iload_n S.1 S.2.1 dX0_addRoad_17 rfl (lv_at hl0 1 rfl) ?_
  obtain ⟨g8, hF8, hg8⟩ := wt_I hW (C4_I hrc)
  refine r_iast S hI hK hP hS (rc + 4) (lt_I (C4_I hrc)) hF8 (vp_in_nI (show rn1 < 12 by omega) (by omega)) dX0_addRoad_18 (fun F9 H9 locs9 eF9 hP9 hS9 => ?_)
  have hW9 := hW.up eF9 (ok_I (C4_I hrc) (okI_up hg8 (pr_of (C_u hrc (by decide) (by decide)))))
  have hFr9 := hFr.up eF9 (by simp <;> first | omega | (simp only [isC, isJ] at *; omega))
  have hE11 : M = m_X0_addRoad_10 (AB ad F9) rc p1 p2 := hM.trans ((show m_X0_addRoad (AB ad F) rc p1 p2 = m_X0_addRoad_10 (st (AB ad F) (rc + 4) (rl ((AB ad F) rc 3)) p1) rc p1 p2 from by unfold m_X0_addRoad; rw [if_neg (nle_cg rfl m2 c3)]).trans (congr (congr (congr (congrArg (m_X0_addRoad_10) ((st_cg (congrArg (fun q : Nat => q + 4) (Eq.refl rc)) (congrArg rl m7) rfl).trans (AB_ast hF8 eF9).symm)) (Eq.refl rc)) (Eq.refl (p1 : Int32))) (Eq.refl (p2 : Int32))))
  refine lv_aload_n S.1 S.2.1 dX0_addRoad_19 rfl (lv_at hl0 0 rfl) ?_
  have hF12 := (show F9 rc = F rc by rw [eF9]; exact va_up_ne _ _ (by have hh1 := hrc; unfold isC at hh1; omega)).trans hF1
  refine r_get S hK hP9 rc (lt_C hrc) hF12 (C := RX0) (T := TX0) (N := 10) hiX0 rfl 9 (by decide) (am_at in_wsX0_addRoad_0 2 rfl) (v := .ref (ad (rc + 5))) rfl dX0_addRoad_20 ?_
  refine lv_aload_n S.1 S.2.1 dX0_addRoad_23 rfl (lv_at hl0 0 rfl) ?_
  refine r_get S hK hP9 rc (lt_C hrc) hF12 (C := RX0) (T := TX0) (N := 10) hiX0 rfl 3 (by decide) (am_at in_wsX0_addRoad_0 0 rfl) (v := .int (nI rn1)) rfl dX0_addRoad_24 ?_
  have m13 : ((AB ad F9) rc 3) = (nI rn1) := (congrArg (fun q => AB ad F9 q 3) rfl).trans (AB_f hF12 rfl)
  refine lv_iload_n S.1 S.2.1 dX0_addRoad_27 rfl (lv_at hl0 2 rfl) ?_
  obtain ⟨g14, hF14, hg14⟩ := wt_I hW9 (C5_I hrc)
  refine r_iast S hI hK hP9 hS9 (rc + 5) (lt_I (C5_I hrc)) hF14 (vp_in_nI (show rn1 < 12 by omega) (by omega)) dX0_addRoad_28 (fun F15 H15 locs15 eF15 hP15 hS15 => ?_)
  have hW15 := hW9.up eF15 (ok_I (C5_I hrc) (okI_up hg14 (pr_of (C_u hrc (by decide) (by decide)))))
  have hFr15 := hFr9.up eF15 (by simp <;> first | omega | (simp only [isC, isJ] at *; omega))
  have hE17 : M = m_X0_addRoad_16 (AB ad F15) rc p1 p2 := hE11.trans ((show m_X0_addRoad_10 (AB ad F9) rc p1 p2 = m_X0_addRoad_16 (st (AB ad F9) (rc + 5) (rl ((AB ad F9) rc 3)) p2) rc p1 p2 from rfl).trans (congr (congr (congr (congrArg (m_X0_addRoad_16) ((st_cg (congrArg (fun q : Nat => q + 5) (Eq.refl rc)) (congrArg rl m13) rfl).trans (AB_ast hF14 eF15).symm)) (Eq.refl rc)) (Eq.refl (p1 : Int32))) (Eq.refl (p2 : Int32))))
  refine lv_aload_n S.1 S.2.1 dX0_addRoad_29 rfl (lv_at hl0 0 rfl) ?_
  refine lv_dup S.1 S.2.1 dX0_addRoad_30 rfl ?_
  have hF18 := (show F15 rc = F9 rc by rw [eF15]; exact va_up_ne _ _ (by have hh1 := hrc; unfold isC at hh1; omega)).trans hF12
  refine r_get S hK hP15 rc (lt_C hrc) hF18 (C := RX0) (T := TX0) (N := 10) hiX0 rfl 3 (by decide) (am_at in_wsX0_addRoad_0 0 rfl) (v := .int (nI rn1)) rfl dX0_addRoad_31 ?_
  have m19 : ((AB ad F15) rc 3) = (nI rn1) := (congrArg (fun q => AB ad F15 q 3) rfl).trans (AB_f hF18 rfl)
  refine lv_iconst (v := (nI 1)) S.1 S.2.1 dX0_addRoad_34 (by decide +kernel) ?_
  refine lv_iadd S.1 S.2.1 dX0_addRoad_35 ?_
  refine lv_topi (fun v20 e20 => ?_)
  obtain rfl : v20 = nI (rn1 + 1) := e20.trans (nI_add _ _)
  have m21 : (((AB ad F15) rc 3) + (nI 1)) = (nI (rn1 + 1)) := cg2 (fun (x : Int32) (y : Int32) => x + y) m19 (Eq.refl ((nI 1) : Int32)) e20
  refine r_put S hI hK hP15 hS15 rc (lt_C hrc) hF18 (C := RX0) (T := TX0) (N := 10) hiX0 tyX0_ok nmX0 rfl 3 (by decide) (am_at in_wsX0_addRoad_0 0 rfl) rfl rfl rfl (Nat.le_of_ble_eq_true rfl) dX0_addRoad_36 (fun F22 H22 locs22 eF22 hP22 hS22 => ?_)
  have hF22 : F22 rc = .inr (0, [.int (nI sl1), .int fm1, .int (nI tn1), .int (nI (rn1 + 1)), .int bn1, .ref (ad (rc + 1)), .ref (ad (rc + 2)), .ref (ad (rc + 3)), .ref (ad (rc + 4)), .ref (ad (rc + 5))]) := by rw [eF22]; exact va_up_self _ _ _
  have hW22 := hW15.up eF22 (ok_C hrc ⟨sl1, fm1, tn1, rn1 + 1, bn1, rfl, by omega, by omega, by omega⟩)
  have hFr22 := hFr15.up eF22 (by simp <;> first | omega | (simp only [isC, isJ] at *; omega))
  have hE24 : M = m_X0_addRoad_23 (AB ad F22) rc p1 p2 := hE17.trans ((show m_X0_addRoad_16 (AB ad F15) rc p1 p2 = m_X0_addRoad_23 (st (AB ad F15) rc 3 (((AB ad F15) rc 3) + (nI 1))) rc p1 p2 from rfl).trans (congr (congr (congr (congrArg (m_X0_addRoad_23) ((st_cg rfl rfl m21).trans (AB_put hF18 (Nat.le_of_ble_eq_true rfl) eF22).symm)) (Eq.refl rc)) (Eq.refl (p1 : Int32))) (Eq.refl (p2 : Int32))))
  have hE25 : M = AB ad F22 := hE24.trans ((show m_X0_addRoad_23 (AB ad F22) rc p1 p2 = (AB ad F22) from rfl).trans rfl)
  exact hret 39 _ _ _ _ dX0_addRoad_39 hP22 hS22 ⟨hW22, hFr22, ⟨trivial, hM.symm.trans hE25⟩⟩
noncomputable def m_X0_hasTown (σ : SS) (a0 : Nat) (a1 : Int32) : Int32 :=
  if a1 < (0 : Int32) then
    (nI 0)
  else
    if (σ a0 2) ≤ a1 then
      (nI 0)
    else
      (nI 1)
set_option maxHeartbeats 4000000 in
set_option maxRecDepth 100000 in
theorem c_X0_hasTown (l : Launch) (D : va_G) (cA ad : Nat → Nat) (t : Nat) (hI : rI ad) (F : Nat → va_E) (hW : WT cA ad F) (rc : Nat) (hrc : isC rc) (p1 : Int32) : MP l D cA ad t yX0_hasTown wsX0_hasTown { frames := 0, cells := 0, slots := 0, locals := 0 } [.ref (ad rc), .int p1] F (fun r => (le32 1 r ∧ (r ≠ 0 → 0 ≤ p1.toInt ∧ p1.toInt ≤ 7)) ∧ m_X0_hasTown (AB ad F) rc p1 = r) := by
  refine en_P rfl (by decide +kernel) (Nat.le_of_ble_eq_true rfl) ?_
  intro p e s m args below meth c ls0 Q S hK hZ hP hS hl0 hret
  have hl0 : lv_has ls0 2 [(0, .ref (ad rc)), (1, .int p1)] := hl0
  have hiX0 : ∀ w ∈ u_ws RX0 TX0 10, w ∈ wsX0_hasTown := in_wsX0_hasTown_1
  obtain ⟨M, hM⟩ : ∃ M, M = m_X0_hasTown (AB ad F) rc p1 := ⟨_, rfl⟩
  refine lv_iload_n S.1 S.2.1 dX0_hasTown_0 rfl (lv_at hl0 1 rfl) ?_
  refine lv_if_lt (tgt := 16) S.1 S.2.1 dX0_hasTown_1 (by decide) (fun c1 => ?_) (fun c1 => ?_)
  · skip
    have k2 := ci_lt rfl z_ti c1
    refine lv_iconst (v := (nI 0)) S.1 S.2.1 dX0_hasTown_16 (by decide +kernel) ?_
    have hE3 : M = (nI 0) := hM.trans ((show m_X0_hasTown (AB ad F) rc p1 = (nI 0) from by unfold m_X0_hasTown; rw [if_pos (lt_cg rfl rfl c1)]).trans rfl)
    exact hret 17 _ _ dX0_hasTown_17 rfl (⟨⟨⟨0, by omega, rfl⟩, fun h => absurd rfl h⟩, hM.symm.trans hE3⟩)
  have k4 := ci_nlt rfl z_ti c1
  refine lv_iload_n S.1 S.2.1 dX0_hasTown_4 rfl (lv_at hl0 1 rfl) ?_
  refine lv_aload_n S.1 S.2.1 dX0_hasTown_5 rfl (lv_at hl0 0 rfl) ?_
  obtain ⟨sl5, fm5, tn5, rn5, bn5, hF5, hb5_1, hb5_2, hb5_3⟩ := wt_C hW hrc
  refine r_get S hK hP rc (lt_C hrc) hF5 (C := RX0) (T := TX0) (N := 10) hiX0 rfl 2 (by decide) (am_at in_wsX0_hasTown_0 0 rfl) (v := .int (nI tn5)) rfl dX0_hasTown_6 ?_
  have m6 : ((AB ad F) rc 2) = (nI tn5) := (congrArg (fun q => AB ad F q 2) rfl).trans (AB_f hF5 rfl)
  refine lv_icmp_ge (tgt := 16) S.1 S.2.1 dX0_hasTown_9 (by decide) (fun c7 => ?_) (fun c7 => ?_)
  · skip
    have k8 := ci_le (nI_toInt (n := tn5) (by omega)) rfl c7
    refine lv_iconst (v := (nI 0)) S.1 S.2.1 dX0_hasTown_16 (by decide +kernel) ?_
    have hE9 : M = (nI 0) := hM.trans ((show m_X0_hasTown (AB ad F) rc p1 = (nI 0) from by unfold m_X0_hasTown; rw [if_neg (nlt_cg rfl rfl c1), if_pos (le_cg m6 rfl c7)]).trans rfl)
    exact hret 17 _ _ dX0_hasTown_17 rfl (⟨⟨⟨0, by omega, rfl⟩, fun h => absurd rfl h⟩, hM.symm.trans hE9⟩)
  have k10 := ci_nle (nI_toInt (n := tn5) (by omega)) rfl c7
  refine lv_iconst (v := (nI 1)) S.1 S.2.1 dX0_hasTown_12 (by decide +kernel) ?_
  refine lv_goto (tgt := 17) S.1 S.2.1 dX0_hasTown_13 (by decide) ?_
  have hE11 : M = (nI 1) := hM.trans ((show m_X0_hasTown (AB ad F) rc p1 = (nI 1) from by unfold m_X0_hasTown; rw [if_neg (nlt_cg rfl rfl c1), if_neg (nle_cg m6 rfl c7)]).trans rfl)
  exact hret 17 _ _ dX0_hasTown_17 rfl (⟨⟨⟨1, by omega, rfl⟩, fun _ => ⟨by omega, by omega⟩⟩, hM.symm.trans hE11⟩)
noncomputable def m_X0_hasRoad (σ : SS) (a0 : Nat) (a1 : Int32) : Int32 :=
  if a1 < (0 : Int32) then
    (nI 0)
  else
    if (σ a0 3) ≤ a1 then
      (nI 0)
    else
      (nI 1)
set_option maxHeartbeats 4000000 in
set_option maxRecDepth 100000 in
theorem c_X0_hasRoad (l : Launch) (D : va_G) (cA ad : Nat → Nat) (t : Nat) (hI : rI ad) (F : Nat → va_E) (hW : WT cA ad F) (rc : Nat) (hrc : isC rc) (p1 : Int32) : MP l D cA ad t yX0_hasRoad wsX0_hasRoad { frames := 0, cells := 0, slots := 0, locals := 0 } [.ref (ad rc), .int p1] F (fun r => (le32 1 r ∧ (r ≠ 0 → 0 ≤ p1.toInt ∧ p1.toInt ≤ 11)) ∧ m_X0_hasRoad (AB ad F) rc p1 = r) := by
  refine en_P rfl (by decide +kernel) (Nat.le_of_ble_eq_true rfl) ?_
  intro p e s m args below meth c ls0 Q S hK hZ hP hS hl0 hret
  have hl0 : lv_has ls0 2 [(0, .ref (ad rc)), (1, .int p1)] := hl0
  have hiX0 : ∀ w ∈ u_ws RX0 TX0 10, w ∈ wsX0_hasRoad := in_wsX0_hasRoad_1
  obtain ⟨M, hM⟩ : ∃ M, M = m_X0_hasRoad (AB ad F) rc p1 := ⟨_, rfl⟩
  refine lv_iload_n S.1 S.2.1 dX0_hasRoad_0 rfl (lv_at hl0 1 rfl) ?_
  refine lv_if_lt (tgt := 16) S.1 S.2.1 dX0_hasRoad_1 (by decide) (fun c1 => ?_) (fun c1 => ?_)
  · skip
    have k2 := ci_lt rfl z_ti c1
    refine lv_iconst (v := (nI 0)) S.1 S.2.1 dX0_hasRoad_16 (by decide +kernel) ?_
    have hE3 : M = (nI 0) := hM.trans ((show m_X0_hasRoad (AB ad F) rc p1 = (nI 0) from by unfold m_X0_hasRoad; rw [if_pos (lt_cg rfl rfl c1)]).trans rfl)
    exact hret 17 _ _ dX0_hasRoad_17 rfl (⟨⟨⟨0, by omega, rfl⟩, fun h => absurd rfl h⟩, hM.symm.trans hE3⟩)
  have k4 := ci_nlt rfl z_ti c1
  refine lv_iload_n S.1 S.2.1 dX0_hasRoad_4 rfl (lv_at hl0 1 rfl) ?_
  refine lv_aload_n S.1 S.2.1 dX0_hasRoad_5 rfl (lv_at hl0 0 rfl) ?_
  obtain ⟨sl5, fm5, tn5, rn5, bn5, hF5, hb5_1, hb5_2, hb5_3⟩ := wt_C hW hrc
  refine r_get S hK hP rc (lt_C hrc) hF5 (C := RX0) (T := TX0) (N := 10) hiX0 rfl 3 (by decide) (am_at in_wsX0_hasRoad_0 0 rfl) (v := .int (nI rn5)) rfl dX0_hasRoad_6 ?_
  have m6 : ((AB ad F) rc 3) = (nI rn5) := (congrArg (fun q => AB ad F q 3) rfl).trans (AB_f hF5 rfl)
  refine lv_icmp_ge (tgt := 16) S.1 S.2.1 dX0_hasRoad_9 (by decide) (fun c7 => ?_) (fun c7 => ?_)
  · skip
    have k8 := ci_le (nI_toInt (n := rn5) (by omega)) rfl c7
    refine lv_iconst (v := (nI 0)) S.1 S.2.1 dX0_hasRoad_16 (by decide +kernel) ?_
    have hE9 : M = (nI 0) := hM.trans ((show m_X0_hasRoad (AB ad F) rc p1 = (nI 0) from by unfold m_X0_hasRoad; rw [if_neg (nlt_cg rfl rfl c1), if_pos (le_cg m6 rfl c7)]).trans rfl)
    exact hret 17 _ _ dX0_hasRoad_17 rfl (⟨⟨⟨0, by omega, rfl⟩, fun h => absurd rfl h⟩, hM.symm.trans hE9⟩)
  have k10 := ci_nle (nI_toInt (n := rn5) (by omega)) rfl c7
  refine lv_iconst (v := (nI 1)) S.1 S.2.1 dX0_hasRoad_12 (by decide +kernel) ?_
  refine lv_goto (tgt := 17) S.1 S.2.1 dX0_hasRoad_13 (by decide) ?_
  have hE11 : M = (nI 1) := hM.trans ((show m_X0_hasRoad (AB ad F) rc p1 = (nI 1) from by unfold m_X0_hasRoad; rw [if_neg (nlt_cg rfl rfl c1), if_neg (nle_cg m6 rfl c7)]).trans rfl)
  exact hret 17 _ _ dX0_hasRoad_17 rfl (⟨⟨⟨1, by omega, rfl⟩, fun _ => ⟨by omega, by omega⟩⟩, hM.symm.trans hE11⟩)
noncomputable def m_X0_allTowns (σ : SS) (a0 : Nat) : Int32 :=
  (((nI 1) <<< ((σ a0 2) &&& 31)) - (nI 1))
set_option maxHeartbeats 4000000 in
set_option maxRecDepth 100000 in
theorem c_X0_allTowns (l : Launch) (D : va_G) (cA ad : Nat → Nat) (t : Nat) (hI : rI ad) (F : Nat → va_E) (hW : WT cA ad F) (rc : Nat) (hrc : isC rc) : MP l D cA ad t yX0_allTowns wsX0_allTowns { frames := 0, cells := 0, slots := 0, locals := 0 } [.ref (ad rc)] F (fun r => (∃ k : Nat, k ≤ 8 ∧ r = (nI 1) <<< (nI k &&& 31) - nI 1) ∧ m_X0_allTowns (AB ad F) rc = r) := by
  refine en_P rfl (by decide +kernel) (Nat.le_of_ble_eq_true rfl) ?_
  intro p e s m args below meth c ls0 Q S hK hZ hP hS hl0 hret
  have hl0 : lv_has ls0 1 [(0, .ref (ad rc))] := hl0
  have hiX0 : ∀ w ∈ u_ws RX0 TX0 10, w ∈ wsX0_allTowns := in_wsX0_allTowns_1
  obtain ⟨M, hM⟩ : ∃ M, M = m_X0_allTowns (AB ad F) rc := ⟨_, rfl⟩
  refine lv_iconst (v := (nI 1)) S.1 S.2.1 dX0_allTowns_0 (by decide +kernel) ?_
  refine lv_aload_n S.1 S.2.1 dX0_allTowns_1 rfl (lv_at hl0 0 rfl) ?_
  obtain ⟨sl1, fm1, tn1, rn1, bn1, hF1, hb1_1, hb1_2, hb1_3⟩ := wt_C hW hrc
  refine r_get S hK hP rc (lt_C hrc) hF1 (C := RX0) (T := TX0) (N := 10) hiX0 rfl 2 (by decide) (am_at in_wsX0_allTowns_0 0 rfl) (v := .int (nI tn1)) rfl dX0_allTowns_2 ?_
  have m2 : ((AB ad F) rc 2) = (nI tn1) := (congrArg (fun q => AB ad F q 2) rfl).trans (AB_f hF1 rfl)
  refine lv_ishl S.1 S.2.1 dX0_allTowns_5 ?_
  refine lv_topi (fun v3 e3 => ?_)
  have m4 : ((nI 1) <<< (((AB ad F) rc 2) &&& 31)) = v3 := cg2 (fun (x : Int32) (y : Int32) => x <<< (y &&& 31)) (Eq.refl ((nI 1) : Int32)) m2 e3
  refine lv_iconst (v := (nI 1)) S.1 S.2.1 dX0_allTowns_6 (by decide +kernel) ?_
  refine lv_isub S.1 S.2.1 dX0_allTowns_7 ?_
  refine lv_topi (fun v5 e5 => ?_)
  have m6 : (((nI 1) <<< (((AB ad F) rc 2) &&& 31)) - (nI 1)) = v5 := cg2 (fun (x : Int32) (y : Int32) => x - y) m4 (Eq.refl ((nI 1) : Int32)) e5
  have hE7 : M = v5 := hM.trans ((show m_X0_allTowns (AB ad F) rc = (((nI 1) <<< (((AB ad F) rc 2) &&& 31)) - (nI 1)) from rfl).trans m6)
  exact hret 8 _ _ dX0_allTowns_8 rfl (⟨⟨tn1, by omega, by rw [e5, e3]⟩, hM.symm.trans hE7⟩)
noncomputable def m_X0_isBanned (σ : SS) (a0 : Nat) (a1 : Int32) : Int32 :=
  if (((σ a0 4) >>> (a1 &&& 31)) &&& (nI 1)) = (0 : Int32) then
    (nI 0)
  else
    (nI 1)
set_option maxHeartbeats 4000000 in
set_option maxRecDepth 100000 in
theorem c_X0_isBanned (l : Launch) (D : va_G) (cA ad : Nat → Nat) (t : Nat) (hI : rI ad) (F : Nat → va_E) (hW : WT cA ad F) (rc : Nat) (hrc : isC rc) (p1 : Int32) : MP l D cA ad t yX0_isBanned wsX0_isBanned { frames := 0, cells := 0, slots := 0, locals := 0 } [.ref (ad rc), .int p1] F (fun r => (le32 1 r) ∧ m_X0_isBanned (AB ad F) rc p1 = r) := by
  refine en_P rfl (by decide +kernel) (Nat.le_of_ble_eq_true rfl) ?_
  intro p e s m args below meth c ls0 Q S hK hZ hP hS hl0 hret
  have hl0 : lv_has ls0 2 [(0, .ref (ad rc)), (1, .int p1)] := hl0
  have hiX0 : ∀ w ∈ u_ws RX0 TX0 10, w ∈ wsX0_isBanned := in_wsX0_isBanned_1
  obtain ⟨M, hM⟩ : ∃ M, M = m_X0_isBanned (AB ad F) rc p1 := ⟨_, rfl⟩
  refine lv_aload_n S.1 S.2.1 dX0_isBanned_0 rfl (lv_at hl0 0 rfl) ?_
  obtain ⟨sl1, fm1, tn1, rn1, bn1, hF1, hb1_1, hb1_2, hb1_3⟩ := wt_C hW hrc
  refine r_get S hK hP rc (lt_C hrc) hF1 (C := RX0) (T := TX0) (N := 10) hiX0 rfl 4 (by decide) (am_at in_wsX0_isBanned_0 0 rfl) (v := .int bn1) rfl dX0_isBanned_1 ?_
  have m2 : ((AB ad F) rc 4) = bn1 := (congrArg (fun q => AB ad F q 4) rfl).trans (AB_f hF1 rfl)
  refine lv_iload_n S.1 S.2.1 dX0_isBanned_4 rfl (lv_at hl0 1 rfl) ?_
  refine lv_ishr S.1 S.2.1 dX0_isBanned_5 ?_
  refine lv_topi (fun v3 e3 => ?_)
  have m4 : (((AB ad F) rc 4) >>> (p1 &&& 31)) = v3 := cg2 (fun (x : Int32) (y : Int32) => x >>> (y &&& 31)) m2 (Eq.refl (p1 : Int32)) e3
  refine lv_iconst (v := (nI 1)) S.1 S.2.1 dX0_isBanned_6 (by decide +kernel) ?_
  refine lv_iand S.1 S.2.1 dX0_isBanned_7 ?_
  refine lv_topi (fun v5 e5 => ?_)
  have m6 : ((((AB ad F) rc 4) >>> (p1 &&& 31)) &&& (nI 1)) = v5 := cg2 (fun (x : Int32) (y : Int32) => x &&& y) m4 (Eq.refl ((nI 1) : Int32)) e5
  refine lv_if_eq (tgt := 15) S.1 S.2.1 dX0_isBanned_8 (by decide) (fun c7 => ?_) (fun c7 => ?_)
  · skip
    have k8 := ci_eq rfl z_ti c7
    refine lv_iconst (v := (nI 0)) S.1 S.2.1 dX0_isBanned_15 (by decide +kernel) ?_
    have hE9 : M = (nI 0) := hM.trans ((show m_X0_isBanned (AB ad F) rc p1 = (nI 0) from by unfold m_X0_isBanned; rw [if_pos (eq_cg m6 rfl c7)]).trans rfl)
    exact hret 16 _ _ dX0_isBanned_16 rfl (⟨⟨0, by omega, rfl⟩, hM.symm.trans hE9⟩)
  have k10 := ci_ne rfl z_ti c7
  refine lv_iconst (v := (nI 1)) S.1 S.2.1 dX0_isBanned_11 (by decide +kernel) ?_
  refine lv_goto (tgt := 16) S.1 S.2.1 dX0_isBanned_12 (by decide) ?_
  have hE11 : M = (nI 1) := hM.trans ((show m_X0_isBanned (AB ad F) rc p1 = (nI 1) from by unfold m_X0_isBanned; rw [if_neg (neq_cg m6 rfl c7)]).trans rfl)
  exact hret 16 _ _ dX0_isBanned_16 rfl (⟨⟨1, by omega, rfl⟩, hM.symm.trans hE11⟩)
noncomputable def m_X0_worksIn (σ : SS) (a0 : Nat) (a1 : Int32) (a2 : Int32) : Int32 :=
  if (m_X0_hasTown σ a0 a1) = (0 : Int32) then
    (nI 0)
  else
    if (((σ (a0 + 2) (rl a1)) >>> ((irm ((σ a0 1) + a2) (nI 12)) &&& 31)) &&& (nI 1)) = (0 : Int32) then
      (nI 0)
    else
      (nI 1)
set_option maxHeartbeats 4000000 in
set_option maxRecDepth 100000 in
theorem c_X0_worksIn (l : Launch) (D : va_G) (cA ad : Nat → Nat) (t : Nat) (hI : rI ad) (F : Nat → va_E) (hW : WT cA ad F) (rc : Nat) (hrc : isC rc) (p1 : Int32) (p2 : Int32) : MP l D cA ad t yX0_worksIn wsX0_worksIn { frames := 1, cells := 0, slots := 0, locals := 21 } [.ref (ad rc), .int p1, .int p2] F (fun r => (le32 1 r ∧ (r ≠ 0 → 0 ≤ p1.toInt ∧ p1.toInt ≤ 7)) ∧ m_X0_worksIn (AB ad F) rc p1 p2 = r) := by
  refine en_P rfl (by decide +kernel) (Nat.le_of_ble_eq_true rfl) ?_
  intro p e s m args below meth c ls0 Q S hK hZ hP hS hl0 hret
  have hl0 : lv_has ls0 3 [(0, .ref (ad rc)), (1, .int p1), (2, .int p2)] := hl0
  have hiX0 : ∀ w ∈ u_ws RX0 TX0 10, w ∈ wsX0_worksIn := in_wsX0_worksIn_1
  obtain ⟨M, hM⟩ : ∃ M, M = m_X0_worksIn (AB ad F) rc p1 p2 := ⟨_, rfl⟩
  refine lv_aload_n S.1 S.2.1 dX0_worksIn_0 rfl (lv_at hl0 0 rfl) ?_
  refine lv_iload_n S.1 S.2.1 dX0_worksIn_1 rfl (lv_at hl0 1 rfl) ?_
  obtain ⟨sl2, fm2, tn2, rn2, bn2, hF2, hb2_1, hb2_2, hb2_3⟩ := wt_C hW hrc
  refine r_cVp (As := [.int p1]) (rest := []) S hK hZ hP hS hl0.1 rc (lt_C hrc) hF2 (C := RX0) rfl (c_X0_hasTown l D cA ad t hI F hW rc hrc p1) (cwV 1 S.2.2.2.2 gX0_worksIn_X0_hasTown rfl rfl rfl (by decide +kernel) ⟨Nat.le_of_ble_eq_true rfl, Nat.le_of_ble_eq_true rfl⟩) rfl rfl (Nat.le_of_ble_eq_true rfl) ⟨Nat.zero_le _, Nat.zero_le _⟩ dX0_worksIn_2 (fun r1 hr1 => ?_)
  obtain ⟨hr1, hm1⟩ := hr1
  obtain ⟨⟨b3, hb3, rfl⟩, hx3⟩ := hr1
  have hx3 : b3 ≠ 0 → 0 ≤ p1.toInt ∧ p1.toInt ≤ _ := fun q => hx3 (nI_ne0 (by omega) (by omega))
  have m4 : (m_X0_hasTown (AB ad F) rc p1) = (nI b3) := (congr (congr (Eq.refl (m_X0_hasTown (AB ad F))) (Eq.refl rc)) (Eq.refl (p1 : Int32))).trans hm1
  refine lv_if_eq (tgt := 33) S.1 S.2.1 dX0_worksIn_5 (by decide) (fun c5 => ?_) (fun c5 => ?_)
  · skip
    have k6 := ci_eq (nI_toInt (n := b3) (Nat.lt_of_le_of_lt hb3 (by decide))) z_ti c5
    refine lv_iconst (v := (nI 0)) S.1 S.2.1 dX0_worksIn_33 (by decide +kernel) ?_
    have hE7 : M = (nI 0) := hM.trans ((show m_X0_worksIn (AB ad F) rc p1 p2 = (nI 0) from by unfold m_X0_worksIn; rw [if_pos (eq_cg m4 rfl c5)]).trans rfl)
    exact hret 34 _ _ dX0_worksIn_34 rfl (⟨⟨⟨0, by omega, rfl⟩, fun h => absurd rfl h⟩, hM.symm.trans hE7⟩)
  have k8 := ci_ne (nI_toInt (n := b3) (Nat.lt_of_le_of_lt hb3 (by decide))) z_ti c5
  refine lv_aload_n S.1 S.2.1 dX0_worksIn_8 rfl (lv_at hl0 0 rfl) ?_
  refine r_get S hK hP rc (lt_C hrc) hF2 (C := RX0) (T := TX0) (N := 10) hiX0 rfl 6 (by decide) (am_at in_wsX0_worksIn_0 0 rfl) (v := .ref (ad (rc + 2))) rfl dX0_worksIn_9 ?_
  refine lv_iload_n S.1 S.2.1 dX0_worksIn_12 rfl (lv_at hl0 1 rfl) ?_
  obtain ⟨g9, hF9, hg9⟩ := wt_I hW (C2_I hrc)
  refine r_iald S hK hP (rc + 2) (lt_I (C2_I hrc)) hF9 (in_of (n := 8) (a := p1.toInt) rfl (by omega) (by omega)) dX0_worksIn_13 ?_
  refine lv_topi (fun v11 e11 => ?_)
  have m12 : ((AB ad F) (rc + 2) (rl p1)) = v11 := (ab_cg (congrArg (fun q : Nat => q + 2) (Eq.refl rc)) rfl).trans ((AB_g hF9).trans e11.symm)
  refine lv_aload_n S.1 S.2.1 dX0_worksIn_14 rfl (lv_at hl0 0 rfl) ?_
  refine r_get S hK hP rc (lt_C hrc) hF2 (C := RX0) (T := TX0) (N := 10) hiX0 rfl 1 (by decide) (am_at in_wsX0_worksIn_0 1 rfl) (v := .int fm2) rfl dX0_worksIn_15 ?_
  have m13 : ((AB ad F) rc 1) = fm2 := (congrArg (fun q => AB ad F q 1) rfl).trans (AB_f hF2 rfl)
  refine lv_iload_n S.1 S.2.1 dX0_worksIn_18 rfl (lv_at hl0 2 rfl) ?_
  refine lv_iadd S.1 S.2.1 dX0_worksIn_19 ?_
  refine lv_topi (fun v14 e14 => ?_)
  have m15 : (((AB ad F) rc 1) + p2) = v14 := cg2 (fun (x : Int32) (y : Int32) => x + y) m13 (Eq.refl (p2 : Int32)) e14
  refine lv_bipush (v := (nI 12)) S.1 S.2.1 dX0_worksIn_20 (by decide +kernel) ?_
  refine lv_irem S.1 S.2.1 dX0_worksIn_22 (by decide +kernel) ?_
  refine lv_topi (fun v16 e16 => ?_)
  have m17 : (irm (((AB ad F) rc 1) + p2) (nI 12)) = v16 := cg2 (fun (x : Int32) (y : Int32) => irm x y) m15 (Eq.refl ((nI 12) : Int32)) e16
  refine lv_ishr S.1 S.2.1 dX0_worksIn_23 ?_
  refine lv_topi (fun v18 e18 => ?_)
  have m19 : (((AB ad F) (rc + 2) (rl p1)) >>> ((irm (((AB ad F) rc 1) + p2) (nI 12)) &&& 31)) = v18 := cg2 (fun (x : Int32) (y : Int32) => x >>> (y &&& 31)) m12 m17 e18
  refine lv_iconst (v := (nI 1)) S.1 S.2.1 dX0_worksIn_24 (by decide +kernel) ?_
  refine lv_iand S.1 S.2.1 dX0_worksIn_25 ?_
  refine lv_topi (fun v20 e20 => ?_)
  have m21 : ((((AB ad F) (rc + 2) (rl p1)) >>> ((irm (((AB ad F) rc 1) + p2) (nI 12)) &&& 31)) &&& (nI 1)) = v20 := cg2 (fun (x : Int32) (y : Int32) => x &&& y) m19 (Eq.refl ((nI 1) : Int32)) e20
  refine lv_if_eq (tgt := 33) S.1 S.2.1 dX0_worksIn_26 (by decide) (fun c22 => ?_) (fun c22 => ?_)
  · skip
    have k23 := ci_eq rfl z_ti c22
    refine lv_iconst (v := (nI 0)) S.1 S.2.1 dX0_worksIn_33 (by decide +kernel) ?_
    have hE24 : M = (nI 0) := hM.trans ((show m_X0_worksIn (AB ad F) rc p1 p2 = (nI 0) from by unfold m_X0_worksIn; rw [if_neg (neq_cg m4 rfl c5), if_pos (eq_cg m21 rfl c22)]).trans rfl)
    exact hret 34 _ _ dX0_worksIn_34 rfl (⟨⟨⟨0, by omega, rfl⟩, fun h => absurd rfl h⟩, hM.symm.trans hE24⟩)
  have k25 := ci_ne rfl z_ti c22
  refine lv_iconst (v := (nI 1)) S.1 S.2.1 dX0_worksIn_29 (by decide +kernel) ?_
  refine lv_goto (tgt := 34) S.1 S.2.1 dX0_worksIn_30 (by decide) ?_
  have hE26 : M = (nI 1) := hM.trans ((show m_X0_worksIn (AB ad F) rc p1 p2 = (nI 1) from by unfold m_X0_worksIn; rw [if_neg (neq_cg m4 rfl c5), if_neg (neq_cg m21 rfl c22)]).trans rfl)
  exact hret 34 _ _ dX0_worksIn_34 rfl (⟨⟨⟨1, by omega, rfl⟩, fun _ => ⟨by omega, by omega⟩⟩, hM.symm.trans hE26⟩)
noncomputable def m_X0_gainIn (σ : SS) (a0 : Nat) (a1 : Int32) (a2 : Int32) : Int32 :=
  if (m_X0_worksIn σ a0 a1 a2) = (0 : Int32) then
    (nI 0)
  else
    (σ (a0 + 3) (rl a1))
set_option maxHeartbeats 4000000 in
set_option maxRecDepth 100000 in
theorem c_X0_gainIn (l : Launch) (D : va_G) (cA ad : Nat → Nat) (t : Nat) (hI : rI ad) (F : Nat → va_E) (hW : WT cA ad F) (rc : Nat) (hrc : isC rc) (p1 : Int32) (p2 : Int32) : MP l D cA ad t yX0_gainIn wsX0_gainIn { frames := 2, cells := 0, slots := 0, locals := 43 } [.ref (ad rc), .int p1, .int p2] F (fun r => (True) ∧ m_X0_gainIn (AB ad F) rc p1 p2 = r) := by
  refine en_P rfl (by decide +kernel) (Nat.le_of_ble_eq_true rfl) ?_
  intro p e s m args below meth c ls0 Q S hK hZ hP hS hl0 hret
  have hl0 : lv_has ls0 3 [(0, .ref (ad rc)), (1, .int p1), (2, .int p2)] := hl0
  have hiX0 : ∀ w ∈ u_ws RX0 TX0 10, w ∈ wsX0_gainIn := in_wsX0_gainIn_1
  obtain ⟨M, hM⟩ : ∃ M, M = m_X0_gainIn (AB ad F) rc p1 p2 := ⟨_, rfl⟩
  refine lv_aload_n S.1 S.2.1 dX0_gainIn_0 rfl (lv_at hl0 0 rfl) ?_
  refine lv_iload_n S.1 S.2.1 dX0_gainIn_1 rfl (lv_at hl0 1 rfl) ?_
  refine lv_iload_n S.1 S.2.1 dX0_gainIn_2 rfl (lv_at hl0 2 rfl) ?_
  obtain ⟨sl2, fm2, tn2, rn2, bn2, hF2, hb2_1, hb2_2, hb2_3⟩ := wt_C hW hrc
  refine r_cVp (As := [.int p1, .int p2]) (rest := []) S hK hZ hP hS hl0.1 rc (lt_C hrc) hF2 (C := RX0) rfl (c_X0_worksIn l D cA ad t hI F hW rc hrc p1 p2) (cwV 2 S.2.2.2.2 gX0_gainIn_X0_worksIn rfl rfl rfl (by decide +kernel) ⟨Nat.le_of_ble_eq_true rfl, Nat.le_of_ble_eq_true rfl⟩) rfl rfl (Nat.le_of_ble_eq_true rfl) ⟨Nat.zero_le _, Nat.zero_le _⟩ dX0_gainIn_3 (fun r1 hr1 => ?_)
  obtain ⟨hr1, hm1⟩ := hr1
  obtain ⟨⟨b3, hb3, rfl⟩, hx3⟩ := hr1
  have hx3 : b3 ≠ 0 → 0 ≤ p1.toInt ∧ p1.toInt ≤ _ := fun q => hx3 (nI_ne0 (by omega) (by omega))
  have m4 : (m_X0_worksIn (AB ad F) rc p1 p2) = (nI b3) := (congr (congr (congr (Eq.refl (m_X0_worksIn (AB ad F))) (Eq.refl rc)) (Eq.refl (p1 : Int32))) (Eq.refl (p2 : Int32))).trans hm1
  refine lv_if_eq (tgt := 18) S.1 S.2.1 dX0_gainIn_6 (by decide) (fun c5 => ?_) (fun c5 => ?_)
  · skip
    have k6 := ci_eq (nI_toInt (n := b3) (Nat.lt_of_le_of_lt hb3 (by decide))) z_ti c5
    refine lv_iconst (v := (nI 0)) S.1 S.2.1 dX0_gainIn_18 (by decide +kernel) ?_
    have hE7 : M = (nI 0) := hM.trans ((show m_X0_gainIn (AB ad F) rc p1 p2 = (nI 0) from by unfold m_X0_gainIn; rw [if_pos (eq_cg m4 rfl c5)]).trans rfl)
    exact hret 19 _ _ dX0_gainIn_19 rfl (⟨trivial, hM.symm.trans hE7⟩)
  have k8 := ci_ne (nI_toInt (n := b3) (Nat.lt_of_le_of_lt hb3 (by decide))) z_ti c5
  refine lv_aload_n S.1 S.2.1 dX0_gainIn_9 rfl (lv_at hl0 0 rfl) ?_
  refine r_get S hK hP rc (lt_C hrc) hF2 (C := RX0) (T := TX0) (N := 10) hiX0 rfl 7 (by decide) (am_at in_wsX0_gainIn_0 0 rfl) (v := .ref (ad (rc + 3))) rfl dX0_gainIn_10 ?_
  refine lv_iload_n S.1 S.2.1 dX0_gainIn_13 rfl (lv_at hl0 1 rfl) ?_
  obtain ⟨g9, hF9, hg9⟩ := wt_I hW (C3_I hrc)
  refine r_iald S hK hP (rc + 3) (lt_I (C3_I hrc)) hF9 (in_of (n := 8) (a := p1.toInt) rfl (by omega) (by omega)) dX0_gainIn_14 ?_
  refine lv_topi (fun v11 e11 => ?_)
  have m12 : ((AB ad F) (rc + 3) (rl p1)) = v11 := (ab_cg (congrArg (fun q : Nat => q + 3) (Eq.refl rc)) rfl).trans ((AB_g hF9).trans e11.symm)
  refine lv_goto (tgt := 19) S.1 S.2.1 dX0_gainIn_15 (by decide) ?_
  have hE13 : M = v11 := hM.trans ((show m_X0_gainIn (AB ad F) rc p1 p2 = ((AB ad F) (rc + 3) (rl p1)) from by unfold m_X0_gainIn; rw [if_neg (neq_cg m4 rfl c5)]).trans m12)
  exact hret 19 _ _ dX0_gainIn_19 rfl (⟨trivial, hM.symm.trans hE13⟩)
noncomputable def m_X0_neighbours_L5_3_b (k0 : SS → Int32 → Int32 → Nat → Int32 → Int32 → Int32) (σ : SS) (a0 : Int32) (a1 : Int32) (a2 : Nat) (a3 : Int32) (a4 : Int32) : Int32 :=
  if (σ a2 3) ≤ a0 then
    a1
  else
    if ((a4 >>> (a0 &&& 31)) &&& (nI 1)) = (0 : Int32) then
      if (σ (a2 + 4) (rl a0)) = a3 then
        k0 σ (a0 + Int32.ofInt (1)) (a1 ||| ((nI 1) <<< ((σ (a2 + 5) (rl a0)) &&& 31))) a2 a3 a4
      else
        if (σ (a2 + 5) (rl a0)) = a3 then
          k0 σ (a0 + Int32.ofInt (1)) (a1 ||| ((nI 1) <<< ((σ (a2 + 4) (rl a0)) &&& 31))) a2 a3 a4
        else
          k0 σ (a0 + Int32.ofInt (1)) a1 a2 a3 a4
    else
      k0 σ (a0 + Int32.ofInt (1)) a1 a2 a3 a4
noncomputable def m_X0_neighbours_L5_3 : Nat → SS → Int32 → Int32 → Nat → Int32 → Int32 → Int32
  | 0 => fun σ _ _ _ _ _ => 0
  | n + 1 => m_X0_neighbours_L5_3_b (m_X0_neighbours_L5_3 n)
noncomputable def m_X0_neighbours (σ : SS) (a0 : Nat) (a1 : Int32) (a2 : Int32) : Int32 :=
  m_X0_neighbours_L5_3 2000 σ (nI 0) (nI 0) a0 a1 a2
set_option maxHeartbeats 4000000 in
set_option maxRecDepth 100000 in
theorem c_X0_neighbours (l : Launch) (D : va_G) (cA ad : Nat → Nat) (t : Nat) (hI : rI ad) (F : Nat → va_E) (hW : WT cA ad F) (rc : Nat) (hrc : isC rc) (p1 : Int32) (p2 : Int32) : MP l D cA ad t yX0_neighbours wsX0_neighbours { frames := 0, cells := 0, slots := 0, locals := 0 } [.ref (ad rc), .int p1, .int p2] F (fun r => (True) ∧ m_X0_neighbours (AB ad F) rc p1 p2 = r) := by
  refine en_P rfl (by decide +kernel) (Nat.le_of_ble_eq_true rfl) ?_
  intro p e s m args below meth c ls0 Q S hK hZ hP hS hl0 hret
  have hl0 : lv_has ls0 5 [(0, .ref (ad rc)), (1, .int p1), (2, .int p2)] := hl0
  have hiX0 : ∀ w ∈ u_ws RX0 TX0 10, w ∈ wsX0_neighbours := in_wsX0_neighbours_1
  obtain ⟨M, hM⟩ : ∃ M, M = m_X0_neighbours (AB ad F) rc p1 p2 := ⟨_, rfl⟩
  refine lv_iconst (v := (nI 0)) S.1 S.2.1 dX0_neighbours_0 (by decide +kernel) ?_
  refine lv_istore_n (lv' := [(3, .int (nI 0)), (0, .ref (ad rc)), (1, .int p1), (2, .int p2)]) S.1 S.2.1 dX0_neighbours_1 rfl hl0 (by decide) rfl (fun ls1 hl1 => ?_)
  refine lv_iconst (v := (nI 0)) S.1 S.2.1 dX0_neighbours_2 (by decide +kernel) ?_
  refine lv_istore (lv' := [(4, .int (nI 0)), (3, .int (nI 0)), (0, .ref (ad rc)), (1, .int p1), (2, .int p2)]) S.1 S.2.1 dX0_neighbours_3 hl1 (by decide) rfl (fun ls2 hl2 => ?_)
  have lp3 : ∀ (n3 : Nat) (q43 : Nat) (x3_3 : Int32), q43 ≤ 12 → 12 - q43 < n3 → M = m_X0_neighbours_L5_3 n3 (AB ad F) (nI q43) x3_3 rc p1 p2 → ∀ (ls : Array Slot), lv_has ls 5 [(4, .int (nI q43)), (3, .int x3_3), (0, .ref (ad rc)), (1, .int p1), (2, .int p2)] → W p l e { frames := 0, cells := 0, slots := 0, locals := 0 } s m args below meth c s.heap [] 0 0 Q (F0 m 5 ls []) := by
    intro n3
    induction n3 with
    | zero =>
      intro q43 x3_3 iv3_0 hm3 hEl3 ls3 hl3
      exact absurd hm3 (Nat.not_lt_zero _)
    | succ n3 ih3 =>
      intro q43 x3_3 iv3_0 hm3 hEl3 ls3 hl3
      have hE4 : M = m_X0_neighbours_L5_3_b (m_X0_neighbours_L5_3 n3) (AB ad F) (nI q43) x3_3 rc p1 p2 := hEl3
      refine lv_iload S.1 S.2.1 dX0_neighbours_5 (lv_at hl3 0 rfl) ?_
      refine lv_aload_n S.1 S.2.1 dX0_neighbours_7 rfl (lv_at hl3 2 rfl) ?_
      obtain ⟨sl5, fm5, tn5, rn5, bn5, hF5, hb5_1, hb5_2, hb5_3⟩ := wt_C hW hrc
      refine r_get S hK hP rc (lt_C hrc) hF5 (C := RX0) (T := TX0) (N := 10) hiX0 rfl 3 (by decide) (am_at in_wsX0_neighbours_0 0 rfl) (v := .int (nI rn5)) rfl dX0_neighbours_8 ?_
      have m6 : ((AB ad F) rc 3) = (nI rn5) := (congrArg (fun q => AB ad F q 3) rfl).trans (AB_f hF5 rfl)
      refine lv_icmp_ge (tgt := 81) S.1 S.2.1 dX0_neighbours_11 (by decide) (fun c7 => ?_) (fun c7 => ?_)
      · skip
        have k8 := ci_le (nI_toInt (n := rn5) (by omega)) (nI_toInt (n := q43) (by omega)) c7
        refine lv_iload_n S.1 S.2.1 dX0_neighbours_81 rfl (lv_at hl3 1 rfl) ?_
        have hE9 : M = x3_3 := hE4.trans ((show m_X0_neighbours_L5_3_b (m_X0_neighbours_L5_3 n3) (AB ad F) (nI q43) x3_3 rc p1 p2 = x3_3 from by unfold m_X0_neighbours_L5_3_b; rw [if_pos (le_cg m6 rfl c7)]).trans rfl)
        exact hret 82 _ _ dX0_neighbours_82 rfl (⟨trivial, hM.symm.trans hE9⟩)
      have k10 := ci_nle (nI_toInt (n := rn5) (by omega)) (nI_toInt (n := q43) (by omega)) c7
      refine lv_iload_n S.1 S.2.1 dX0_neighbours_14 rfl (lv_at hl3 4 rfl) ?_
      refine lv_iload S.1 S.2.1 dX0_neighbours_15 (lv_at hl3 0 rfl) ?_
      refine lv_ishr S.1 S.2.1 dX0_neighbours_17 ?_
      refine lv_topi (fun v11 e11 => ?_)
      have m12 : (p2 >>> ((nI q43) &&& 31)) = v11 := cg2 (fun (x : Int32) (y : Int32) => x >>> (y &&& 31)) (Eq.refl (p2 : Int32)) (Eq.refl ((nI q43) : Int32)) e11
      refine lv_iconst (v := (nI 1)) S.1 S.2.1 dX0_neighbours_18 (by decide +kernel) ?_
      refine lv_iand S.1 S.2.1 dX0_neighbours_19 ?_
      refine lv_topi (fun v13 e13 => ?_)
      have m14 : ((p2 >>> ((nI q43) &&& 31)) &&& (nI 1)) = v13 := cg2 (fun (x : Int32) (y : Int32) => x &&& y) m12 (Eq.refl ((nI 1) : Int32)) e13
      refine lv_if_eq (tgt := 26) S.1 S.2.1 dX0_neighbours_20 (by decide) (fun c15 => ?_) (fun c15 => ?_)
      · skip
        have k16 := ci_eq rfl z_ti c15
        refine lv_aload_n S.1 S.2.1 dX0_neighbours_26 rfl (lv_at hl3 2 rfl) ?_
        refine r_get S hK hP rc (lt_C hrc) hF5 (C := RX0) (T := TX0) (N := 10) hiX0 rfl 8 (by decide) (am_at in_wsX0_neighbours_0 1 rfl) (v := .ref (ad (rc + 4))) rfl dX0_neighbours_27 ?_
        refine lv_iload S.1 S.2.1 dX0_neighbours_30 (lv_at hl3 0 rfl) ?_
        obtain ⟨g17, hF17, hg17⟩ := wt_I hW (C4_I hrc)
        refine r_iald S hK hP (rc + 4) (lt_I (C4_I hrc)) hF17 (vp_in_nI (show q43 < 12 by omega) (by omega)) dX0_neighbours_32 ?_
        refine lv_topi (fun v19 e19 => ?_)
        have m20 : ((AB ad F) (rc + 4) (rl (nI q43))) = v19 := (ab_cg (congrArg (fun q : Nat => q + 4) (Eq.refl rc)) rfl).trans ((AB_g hF17).trans e19.symm)
        refine lv_iload_n S.1 S.2.1 dX0_neighbours_33 rfl (lv_at hl3 3 rfl) ?_
        refine lv_icmp_ne (tgt := 52) S.1 S.2.1 dX0_neighbours_34 (by decide) (fun c21 => ?_) (fun c21 => ?_)
        · skip
          have k22 := ci_ne rfl rfl c21
          refine lv_aload_n S.1 S.2.1 dX0_neighbours_52 rfl (lv_at hl3 2 rfl) ?_
          refine r_get S hK hP rc (lt_C hrc) hF5 (C := RX0) (T := TX0) (N := 10) hiX0 rfl 9 (by decide) (am_at in_wsX0_neighbours_0 2 rfl) (v := .ref (ad (rc + 5))) rfl dX0_neighbours_53 ?_
          refine lv_iload S.1 S.2.1 dX0_neighbours_56 (lv_at hl3 0 rfl) ?_
          obtain ⟨g23, hF23, hg23⟩ := wt_I hW (C5_I hrc)
          refine r_iald S hK hP (rc + 5) (lt_I (C5_I hrc)) hF23 (vp_in_nI (show q43 < 12 by omega) (by omega)) dX0_neighbours_58 ?_
          refine lv_topi (fun v25 e25 => ?_)
          have m26 : ((AB ad F) (rc + 5) (rl (nI q43))) = v25 := (ab_cg (congrArg (fun q : Nat => q + 5) (Eq.refl rc)) rfl).trans ((AB_g hF23).trans e25.symm)
          refine lv_iload_n S.1 S.2.1 dX0_neighbours_59 rfl (lv_at hl3 3 rfl) ?_
          refine lv_icmp_ne (tgt := 75) S.1 S.2.1 dX0_neighbours_60 (by decide) (fun c27 => ?_) (fun c27 => ?_)
          · skip
            have k28 := ci_ne rfl rfl c27
            have m30 : ((nI q43) + Int32.ofInt (1)) = (nI (q43 + 1)) := (congrArg (fun q : Int32 => q + Int32.ofInt (1)) rfl).trans (nI_add _ 1)
            refine lv_iinc (v := (nI (q43 + 1))) (lv' := [(4, .int (nI (q43 + 1))), (3, .int x3_3), (0, .ref (ad rc)), (1, .int p1), (2, .int p2)]) S.1 S.2.1 dX0_neighbours_75 hl3 (k := 0) rfl (nI_add _ 1) (by decide) rfl (fun ls29 hl29 => ?_)
            refine lv_goto (tgt := 5) S.1 S.2.1 dX0_neighbours_78 (by decide) ?_
            have hE31 : M = (m_X0_neighbours_L5_3 n3) (AB ad F) (nI (q43 + 1)) x3_3 rc p1 p2 := hE4.trans ((show m_X0_neighbours_L5_3_b (m_X0_neighbours_L5_3 n3) (AB ad F) (nI q43) x3_3 rc p1 p2 = (m_X0_neighbours_L5_3 n3) (AB ad F) ((nI q43) + Int32.ofInt (1)) x3_3 rc p1 p2 from by unfold m_X0_neighbours_L5_3_b; rw [if_neg (nle_cg m6 rfl c7), if_pos (eq_cg m14 rfl c15), if_neg (neq_cg m20 rfl c21), if_neg (neq_cg m26 rfl c27)]).trans (congr (congr (congr (congr (congr (congrArg ((m_X0_neighbours_L5_3 n3)) (rfl : AB ad F = AB ad F)) m30) (Eq.refl (x3_3 : Int32))) (Eq.refl rc)) (Eq.refl (p1 : Int32))) (Eq.refl (p2 : Int32))))
            exact ih3 (q43 + 1) (x3_3) (by omega) (by omega) hE31 ls29 (lv_sub hl29 [0, 1, 2, 3, 4] rfl)
          have k32 := ci_eq rfl rfl c27
          refine lv_iload_n S.1 S.2.1 dX0_neighbours_63 rfl (lv_at hl3 1 rfl) ?_
          refine lv_iconst (v := (nI 1)) S.1 S.2.1 dX0_neighbours_64 (by decide +kernel) ?_
          refine lv_aload_n S.1 S.2.1 dX0_neighbours_65 rfl (lv_at hl3 2 rfl) ?_
          refine r_get S hK hP rc (lt_C hrc) hF5 (C := RX0) (T := TX0) (N := 10) hiX0 rfl 8 (by decide) (am_at in_wsX0_neighbours_0 1 rfl) (v := .ref (ad (rc + 4))) rfl dX0_neighbours_66 ?_
          refine lv_iload S.1 S.2.1 dX0_neighbours_69 (lv_at hl3 0 rfl) ?_
          refine r_iald S hK hP (rc + 4) (lt_I (C4_I hrc)) hF17 (vp_in_nI (show q43 < 12 by omega) (by omega)) dX0_neighbours_71 ?_
          refine lv_topi (fun v34 e34 => ?_)
          have m35 : ((AB ad F) (rc + 4) (rl (nI q43))) = v34 := (ab_cg (congrArg (fun q : Nat => q + 4) (Eq.refl rc)) rfl).trans ((AB_g hF17).trans e34.symm)
          refine lv_ishl S.1 S.2.1 dX0_neighbours_72 ?_
          refine lv_topi (fun v36 e36 => ?_)
          have m37 : ((nI 1) <<< (((AB ad F) (rc + 4) (rl (nI q43))) &&& 31)) = v36 := cg2 (fun (x : Int32) (y : Int32) => x <<< (y &&& 31)) (Eq.refl ((nI 1) : Int32)) m35 e36
          refine lv_ior S.1 S.2.1 dX0_neighbours_73 ?_
          refine lv_topi (fun v38 e38 => ?_)
          have m39 : (x3_3 ||| ((nI 1) <<< (((AB ad F) (rc + 4) (rl (nI q43))) &&& 31))) = v38 := cg2 (fun (x : Int32) (y : Int32) => x ||| y) (Eq.refl (x3_3 : Int32)) m37 e38
          refine lv_istore_n (lv' := [(3, .int v38), (4, .int (nI q43)), (0, .ref (ad rc)), (1, .int p1), (2, .int p2)]) S.1 S.2.1 dX0_neighbours_74 rfl hl3 (by decide) rfl (fun ls40 hl40 => ?_)
          have m42 : ((nI q43) + Int32.ofInt (1)) = (nI (q43 + 1)) := (congrArg (fun q : Int32 => q + Int32.ofInt (1)) rfl).trans (nI_add _ 1)
          refine lv_iinc (v := (nI (q43 + 1))) (lv' := [(4, .int (nI (q43 + 1))), (3, .int v38), (0, .ref (ad rc)), (1, .int p1), (2, .int p2)]) S.1 S.2.1 dX0_neighbours_75 hl40 (k := 1) rfl (nI_add _ 1) (by decide) rfl (fun ls41 hl41 => ?_)
          refine lv_goto (tgt := 5) S.1 S.2.1 dX0_neighbours_78 (by decide) ?_
          have hE43 : M = (m_X0_neighbours_L5_3 n3) (AB ad F) (nI (q43 + 1)) v38 rc p1 p2 := hE4.trans ((show m_X0_neighbours_L5_3_b (m_X0_neighbours_L5_3 n3) (AB ad F) (nI q43) x3_3 rc p1 p2 = (m_X0_neighbours_L5_3 n3) (AB ad F) ((nI q43) + Int32.ofInt (1)) (x3_3 ||| ((nI 1) <<< (((AB ad F) (rc + 4) (rl (nI q43))) &&& 31))) rc p1 p2 from by unfold m_X0_neighbours_L5_3_b; rw [if_neg (nle_cg m6 rfl c7), if_pos (eq_cg m14 rfl c15), if_neg (neq_cg m20 rfl c21), if_pos (eq_cg m26 rfl c27)]).trans (congr (congr (congr (congr (congr (congrArg ((m_X0_neighbours_L5_3 n3)) (rfl : AB ad F = AB ad F)) m42) m39) (Eq.refl rc)) (Eq.refl (p1 : Int32))) (Eq.refl (p2 : Int32))))
          exact ih3 (q43 + 1) (v38) (by omega) (by omega) hE43 ls41 (lv_sub hl41 [0, 1, 2, 3, 4] rfl)
        have k44 := ci_eq rfl rfl c21
        refine lv_iload_n S.1 S.2.1 dX0_neighbours_37 rfl (lv_at hl3 1 rfl) ?_
        refine lv_iconst (v := (nI 1)) S.1 S.2.1 dX0_neighbours_38 (by decide +kernel) ?_
        refine lv_aload_n S.1 S.2.1 dX0_neighbours_39 rfl (lv_at hl3 2 rfl) ?_
        refine r_get S hK hP rc (lt_C hrc) hF5 (C := RX0) (T := TX0) (N := 10) hiX0 rfl 9 (by decide) (am_at in_wsX0_neighbours_0 2 rfl) (v := .ref (ad (rc + 5))) rfl dX0_neighbours_40 ?_
        refine lv_iload S.1 S.2.1 dX0_neighbours_43 (lv_at hl3 0 rfl) ?_
        obtain ⟨g45, hF45, hg45⟩ := wt_I hW (C5_I hrc)
        refine r_iald S hK hP (rc + 5) (lt_I (C5_I hrc)) hF45 (vp_in_nI (show q43 < 12 by omega) (by omega)) dX0_neighbours_45 ?_
        refine lv_topi (fun v47 e47 => ?_)
        have m48 : ((AB ad F) (rc + 5) (rl (nI q43))) = v47 := (ab_cg (congrArg (fun q : Nat => q + 5) (Eq.refl rc)) rfl).trans ((AB_g hF45).trans e47.symm)
        refine lv_ishl S.1 S.2.1 dX0_neighbours_46 ?_
        refine lv_topi (fun v49 e49 => ?_)
        have m50 : ((nI 1) <<< (((AB ad F) (rc + 5) (rl (nI q43))) &&& 31)) = v49 := cg2 (fun (x : Int32) (y : Int32) => x <<< (y &&& 31)) (Eq.refl ((nI 1) : Int32)) m48 e49
        refine lv_ior S.1 S.2.1 dX0_neighbours_47 ?_
        refine lv_topi (fun v51 e51 => ?_)
        have m52 : (x3_3 ||| ((nI 1) <<< (((AB ad F) (rc + 5) (rl (nI q43))) &&& 31))) = v51 := cg2 (fun (x : Int32) (y : Int32) => x ||| y) (Eq.refl (x3_3 : Int32)) m50 e51
        refine lv_istore_n (lv' := [(3, .int v51), (4, .int (nI q43)), (0, .ref (ad rc)), (1, .int p1), (2, .int p2)]) S.1 S.2.1 dX0_neighbours_48 rfl hl3 (by decide) rfl (fun ls53 hl53 => ?_)
        refine lv_goto (tgt := 75) S.1 S.2.1 dX0_neighbours_49 (by decide) ?_
        have m55 : ((nI q43) + Int32.ofInt (1)) = (nI (q43 + 1)) := (congrArg (fun q : Int32 => q + Int32.ofInt (1)) rfl).trans (nI_add _ 1)
        refine lv_iinc (v := (nI (q43 + 1))) (lv' := [(4, .int (nI (q43 + 1))), (3, .int v51), (0, .ref (ad rc)), (1, .int p1), (2, .int p2)]) S.1 S.2.1 dX0_neighbours_75 hl53 (k := 1) rfl (nI_add _ 1) (by decide) rfl (fun ls54 hl54 => ?_)
        refine lv_goto (tgt := 5) S.1 S.2.1 dX0_neighbours_78 (by decide) ?_
        have hE56 : M = (m_X0_neighbours_L5_3 n3) (AB ad F) (nI (q43 + 1)) v51 rc p1 p2 := hE4.trans ((show m_X0_neighbours_L5_3_b (m_X0_neighbours_L5_3 n3) (AB ad F) (nI q43) x3_3 rc p1 p2 = (m_X0_neighbours_L5_3 n3) (AB ad F) ((nI q43) + Int32.ofInt (1)) (x3_3 ||| ((nI 1) <<< (((AB ad F) (rc + 5) (rl (nI q43))) &&& 31))) rc p1 p2 from by unfold m_X0_neighbours_L5_3_b; rw [if_neg (nle_cg m6 rfl c7), if_pos (eq_cg m14 rfl c15), if_pos (eq_cg m20 rfl c21)]).trans (congr (congr (congr (congr (congr (congrArg ((m_X0_neighbours_L5_3 n3)) (rfl : AB ad F = AB ad F)) m55) m52) (Eq.refl rc)) (Eq.refl (p1 : Int32))) (Eq.refl (p2 : Int32))))
        exact ih3 (q43 + 1) (v51) (by omega) (by omega) hE56 ls54 (lv_sub hl54 [0, 1, 2, 3, 4] rfl)
      have k57 := ci_ne rfl z_ti c15
      refine lv_goto (tgt := 75) S.1 S.2.1 dX0_neighbours_23 (by decide) ?_
      have m59 : ((nI q43) + Int32.ofInt (1)) = (nI (q43 + 1)) := (congrArg (fun q : Int32 => q + Int32.ofInt (1)) rfl).trans (nI_add _ 1)
      refine lv_iinc (v := (nI (q43 + 1))) (lv' := [(4, .int (nI (q43 + 1))), (3, .int x3_3), (0, .ref (ad rc)), (1, .int p1), (2, .int p2)]) S.1 S.2.1 dX0_neighbours_75 hl3 (k := 0) rfl (nI_add _ 1) (by decide) rfl (fun ls58 hl58 => ?_)
      refine lv_goto (tgt := 5) S.1 S.2.1 dX0_neighbours_78 (by decide) ?_
      have hE60 : M = (m_X0_neighbours_L5_3 n3) (AB ad F) (nI (q43 + 1)) x3_3 rc p1 p2 := hE4.trans ((show m_X0_neighbours_L5_3_b (m_X0_neighbours_L5_3 n3) (AB ad F) (nI q43) x3_3 rc p1 p2 = (m_X0_neighbours_L5_3 n3) (AB ad F) ((nI q43) + Int32.ofInt (1)) x3_3 rc p1 p2 from by unfold m_X0_neighbours_L5_3_b; rw [if_neg (nle_cg m6 rfl c7), if_neg (neq_cg m14 rfl c15)]).trans (congr (congr (congr (congr (congr (congrArg ((m_X0_neighbours_L5_3 n3)) (rfl : AB ad F = AB ad F)) m59) (Eq.refl (x3_3 : Int32))) (Eq.refl rc)) (Eq.refl (p1 : Int32))) (Eq.refl (p2 : Int32))))
      exact ih3 (q43 + 1) (x3_3) (by omega) (by omega) hE60 ls58 (lv_sub hl58 [0, 1, 2, 3, 4] rfl)
  have hE61 : M = m_X0_neighbours_L5_3 2000 (AB ad F) (nI 0) (nI 0) rc p1 p2 := hM.trans ((show m_X0_neighbours (AB ad F) rc p1 p2 = m_X0_neighbours_L5_3 2000 (AB ad F) (nI 0) (nI 0) rc p1 p2 from rfl).trans (congr (congr (congr (congr (congr (congrArg (m_X0_neighbours_L5_3 2000) (rfl : AB ad F = AB ad F)) (Eq.refl ((nI 0) : Int32))) (Eq.refl ((nI 0) : Int32))) (Eq.refl rc)) (Eq.refl (p1 : Int32))) (Eq.refl (p2 : Int32))))
  exact lp3 2000 (0) ((nI 0)) (by omega) (by omega) hE61 ls2 (lv_sub hl2 [0, 1, 2, 3, 4] rfl)
noncomputable def m_X0_walksFrom (σ : SS) (a0 : Nat) (a1 : Int32) (a2 : Int32) : Int32 :=
  ((m_X0_neighbours σ a0 a1 a2) &&& ((σ a0 4) ^^^ ((-1) : Int32)))
set_option maxHeartbeats 4000000 in
set_option maxRecDepth 100000 in
theorem c_X0_walksFrom (l : Launch) (D : va_G) (cA ad : Nat → Nat) (t : Nat) (hI : rI ad) (F : Nat → va_E) (hW : WT cA ad F) (rc : Nat) (hrc : isC rc) (p1 : Int32) (p2 : Int32) : MP l D cA ad t yX0_walksFrom wsX0_walksFrom { frames := 1, cells := 0, slots := 0, locals := 24 } [.ref (ad rc), .int p1, .int p2] F (fun r => (True) ∧ m_X0_walksFrom (AB ad F) rc p1 p2 = r) := by
  refine en_P rfl (by decide +kernel) (Nat.le_of_ble_eq_true rfl) ?_
  intro p e s m args below meth c ls0 Q S hK hZ hP hS hl0 hret
  have hl0 : lv_has ls0 3 [(0, .ref (ad rc)), (1, .int p1), (2, .int p2)] := hl0
  have hiX0 : ∀ w ∈ u_ws RX0 TX0 10, w ∈ wsX0_walksFrom := in_wsX0_walksFrom_1
  obtain ⟨M, hM⟩ : ∃ M, M = m_X0_walksFrom (AB ad F) rc p1 p2 := ⟨_, rfl⟩
  refine lv_aload_n S.1 S.2.1 dX0_walksFrom_0 rfl (lv_at hl0 0 rfl) ?_
  refine lv_iload_n S.1 S.2.1 dX0_walksFrom_1 rfl (lv_at hl0 1 rfl) ?_
  refine lv_iload_n S.1 S.2.1 dX0_walksFrom_2 rfl (lv_at hl0 2 rfl) ?_
  obtain ⟨sl2, fm2, tn2, rn2, bn2, hF2, hb2_1, hb2_2, hb2_3⟩ := wt_C hW hrc
  refine r_cVp (As := [.int p1, .int p2]) (rest := []) S hK hZ hP hS hl0.1 rc (lt_C hrc) hF2 (C := RX0) rfl (c_X0_neighbours l D cA ad t hI F hW rc hrc p1 p2) (cwV 2 S.2.2.2.2 gX0_walksFrom_X0_neighbours rfl rfl rfl (by decide +kernel) ⟨Nat.le_of_ble_eq_true rfl, Nat.le_of_ble_eq_true rfl⟩) rfl rfl (Nat.le_of_ble_eq_true rfl) ⟨Nat.zero_le _, Nat.zero_le _⟩ dX0_walksFrom_3 (fun r1 hr1 => ?_)
  obtain ⟨hr1, hm1⟩ := hr1
  have m3 : (m_X0_neighbours (AB ad F) rc p1 p2) = r1 := (congr (congr (congr (Eq.refl (m_X0_neighbours (AB ad F))) (Eq.refl rc)) (Eq.refl (p1 : Int32))) (Eq.refl (p2 : Int32))).trans hm1
  refine lv_aload_n S.1 S.2.1 dX0_walksFrom_6 rfl (lv_at hl0 0 rfl) ?_
  refine r_get S hK hP rc (lt_C hrc) hF2 (C := RX0) (T := TX0) (N := 10) hiX0 rfl 4 (by decide) (am_at in_wsX0_walksFrom_0 0 rfl) (v := .int bn2) rfl dX0_walksFrom_7 ?_
  have m4 : ((AB ad F) rc 4) = bn2 := (congrArg (fun q => AB ad F q 4) rfl).trans (AB_f hF2 rfl)
  refine lv_iconst (v := (-1)) S.1 S.2.1 dX0_walksFrom_10 (by decide +kernel) ?_
  refine lv_ixor S.1 S.2.1 dX0_walksFrom_11 ?_
  refine lv_topi (fun v5 e5 => ?_)
  have m6 : (((AB ad F) rc 4) ^^^ ((-1) : Int32)) = v5 := cg2 (fun (x : Int32) (y : Int32) => x ^^^ y) m4 (Eq.refl ((-1) : Int32)) e5
  refine lv_iand S.1 S.2.1 dX0_walksFrom_12 ?_
  refine lv_topi (fun v7 e7 => ?_)
  have m8 : ((m_X0_neighbours (AB ad F) rc p1 p2) &&& (((AB ad F) rc 4) ^^^ ((-1) : Int32))) = v7 := cg2 (fun (x : Int32) (y : Int32) => x &&& y) m3 m6 e7
  have hE9 : M = v7 := hM.trans ((show m_X0_walksFrom (AB ad F) rc p1 p2 = ((m_X0_neighbours (AB ad F) rc p1 p2) &&& (((AB ad F) rc 4) ^^^ ((-1) : Int32))) from rfl).trans m8)
  exact hret 13 _ _ dX0_walksFrom_13 rfl (⟨trivial, hM.symm.trans hE9⟩)
noncomputable def m_X0_fillExits_23 (k0 : SS → Int32 → Nat → Nat → Int32 → SS) (σ : SS) (a0 : Int32) (a1 : Nat) (a2 : Nat) (a3 : Int32) : SS :=
  k0 σ (a0 + Int32.ofInt (1)) a1 a2 a3
noncomputable def m_X0_fillExits_14 (k0 : SS → Int32 → Nat → Nat → Int32 → SS) (σ : SS) (a0 : Int32) (a1 : Nat) (a2 : Nat) (a3 : Int32) : SS :=
  k0 σ (a0 + Int32.ofInt (1)) a1 a2 a3
noncomputable def m_X0_fillExits_L2_2_b (k0 : SS → Int32 → Nat → Nat → Int32 → SS) (σ : SS) (a0 : Int32) (a1 : Nat) (a2 : Nat) (a3 : Int32) : SS :=
  if (nI 8) ≤ a0 then
    σ
  else
    if (σ a1 2) ≤ a0 then
      m_X0_fillExits_14 k0 (st σ a2 (rl a0) (nI 0)) a0 a1 a2 a3
    else
      m_X0_fillExits_23 k0 (st σ a2 (rl a0) (m_X0_walksFrom σ a1 a0 a3)) a0 a1 a2 a3
noncomputable def m_X0_fillExits_L2_2 : Nat → SS → Int32 → Nat → Nat → Int32 → SS
  | 0 => fun σ _ _ _ _ => σ
  | n + 1 => m_X0_fillExits_L2_2_b (m_X0_fillExits_L2_2 n)
noncomputable def m_X0_fillExits (σ : SS) (a0 : Nat) (a1 : Nat) (a2 : Int32) : SS :=
  m_X0_fillExits_L2_2 2000 σ (nI 0) a0 a1 a2
set_option maxHeartbeats 4000000 in
set_option maxRecDepth 100000 in
theorem c_X0_fillExits (l : Launch) (D : va_G) (cA ad : Nat → Nat) (t : Nat) (hI : rI ad) (F : Nat → va_E) (hW : WT cA ad F) (rc : Nat) (hrc : isC rc) (ra : Nat) (hra : (ra, 8) ∈ rLI) (hura : ra ∉ [60, 61, 62, 63, 64, 66]) (p2 : Int32) : MV l D cA ad t yX0_fillExits wsX0_fillExits { frames := 2, cells := 0, slots := 0, locals := 46 } [.ref (ad rc), .ref (ad ra), .int p2] F (fun F' => WT cA ad F' ∧ rFr [ra] F F' ∧ ((True) ∧ m_X0_fillExits (AB ad F) rc ra p2 = AB ad F')) := by
  refine en_V rfl (by decide +kernel) (Nat.le_of_ble_eq_true rfl) ?_
  intro p e s m args below meth c ls0 Q S hK hZ hP hS hl0 hret
  have hl0 : lv_has ls0 4 [(0, .ref (ad rc)), (1, .ref (ad ra)), (2, .int p2)] := hl0
  have hFr : rFr [ra] F F := rFr.rf
  have hiX0 : ∀ w ∈ u_ws RX0 TX0 10, w ∈ wsX0_fillExits := in_wsX0_fillExits_1
  obtain ⟨M, hM⟩ : ∃ M, M = m_X0_fillExits (AB ad F) rc ra p2 := ⟨_, rfl⟩
  refine lv_iconst (v := (nI 0)) S.1 S.2.1 dX0_fillExits_0 (by decide +kernel) ?_
  refine lv_istore_n (lv' := [(3, .int (nI 0)), (0, .ref (ad rc)), (1, .ref (ad ra)), (2, .int p2)]) S.1 S.2.1 dX0_fillExits_1 rfl hl0 (by decide) rfl (fun ls1 hl1 => ?_)
  have lp2 : ∀ (n2 : Nat) (q32 : Nat), ∀ (Fl2 : Nat → va_E) (Hl2 : Heap) (lol2 : List Loc), q32 ≤ 8 → 8 - q32 < n2 → WT cA ad Fl2 → rFr [ra] F Fl2 → va_P D vwCl (rW ad Fl2) Hl2 → va_S (rA ad) s.heap Hl2 lol2 → M = m_X0_fillExits_L2_2 n2 (AB ad Fl2) (nI q32) rc ra p2 → ∀ (ls : Array Slot), lv_has ls 4 [(3, .int (nI q32)), (0, .ref (ad rc)), (1, .ref (ad ra)), (2, .int p2)] → W p l e { frames := 2, cells := 0, slots := 0, locals := 46 } s m args below meth c Hl2 lol2 0 0 Q (F0 m 2 ls []) := by
    intro n2
    induction n2 with
    | zero =>
      intro q32 Fl2 Hl2 lol2 iv2_0 hm2 hWl2 hFl2 hPl2 hSl2 hEl2 ls2 hl2
      exact absurd hm2 (Nat.not_lt_zero _)
    | succ n2 ih2 =>
      intro q32 Fl2 Hl2 lol2 iv2_0 hm2 hWl2 hFl2 hPl2 hSl2 hEl2 ls2 hl2
      have hE3 : M = m_X0_fillExits_L2_2_b (m_X0_fillExits_L2_2 n2) (AB ad Fl2) (nI q32) rc ra p2 := hEl2
      refine lv_iload_n S.1 S.2.1 dX0_fillExits_2 rfl (lv_at hl2 0 rfl) ?_
      refine lv_aload_n S.1 S.2.1 dX0_fillExits_3 rfl (lv_at hl2 2 rfl) ?_
      obtain ⟨g4, hF4, hg4⟩ := wt_I hWl2 hra
      refine r_alen S hK hPl2 ra (lt_I hra) 0 hF4 rfl dX0_fillExits_4 ?_
      refine lv_icmp_ge (tgt := 35) S.1 S.2.1 dX0_fillExits_5 (by decide) (fun c5 => ?_) (fun c5 => ?_)
      · skip
        have k6 := ci_le (nI_toInt (n := 8) (by decide)) (nI_toInt (n := q32) (by omega)) c5
        have hE7 : M = AB ad Fl2 := hE3.trans ((show m_X0_fillExits_L2_2_b (m_X0_fillExits_L2_2 n2) (AB ad Fl2) (nI q32) rc ra p2 = (AB ad Fl2) from by unfold m_X0_fillExits_L2_2_b; rw [if_pos (le_cg rfl rfl c5)]).trans rfl)
        exact hret 35 _ _ _ _ dX0_fillExits_35 hPl2 hSl2 ⟨hWl2, hFl2, ⟨trivial, hM.symm.trans hE7⟩⟩
      have k8 := ci_nle (nI_toInt (n := 8) (by decide)) (nI_toInt (n := q32) (by omega)) c5
      refine lv_aload_n S.1 S.2.1 dX0_fillExits_8 rfl (lv_at hl2 2 rfl) ?_
      refine lv_iload_n S.1 S.2.1 dX0_fillExits_9 rfl (lv_at hl2 0 rfl) ?_
      refine lv_iload_n S.1 S.2.1 dX0_fillExits_10 rfl (lv_at hl2 0 rfl) ?_
      refine lv_aload_n S.1 S.2.1 dX0_fillExits_11 rfl (lv_at hl2 1 rfl) ?_
      obtain ⟨sl9, fm9, tn9, rn9, bn9, hF9, hb9_1, hb9_2, hb9_3⟩ := wt_C hWl2 hrc
      refine r_get S hK hPl2 rc (lt_C hrc) hF9 (C := RX0) (T := TX0) (N := 10) hiX0 rfl 2 (by decide) (am_at in_wsX0_fillExits_0 0 rfl) (v := .int (nI tn9)) rfl dX0_fillExits_12 ?_
      have m10 : ((AB ad Fl2) rc 2) = (nI tn9) := (congrArg (fun q => AB ad Fl2 q 2) rfl).trans (AB_f hF9 rfl)
      refine lv_icmp_ge (tgt := 27) S.1 S.2.1 dX0_fillExits_15 (by decide) (fun c11 => ?_) (fun c11 => ?_)
      · skip
        have k12 := ci_le (nI_toInt (n := tn9) (by omega)) (nI_toInt (n := q32) (by omega)) c11
        refine lv_iconst (v := (nI 0)) S.1 S.2.1 dX0_fillExits_27 (by decide +kernel) ?_
        refine r_iast S hI hK hPl2 hSl2 ra (lt_I hra) hF4 (vp_in_nI (show q32 < 8 by omega) (by omega)) dX0_fillExits_28 (fun F13 H13 locs13 eF13 hP13 hS13 => ?_)
        have hW13 := hWl2.up eF13 (ok_I hra (okI_up hg4 (pr_of hura)))
        have hFr13 := hFl2.up eF13 (by simp <;> first | omega | (simp only [isC, isJ] at *; omega))
        have hE15 : M = m_X0_fillExits_14 (m_X0_fillExits_L2_2 n2) (AB ad F13) (nI q32) rc ra p2 := hE3.trans ((show m_X0_fillExits_L2_2_b (m_X0_fillExits_L2_2 n2) (AB ad Fl2) (nI q32) rc ra p2 = m_X0_fillExits_14 (m_X0_fillExits_L2_2 n2) (st (AB ad Fl2) ra (rl (nI q32)) (nI 0)) (nI q32) rc ra p2 from by unfold m_X0_fillExits_L2_2_b; rw [if_neg (nle_cg rfl rfl c5), if_pos (le_cg m10 rfl c11)]).trans (congr (congr (congr (congr (congrArg (m_X0_fillExits_14 (m_X0_fillExits_L2_2 n2)) ((st_cg rfl (congrArg rl rfl) rfl).trans (AB_ast hF4 eF13).symm)) (Eq.refl ((nI q32) : Int32))) (Eq.refl rc)) (Eq.refl ra)) (Eq.refl (p2 : Int32))))
        have m17 : ((nI q32) + Int32.ofInt (1)) = (nI (q32 + 1)) := (congrArg (fun q : Int32 => q + Int32.ofInt (1)) rfl).trans (nI_add _ 1)
        refine lv_iinc (v := (nI (q32 + 1))) (lv' := [(3, .int (nI (q32 + 1))), (0, .ref (ad rc)), (1, .ref (ad ra)), (2, .int p2)]) S.1 S.2.1 dX0_fillExits_29 hl2 (k := 0) rfl (nI_add _ 1) (by decide) rfl (fun ls16 hl16 => ?_)
        refine lv_goto (tgt := 2) S.1 S.2.1 dX0_fillExits_32 (by decide) ?_
        have hE18 : M = (m_X0_fillExits_L2_2 n2) (AB ad F13) (nI (q32 + 1)) rc ra p2 := hE15.trans ((show m_X0_fillExits_14 (m_X0_fillExits_L2_2 n2) (AB ad F13) (nI q32) rc ra p2 = (m_X0_fillExits_L2_2 n2) (AB ad F13) ((nI q32) + Int32.ofInt (1)) rc ra p2 from rfl).trans (congr (congr (congr (congr (congrArg ((m_X0_fillExits_L2_2 n2)) (rfl : AB ad F13 = AB ad F13)) m17) (Eq.refl rc)) (Eq.refl ra)) (Eq.refl (p2 : Int32))))
        exact ih2 (q32 + 1) F13 H13 locs13 (by omega) (by omega) hW13 hFr13 hP13 hS13 hE18 ls16 (lv_sub hl16 [0, 1, 2, 3] rfl)
      have k19 := ci_nle (nI_toInt (n := tn9) (by omega)) (nI_toInt (n := q32) (by omega)) c11
      refine lv_aload_n S.1 S.2.1 dX0_fillExits_18 rfl (lv_at hl2 1 rfl) ?_
      refine lv_iload_n S.1 S.2.1 dX0_fillExits_19 rfl (lv_at hl2 0 rfl) ?_
      refine lv_iload_n S.1 S.2.1 dX0_fillExits_20 rfl (lv_at hl2 3 rfl) ?_
      refine r_cVp (As := [.int (nI q32), .int p2]) (rest := [.int (nI q32), .ref (ad ra)]) S hK hZ hPl2 hSl2 hl2.1 rc (lt_C hrc) hF9 (C := RX0) rfl (c_X0_walksFrom l D cA ad t hI Fl2 hWl2 rc hrc (nI q32) p2) (cwV 2 S.2.2.2.2 gX0_fillExits_X0_walksFrom rfl rfl rfl (by decide +kernel) ⟨Nat.le_of_ble_eq_true rfl, Nat.le_of_ble_eq_true rfl⟩) rfl rfl (Nat.le_of_ble_eq_true rfl) ⟨Nat.zero_le _, Nat.zero_le _⟩ dX0_fillExits_21 (fun r20 hr20 => ?_)
      obtain ⟨hr20, hm20⟩ := hr20
      have m21 : (m_X0_walksFrom (AB ad Fl2) rc (nI q32) p2) = r20 := (congr (congr (congr (Eq.refl (m_X0_walksFrom (AB ad Fl2))) (Eq.refl rc)) (Eq.refl ((nI q32) : Int32))) (Eq.refl (p2 : Int32))).trans hm20
      refine lv_goto (tgt := 28) S.1 S.2.1 dX0_fillExits_24 (by decide) ?_
      refine r_iast S hI hK hPl2 hSl2 ra (lt_I hra) hF4 (vp_in_nI (show q32 < 8 by omega) (by omega)) dX0_fillExits_28 (fun F22 H22 locs22 eF22 hP22 hS22 => ?_)
      have hW22 := hWl2.up eF22 (ok_I hra (okI_up hg4 (pr_of hura)))
      have hFr22 := hFl2.up eF22 (by simp <;> first | omega | (simp only [isC, isJ] at *; omega))
      have hE24 : M = m_X0_fillExits_23 (m_X0_fillExits_L2_2 n2) (AB ad F22) (nI q32) rc ra p2 := hE3.trans ((show m_X0_fillExits_L2_2_b (m_X0_fillExits_L2_2 n2) (AB ad Fl2) (nI q32) rc ra p2 = m_X0_fillExits_23 (m_X0_fillExits_L2_2 n2) (st (AB ad Fl2) ra (rl (nI q32)) (m_X0_walksFrom (AB ad Fl2) rc (nI q32) p2)) (nI q32) rc ra p2 from by unfold m_X0_fillExits_L2_2_b; rw [if_neg (nle_cg rfl rfl c5), if_neg (nle_cg m10 rfl c11)]).trans (congr (congr (congr (congr (congrArg (m_X0_fillExits_23 (m_X0_fillExits_L2_2 n2)) ((st_cg rfl (congrArg rl rfl) m21).trans (AB_ast hF4 eF22).symm)) (Eq.refl ((nI q32) : Int32))) (Eq.refl rc)) (Eq.refl ra)) (Eq.refl (p2 : Int32))))
      have m26 : ((nI q32) + Int32.ofInt (1)) = (nI (q32 + 1)) := (congrArg (fun q : Int32 => q + Int32.ofInt (1)) rfl).trans (nI_add _ 1)
      refine lv_iinc (v := (nI (q32 + 1))) (lv' := [(3, .int (nI (q32 + 1))), (0, .ref (ad rc)), (1, .ref (ad ra)), (2, .int p2)]) S.1 S.2.1 dX0_fillExits_29 hl2 (k := 0) rfl (nI_add _ 1) (by decide) rfl (fun ls25 hl25 => ?_)
      refine lv_goto (tgt := 2) S.1 S.2.1 dX0_fillExits_32 (by decide) ?_
      have hE27 : M = (m_X0_fillExits_L2_2 n2) (AB ad F22) (nI (q32 + 1)) rc ra p2 := hE24.trans ((show m_X0_fillExits_23 (m_X0_fillExits_L2_2 n2) (AB ad F22) (nI q32) rc ra p2 = (m_X0_fillExits_L2_2 n2) (AB ad F22) ((nI q32) + Int32.ofInt (1)) rc ra p2 from rfl).trans (congr (congr (congr (congr (congrArg ((m_X0_fillExits_L2_2 n2)) (rfl : AB ad F22 = AB ad F22)) m26) (Eq.refl rc)) (Eq.refl ra)) (Eq.refl (p2 : Int32))))
      exact ih2 (q32 + 1) F22 H22 locs22 (by omega) (by omega) hW22 hFr22 hP22 hS22 hE27 ls25 (lv_sub hl25 [0, 1, 2, 3] rfl)
  have hE28 : M = m_X0_fillExits_L2_2 2000 (AB ad F) (nI 0) rc ra p2 := hM.trans ((show m_X0_fillExits (AB ad F) rc ra p2 = m_X0_fillExits_L2_2 2000 (AB ad F) (nI 0) rc ra p2 from rfl).trans (congr (congr (congr (congr (congrArg (m_X0_fillExits_L2_2 2000) (rfl : AB ad F = AB ad F)) (Eq.refl ((nI 0) : Int32))) (Eq.refl rc)) (Eq.refl ra)) (Eq.refl (p2 : Int32))))
  exact lp2 2000 (0) F s.heap [] (by omega) (by omega) hW hFr hP hS hE28 ls1 (lv_sub hl1 [0, 1, 2, 3] rfl)
