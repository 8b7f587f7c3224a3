noncomputable def m_X5_blame_11 (σ : SS) (a0 : Int32) (a1 : Int32) : SS :=
  σ
noncomputable def m_X5_blame_8 (σ : SS) (a0 : Int32) (a1 : Int32) : SS :=
  m_X5_blame_11 (st σ 1 3 a1) a0 a1
noncomputable def m_X5_blame (σ : SS) (a0 : Int32) (a1 : Int32) : SS :=
  if (σ 1 2) = (0 : Int32) then
    m_X5_blame_8 (st σ 1 2 a0) a0 a1
  else
    σ
set_option maxHeartbeats 4000000 in
set_option maxRecDepth 100000 in
theorem c_X5_blame (l : Launch) (D : va_G) (cA ad : Nat → Nat) (t : Nat) (hI : rI ad) (F : Nat → va_E) (hW : WT cA ad F) (p1 : Int32) (p2 : Int32) : MV l D cA ad t yX5_blame wsX5_blame { frames := 0, cells := 0, slots := 0, locals := 0 } [.ref (ad 1), .int p1, .int p2] F (fun F' => WT cA ad F' ∧ rFr [1] F F' ∧ ((True) ∧ m_X5_blame (AB ad F) p1 p2 = AB ad F')) := by
  refine en_V rfl (by decide +kernel) (Nat.le_of_ble_eq_true rfl) ?_
  intro p e s m args below meth c ls0 Q S hK hZ hP hS hl0 hret
  have hl0 : lv_has ls0 3 [(0, .ref (ad 1)), (1, .int p1), (2, .int p2)] := hl0
  have hFr : rFr [1] F F := rFr.rf
  have hiX5 : ∀ w ∈ u_ws RX5 TX5 6, w ∈ wsX5_blame := in_wsX5_blame_1
  obtain ⟨M, hM⟩ : ∃ M, M = m_X5_blame (AB ad F) p1 p2 := ⟨_, rfl⟩
  refine lv_aload_n S.1 S.2.1 dX5_blame_0 rfl (lv_at hl0 0 rfl) ?_
  obtain ⟨n1, a1, f1, fa1, nu1, hF1, hn1, ha1⟩ := wt_text hW
  refine r_get S hK hP 1 (by decide) hF1 (C := RX5) (T := TX5) (N := 6) hiX5 rfl 2 (by decide) (am_at in_wsX5_blame_0 0 rfl) (v := .int f1) rfl dX5_blame_1 ?_
  have m2 : ((AB ad F) 1 2) = f1 := AB_f hF1 rfl
  refine lv_if_ne (tgt := 17) S.1 S.2.1 dX5_blame_4 (by decide) (fun c3 => ?_) (fun c3 => ?_)
  · skip
    have k4 := ci_ne rfl z_ti c3
    have hE5 : M = AB ad F := hM.trans ((show m_X5_blame (AB ad F) p1 p2 = (AB ad F) from by unfold m_X5_blame; rw [if_neg (neq_cg m2 rfl c3)]).trans rfl)
    exact hret 17 _ _ _ _ dX5_blame_17 hP hS ⟨hW, hFr, ⟨trivial, hM.symm.trans hE5⟩⟩
  have k6 := ci_eq rfl z_ti c3
  refine lv_aload_n S.1 S.2.1 dX5_blame_7 rfl (lv_at hl0 0 rfl) ?_
  refine lv_iload_n S.1 S.2.1 dX5_blame_8 rfl (lv_at hl0 1 rfl) ?_
  refine r_put S hI hK hP hS 1 (by decide) hF1 (C := RX5) (T := TX5) (N := 6) hiX5 tyX5_ok nmX5 rfl 2 (by decide) (am_at in_wsX5_blame_0 0 rfl) rfl rfl rfl (Nat.le_of_ble_eq_true rfl) dX5_blame_9 (fun F7 H7 locs7 eF7 hP7 hS7 => ?_)
  have hF7 : F7 1 = .inr (5, [.ref (ad 2), .int (nI n1), .int p1, .int fa1, .int (nI a1), .int nu1]) := by rw [eF7]; exact va_up_self _ _ _
  have hW7 := hW.up eF7 (ok_text ⟨n1, a1, p1, fa1, nu1, rfl, by omega, by omega⟩)
  have hFr7 := hFr.up eF7 (by simp <;> first | omega | (simp only [isC, isJ] at *; omega))
  have hE9 : M = m_X5_blame_8 (AB ad F7) p1 p2 := hM.trans ((show m_X5_blame (AB ad F) p1 p2 = m_X5_blame_8 (st (AB ad F) 1 2 p1) p1 p2 from by unfold m_X5_blame; rw [if_pos (eq_cg m2 rfl c3)]).trans (congr (congr (congrArg (m_X5_blame_8) ((st_cg rfl rfl rfl).trans (AB_put hF1 (Nat.le_of_ble_eq_true rfl) eF7).symm)) (Eq.refl (p1 : Int32))) (Eq.refl (p2 : Int32))))
  refine lv_aload_n S.1 S.2.1 dX5_blame_12 rfl (lv_at hl0 0 rfl) ?_
  refine lv_iload_n S.1 S.2.1 dX5_blame_13 rfl (lv_at hl0 2 rfl) ?_
  refine r_put S hI hK hP7 hS7 1 (by decide) hF7 (C := RX5) (T := TX5) (N := 6) hiX5 tyX5_ok nmX5 rfl 3 (by decide) (am_at in_wsX5_blame_0 1 rfl) rfl rfl rfl (Nat.le_of_ble_eq_true rfl) dX5_blame_14 (fun F10 H10 locs10 eF10 hP10 hS10 => ?_)
  have hF10 : F10 1 = .inr (5, [.ref (ad 2), .int (nI n1), .int p1, .int p2, .int (nI a1), .int nu1]) := by rw [eF10]; exact va_up_self _ _ _
  have hW10 := hW7.up eF10 (ok_text ⟨n1, a1, p1, p2, nu1, rfl, by omega, by omega⟩)
  have hFr10 := hFr7.up eF10 (by simp <;> first | omega | (simp only [isC, isJ] at *; omega))
  have hE12 : M = m_X5_blame_11 (AB ad F10) p1 p2 := hE9.trans ((show m_X5_blame_8 (AB ad F7) p1 p2 = m_X5_blame_11 (st (AB ad F7) 1 3 p2) p1 p2 from rfl).trans (congr (congr (congrArg (m_X5_blame_11) ((st_cg rfl rfl rfl).trans (AB_put hF7 (Nat.le_of_ble_eq_true rfl) eF10).symm)) (Eq.refl (p1 : Int32))) (Eq.refl (p2 : Int32))))
  have hE13 : M = AB ad F10 := hE12.trans ((show m_X5_blame_11 (AB ad F10) p1 p2 = (AB ad F10) from rfl).trans rfl)
  exact hret 17 _ _ _ _ dX5_blame_17 hP10 hS10 ⟨hW10, hFr10, ⟨trivial, hM.symm.trans hE13⟩⟩
noncomputable def m_X5_isFigure (σ : SS) (a0 : Int32) : Int32 :=
  if a0 < (nI 48) then
    (nI 0)
  else
    if (nI 57) < a0 then
      (nI 0)
    else
      (nI 1)
set_option maxHeartbeats 4000000 in
set_option maxRecDepth 100000 in
theorem c_X5_isFigure (l : Launch) (D : va_G) (cA ad : Nat → Nat) (t : Nat) (hI : rI ad) (F : Nat → va_E) (hW : WT cA ad F) (p1 : Int32) : MP l D cA ad t yX5_isFigure wsX5_isFigure { frames := 0, cells := 0, slots := 0, locals := 0 } [.int p1] F (fun r => (le32 1 r) ∧ m_X5_isFigure (AB ad F) p1 = r) := by
  refine en_P rfl (by decide +kernel) (Nat.le_of_ble_eq_true rfl) ?_
  intro p e s m args below meth c ls0 Q S hK hZ hP hS hl0 hret
  have hl0 : lv_has ls0 1 [(0, .int p1)] := hl0
  obtain ⟨M, hM⟩ : ∃ M, M = m_X5_isFigure (AB ad F) p1 := ⟨_, rfl⟩
  refine lv_iload_n S.1 S.2.1 dX5_isFigure_0 rfl (lv_at hl0 0 rfl) ?_
  refine lv_bipush (v := (nI 48)) S.1 S.2.1 dX5_isFigure_1 (by decide +kernel) ?_
  refine lv_icmp_lt (tgt := 16) S.1 S.2.1 dX5_isFigure_3 (by decide) (fun c1 => ?_) (fun c1 => ?_)
  · skip
    have k2 := ci_lt rfl (nI_toInt (n := 48) (by decide)) c1
    refine lv_iconst (v := (nI 0)) S.1 S.2.1 dX5_isFigure_16 (by decide +kernel) ?_
    have hE3 : M = (nI 0) := hM.trans ((show m_X5_isFigure (AB ad F) p1 = (nI 0) from by unfold m_X5_isFigure; rw [if_pos (lt_cg rfl rfl c1)]).trans rfl)
    exact hret 17 _ _ dX5_isFigure_17 rfl (⟨⟨0, by omega, rfl⟩, hM.symm.trans hE3⟩)
  have k4 := ci_nlt rfl (nI_toInt (n := 48) (by decide)) c1
  refine lv_iload_n S.1 S.2.1 dX5_isFigure_6 rfl (lv_at hl0 0 rfl) ?_
  refine lv_bipush (v := (nI 57)) S.1 S.2.1 dX5_isFigure_7 (by decide +kernel) ?_
  refine lv_icmp_gt (tgt := 16) S.1 S.2.1 dX5_isFigure_9 (by decide) (fun c5 => ?_) (fun c5 => ?_)
  · skip
    have k6 := ci_lt (nI_toInt (n := 57) (by decide)) rfl c5
    refine lv_iconst (v := (nI 0)) S.1 S.2.1 dX5_isFigure_16 (by decide +kernel) ?_
    have hE7 : M = (nI 0) := hM.trans ((show m_X5_isFigure (AB ad F) p1 = (nI 0) from by unfold m_X5_isFigure; rw [if_neg (nlt_cg rfl rfl c1), if_pos (lt_cg rfl rfl c5)]).trans rfl)
    exact hret 17 _ _ dX5_isFigure_17 rfl (⟨⟨0, by omega, rfl⟩, hM.symm.trans hE7⟩)
  have k8 := ci_nlt (nI_toInt (n := 57) (by decide)) rfl c5
  refine lv_iconst (v := (nI 1)) S.1 S.2.1 dX5_isFigure_12 (by decide +kernel) ?_
  refine lv_goto (tgt := 17) S.1 S.2.1 dX5_isFigure_13 (by decide) ?_
  have hE9 : M = (nI 1) := hM.trans ((show m_X5_isFigure (AB ad F) p1 = (nI 1) from by unfold m_X5_isFigure; rw [if_neg (nlt_cg rfl rfl c1), if_neg (nlt_cg rfl rfl c5)]).trans rfl)
  exact hret 17 _ _ dX5_isFigure_17 rfl (⟨⟨1, by omega, rfl⟩, hM.symm.trans hE9⟩)
noncomputable def m_X5_skipBlanks_34 (k0 : SS → Int32 × SS) (σ : SS) : Int32 × SS :=
  k0 σ
noncomputable def m_X5_skipBlanks_L0_1_b (k0 : SS → Int32 × SS) (σ : SS) : Int32 × SS :=
  if (σ 1 1) ≤ (σ 1 4) then
    ((nI 0), σ)
  else
    if (σ 2 (rl (σ 1 4))) = (nI 32) then
      m_X5_skipBlanks_34 k0 (st σ 1 4 ((σ 1 4) + (nI 1)))
    else
      ((nI 1), σ)
noncomputable def m_X5_skipBlanks_L0_1 : Nat → SS → Int32 × SS
  | 0 => fun σ => (0, σ)
  | n + 1 => m_X5_skipBlanks_L0_1_b (m_X5_skipBlanks_L0_1 n)
noncomputable def m_X5_skipBlanks (σ : SS) : Int32 × SS :=
  m_X5_skipBlanks_L0_1 2000 σ
set_option maxHeartbeats 4000000 in
set_option maxRecDepth 100000 in
theorem c_X5_skipBlanks (l : Launch) (D : va_G) (cA ad : Nat → Nat) (t : Nat) (hI : rI ad) (F : Nat → va_E) (hW : WT cA ad F) : MI l D cA ad t yX5_skipBlanks wsX5_skipBlanks { frames := 0, cells := 0, slots := 0, locals := 0 } [.ref (ad 1)] F (fun r F' => WT cA ad F' ∧ rFr [1] F F' ∧ ((le32 1 r ∧ (r ≠ 0 → fN (F' 1) 4 < fN (F' 1) 1)) ∧ m_X5_skipBlanks (AB ad F) = (r, AB ad F'))) := by
  refine en_I rfl (by decide +kernel) (Nat.le_of_ble_eq_true rfl) ?_
  intro p e s m args below meth c ls0 Q S hK hZ hP hS hl0 hret
  have hl0 : lv_has ls0 1 [(0, .ref (ad 1))] := hl0
  have hFr : rFr [1] F F := rFr.rf
  have hiX5 : ∀ w ∈ u_ws RX5 TX5 6, w ∈ wsX5_skipBlanks := in_wsX5_skipBlanks_1
  obtain ⟨M, hM⟩ : ∃ M, M = m_X5_skipBlanks (AB ad F) := ⟨_, rfl⟩
  have lp1 : ∀ (n1 : Nat), ∀ (Fl1 : Nat → va_E) (Hl1 : Heap) (lol1 : List Loc), 240 - fN (Fl1 1) 4 < n1 → WT cA ad Fl1 → rFr [1] F Fl1 → va_P D vwCl (rW ad Fl1) Hl1 → va_S (rA ad) s.heap Hl1 lol1 → M = m_X5_skipBlanks_L0_1 n1 (AB ad Fl1) → ∀ (ls : Array Slot), lv_has ls 1 [(0, .ref (ad 1))] → W p l e { frames := 0, cells := 0, slots := 0, locals := 0 } s m args below meth c Hl1 lol1 0 0 Q (F0 m 0 ls []) := by
    intro n1
    induction n1 with
    | zero =>
      intro Fl1 Hl1 lol1 hm1 hWl1 hFl1 hPl1 hSl1 hEl1 ls1 hl1
      exact absurd hm1 (Nat.not_lt_zero _)
    | succ n1 ih1 =>
      intro Fl1 Hl1 lol1 hm1 hWl1 hFl1 hPl1 hSl1 hEl1 ls1 hl1
      have hE2 : M = m_X5_skipBlanks_L0_1_b (m_X5_skipBlanks_L0_1 n1) (AB ad Fl1) := hEl1
      obtain ⟨n3, a3, f3, fa3, nu3, hF3, hn3, ha3⟩ := wt_text hWl1
      have hA4 := fN_of (k := 4) (a := a3) hF3 rfl (by omega)
      have hL4 := fN_of (k := 1) (a := n3) hF3 rfl (by omega)
      refine lv_aload_n S.1 S.2.1 dX5_skipBlanks_0 rfl (lv_at hl1 0 rfl) ?_
      refine r_get S hK hPl1 1 (by decide) hF3 (C := RX5) (T := TX5) (N := 6) hiX5 rfl 4 (by decide) (am_at in_wsX5_skipBlanks_0 0 rfl) (v := .int (nI a3)) rfl dX5_skipBlanks_1 ?_
      have m5 : ((AB ad Fl1) 1 4) = (nI a3) := AB_f hF3 rfl
      refine lv_aload_n S.1 S.2.1 dX5_skipBlanks_4 rfl (lv_at hl1 0 rfl) ?_
      refine r_get S hK hPl1 1 (by decide) hF3 (C := RX5) (T := TX5) (N := 6) hiX5 rfl 1 (by decide) (am_at in_wsX5_skipBlanks_0 1 rfl) (v := .int (nI n3)) rfl dX5_skipBlanks_5 ?_
      have m6 : ((AB ad Fl1) 1 1) = (nI n3) := AB_f hF3 rfl
      refine lv_icmp_ge (tgt := 38) S.1 S.2.1 dX5_skipBlanks_8 (by decide) (fun c7 => ?_) (fun c7 => ?_)
      · skip
        have k8 := ci_le (nI_toInt (n := n3) (by omega)) (nI_toInt (n := a3) (by omega)) c7
        refine lv_aload_n S.1 S.2.1 dX5_skipBlanks_38 rfl (lv_at hl1 0 rfl) ?_
        refine r_get S hK hPl1 1 (by decide) hF3 (C := RX5) (T := TX5) (N := 6) hiX5 rfl 4 (by decide) (am_at in_wsX5_skipBlanks_0 0 rfl) (v := .int (nI a3)) rfl dX5_skipBlanks_39 ?_
        have m9 : ((AB ad Fl1) 1 4) = (nI a3) := AB_f hF3 rfl
        refine lv_aload_n S.1 S.2.1 dX5_skipBlanks_42 rfl (lv_at hl1 0 rfl) ?_
        refine r_get S hK hPl1 1 (by decide) hF3 (C := RX5) (T := TX5) (N := 6) hiX5 rfl 1 (by decide) (am_at in_wsX5_skipBlanks_0 1 rfl) (v := .int (nI n3)) rfl dX5_skipBlanks_43 ?_
        have m10 : ((AB ad Fl1) 1 1) = (nI n3) := AB_f hF3 rfl
        refine lv_icmp_ge (tgt := 53) S.1 S.2.1 dX5_skipBlanks_46 (by decide) (fun c11 => ?_) (fun c11 => absurd c7 c11)
        have k12 := ci_le (nI_toInt (n := n3) (by omega)) (nI_toInt (n := a3) (by omega)) c11
        refine lv_iconst (v := (nI 0)) S.1 S.2.1 dX5_skipBlanks_53 (by decide +kernel) ?_
        have hA13 := fN_of (k := 4) (a := a3) hF3 rfl (by omega)
        have hL13 := fN_of (k := 1) (a := n3) hF3 rfl (by omega)
        have hE14 : M = ((nI 0), AB ad Fl1) := hE2.trans ((show m_X5_skipBlanks_L0_1_b (m_X5_skipBlanks_L0_1 n1) (AB ad Fl1) = ((nI 0), (AB ad Fl1)) from by unfold m_X5_skipBlanks_L0_1_b; rw [if_pos (le_cg m6 m5 c7)]).trans (congrArg (fun q => (q, AB ad Fl1)) rfl))
        exact hret 54 _ _ _ _ _ dX5_skipBlanks_54 rfl hPl1 hSl1 ⟨hWl1, hFl1, ⟨⟨⟨0, by omega, rfl⟩, fun h => absurd rfl h⟩, hM.symm.trans hE14⟩⟩
      have k15 := ci_nle (nI_toInt (n := n3) (by omega)) (nI_toInt (n := a3) (by omega)) c7
      refine lv_aload_n S.1 S.2.1 dX5_skipBlanks_11 rfl (lv_at hl1 0 rfl) ?_
      refine r_get S hK hPl1 1 (by decide) hF3 (C := RX5) (T := TX5) (N := 6) hiX5 rfl 0 (by decide) (am_at in_wsX5_skipBlanks_0 2 rfl) (v := .ref (ad 2)) rfl dX5_skipBlanks_12 ?_
      refine lv_aload_n S.1 S.2.1 dX5_skipBlanks_15 rfl (lv_at hl1 0 rfl) ?_
      refine r_get S hK hPl1 1 (by decide) hF3 (C := RX5) (T := TX5) (N := 6) hiX5 rfl 4 (by decide) (am_at in_wsX5_skipBlanks_0 0 rfl) (v := .int (nI a3)) rfl dX5_skipBlanks_16 ?_
      have m16 : ((AB ad Fl1) 1 4) = (nI a3) := AB_f hF3 rfl
      obtain ⟨g17, hF17⟩ := wt_let hWl1
      refine r_cald S hK hPl1 2 (by decide) hF17 (vp_in_nI (show a3 < 240 by omega) (by omega)) dX5_skipBlanks_19 ?_
      refine lv_topi (fun v19 e19 => ?_)
      have m20 : ((AB ad Fl1) 2 (rl ((AB ad Fl1) 1 4))) = v19 := (ab_cg rfl m16).trans ((AB_g hF17).trans e19.symm)
      refine lv_bipush (v := (nI 32)) S.1 S.2.1 dX5_skipBlanks_20 (by decide +kernel) ?_
      refine lv_icmp_ne (tgt := 38) S.1 S.2.1 dX5_skipBlanks_22 (by decide) (fun c21 => ?_) (fun c21 => ?_)
      · skip
        have k22 := ci_ne rfl (nI_toInt (n := 32) (by decide)) c21
        refine lv_aload_n S.1 S.2.1 dX5_skipBlanks_38 rfl (lv_at hl1 0 rfl) ?_
        refine r_get S hK hPl1 1 (by decide) hF3 (C := RX5) (T := TX5) (N := 6) hiX5 rfl 4 (by decide) (am_at in_wsX5_skipBlanks_0 0 rfl) (v := .int (nI a3)) rfl dX5_skipBlanks_39 ?_
        have m23 : ((AB ad Fl1) 1 4) = (nI a3) := AB_f hF3 rfl
        refine lv_aload_n S.1 S.2.1 dX5_skipBlanks_42 rfl (lv_at hl1 0 rfl) ?_
        refine r_get S hK hPl1 1 (by decide) hF3 (C := RX5) (T := TX5) (N := 6) hiX5 rfl 1 (by decide) (am_at in_wsX5_skipBlanks_0 1 rfl) (v := .int (nI n3)) rfl dX5_skipBlanks_43 ?_
        have m24 : ((AB ad Fl1) 1 1) = (nI n3) := AB_f hF3 rfl
        refine lv_icmp_ge (tgt := 53) S.1 S.2.1 dX5_skipBlanks_46 (by decide) (fun c25 => absurd c25 c7) (fun c25 => ?_)
        have k26 := ci_nle (nI_toInt (n := n3) (by omega)) (nI_toInt (n := a3) (by omega)) c25
        refine lv_iconst (v := (nI 1)) S.1 S.2.1 dX5_skipBlanks_49 (by decide +kernel) ?_
        refine lv_goto (tgt := 54) S.1 S.2.1 dX5_skipBlanks_50 (by decide) ?_
        have hA27 := fN_of (k := 4) (a := a3) hF3 rfl (by omega)
        have hL27 := fN_of (k := 1) (a := n3) hF3 rfl (by omega)
        have hE28 : M = ((nI 1), AB ad Fl1) := hE2.trans ((show m_X5_skipBlanks_L0_1_b (m_X5_skipBlanks_L0_1 n1) (AB ad Fl1) = ((nI 1), (AB ad Fl1)) from by unfold m_X5_skipBlanks_L0_1_b; rw [if_neg (nle_cg m6 m5 c7), if_neg (neq_cg m20 rfl c21)]).trans (congrArg (fun q => (q, AB ad Fl1)) rfl))
        exact hret 54 _ _ _ _ _ dX5_skipBlanks_54 rfl hPl1 hSl1 ⟨hWl1, hFl1, ⟨⟨⟨1, by omega, rfl⟩, fun _ => by omega⟩, hM.symm.trans hE28⟩⟩
      have k29 := ci_eq rfl (nI_toInt (n := 32) (by decide)) c21
      refine lv_aload_n S.1 S.2.1 dX5_skipBlanks_25 rfl (lv_at hl1 0 rfl) ?_
      refine lv_dup S.1 S.2.1 dX5_skipBlanks_26 rfl ?_
      refine r_get S hK hPl1 1 (by decide) hF3 (C := RX5) (T := TX5) (N := 6) hiX5 rfl 4 (by decide) (am_at in_wsX5_skipBlanks_0 0 rfl) (v := .int (nI a3)) rfl dX5_skipBlanks_27 ?_
      have m30 : ((AB ad Fl1) 1 4) = (nI a3) := AB_f hF3 rfl
      refine lv_iconst (v := (nI 1)) S.1 S.2.1 dX5_skipBlanks_30 (by decide +kernel) ?_
      refine lv_iadd S.1 S.2.1 dX5_skipBlanks_31 ?_
      refine lv_topi (fun v31 e31 => ?_)
      obtain rfl : v31 = nI (a3 + 1) := e31.trans (nI_add _ _)
      have m32 : (((AB ad Fl1) 1 4) + (nI 1)) = (nI (a3 + 1)) := cg2 (fun (x : Int32) (y : Int32) => x + y) m30 (Eq.refl ((nI 1) : Int32)) e31
      refine r_put S hI hK hPl1 hSl1 1 (by decide) hF3 (C := RX5) (T := TX5) (N := 6) hiX5 tyX5_ok nmX5 rfl 4 (by decide) (am_at in_wsX5_skipBlanks_0 0 rfl) rfl rfl rfl (Nat.le_of_ble_eq_true rfl) dX5_skipBlanks_32 (fun F33 H33 locs33 eF33 hP33 hS33 => ?_)
      have hF33 : F33 1 = .inr (5, [.ref (ad 2), .int (nI n3), .int f3, .int fa3, .int (nI (a3 + 1)), .int nu3]) := by rw [eF33]; exact va_up_self _ _ _
      have hW33 := hWl1.up eF33 (ok_text ⟨n3, a3 + 1, f3, fa3, nu3, rfl, by omega, by omega⟩)
      have hFr33 := hFl1.up eF33 (by simp <;> first | omega | (simp only [isC, isJ] at *; omega))
      have hE35 : M = m_X5_skipBlanks_34 (m_X5_skipBlanks_L0_1 n1) (AB ad F33) := hE2.trans ((show m_X5_skipBlanks_L0_1_b (m_X5_skipBlanks_L0_1 n1) (AB ad Fl1) = m_X5_skipBlanks_34 (m_X5_skipBlanks_L0_1 n1) (st (AB ad Fl1) 1 4 (((AB ad Fl1) 1 4) + (nI 1))) from by unfold m_X5_skipBlanks_L0_1_b; rw [if_neg (nle_cg m6 m5 c7), if_pos (eq_cg m20 rfl c21)]).trans (congrArg (m_X5_skipBlanks_34 (m_X5_skipBlanks_L0_1 n1)) ((st_cg rfl rfl m32).trans (AB_put hF3 (Nat.le_of_ble_eq_true rfl) eF33).symm)))
      refine lv_goto (tgt := 0) S.1 S.2.1 dX5_skipBlanks_35 (by decide) ?_
      have hA36 := fN_of (k := 4) (a := a3 + 1) hF33 rfl (by omega)
      have hL36 := fN_of (k := 1) (a := n3) hF33 rfl (by omega)
      have hE37 : M = (m_X5_skipBlanks_L0_1 n1) (AB ad F33) := hE35.trans ((show m_X5_skipBlanks_34 (m_X5_skipBlanks_L0_1 n1) (AB ad F33) = (m_X5_skipBlanks_L0_1 n1) (AB ad F33) from rfl).trans (congrArg ((m_X5_skipBlanks_L0_1 n1)) (rfl : AB ad F33 = AB ad F33)))
      exact ih1 F33 H33 locs33 (by omega) hW33 hFr33 hP33 hS33 hE37 ls1 (lv_sub hl1 [0] rfl)
  have hE38 : M = m_X5_skipBlanks_L0_1 2000 (AB ad F) := hM.trans ((show m_X5_skipBlanks (AB ad F) = m_X5_skipBlanks_L0_1 2000 (AB ad F) from rfl).trans (congrArg (m_X5_skipBlanks_L0_1 2000) (rfl : AB ad F = AB ad F)))
  exact lp1 2000 F s.heap [] (by omega) hW hFr hP hS hE38 ls0 (lv_sub hl0 [0] rfl)
noncomputable def m_X5_readEnd_37 (σ : SS) : SS :=
  σ
noncomputable def m_X5_readEnd_31 (σ : SS) : SS :=
  σ
noncomputable def m_X5_readEnd_16 (σ : SS) : SS :=
  σ
noncomputable def m_X5_readEnd_10 (σ : SS) (a0 : Int32) : SS :=
  if a0 = (0 : Int32) then
    m_X5_readEnd_16 (m_X5_blame σ (nI 1) (σ 1 4))
  else
    if (σ 2 (rl (σ 1 4))) = (nI 59) then
      m_X5_readEnd_31 (st σ 1 4 ((σ 1 4) + (nI 1)))
    else
      m_X5_readEnd_37 (m_X5_blame σ (nI 1) (σ 1 4))
noncomputable def m_X5_readEnd (σ : SS) : SS :=
  if (σ 1 2) = (0 : Int32) then
    m_X5_readEnd_10 ((m_X5_skipBlanks σ)).2 ((m_X5_skipBlanks σ)).1
  else
    σ
set_option maxHeartbeats 4000000 in
set_option maxRecDepth 100000 in
theorem c_X5_readEnd (l : Launch) (D : va_G) (cA ad : Nat → Nat) (t : Nat) (hI : rI ad) (F : Nat → va_E) (hW : WT cA ad F) : MV l D cA ad t yX5_readEnd wsX5_readEnd { frames := 1, cells := 0, slots := 0, locals := 22 } [.ref (ad 1)] F (fun F' => WT cA ad F' ∧ rFr [1] F F' ∧ ((True) ∧ m_X5_readEnd (AB ad F) = AB ad F')) := by
  refine en_V rfl (by decide +kernel) (Nat.le_of_ble_eq_true rfl) ?_
  intro p e s m args below meth c ls0 Q S hK hZ hP hS hl0 hret
  have hl0 : lv_has ls0 1 [(0, .ref (ad 1))] := hl0
  have hFr : rFr [1] F F := rFr.rf
  have hiX5 : ∀ w ∈ u_ws RX5 TX5 6, w ∈ wsX5_readEnd := in_wsX5_readEnd_1
  obtain ⟨M, hM⟩ : ∃ M, M = m_X5_readEnd (AB ad F) := ⟨_, rfl⟩
  refine lv_aload_n S.1 S.2.1 dX5_readEnd_0 rfl (lv_at hl0 0 rfl) ?_
  obtain ⟨n1, a1, f1, fa1, nu1, hF1, hn1, ha1⟩ := wt_text hW
  refine r_get S hK hP 1 (by decide) hF1 (C := RX5) (T := TX5) (N := 6) hiX5 rfl 2 (by decide) (am_at in_wsX5_readEnd_0 0 rfl) (v := .int f1) rfl dX5_readEnd_1 ?_
  have m2 : ((AB ad F) 1 2) = f1 := AB_f hF1 rfl
  refine lv_if_eq (tgt := 8) S.1 S.2.1 dX5_readEnd_4 (by decide) (fun c3 => ?_) (fun c3 => ?_)
  · skip
    have k4 := ci_eq rfl z_ti c3
    refine lv_aload_n S.1 S.2.1 dX5_readEnd_8 rfl (lv_at hl0 0 rfl) ?_
    refine r_cVi (As := []) (rest := []) S hK hZ hP hS hl0.1 1 (by decide) hF1 (C := RX5) rfl (c_X5_skipBlanks l D cA ad t hI F hW ) (cwV 0 S.2.2.2.2 gX5_readEnd_X5_skipBlanks rfl rfl rfl (by decide +kernel) ⟨Nat.le_of_ble_eq_true rfl, Nat.le_of_ble_eq_true rfl⟩) rfl rfl (Nat.le_of_ble_eq_true rfl) ⟨Nat.zero_le _, Nat.zero_le _⟩ dX5_readEnd_9 (fun r5 F5 H5 locs5 hr5 hP5 hS5 => ?_)
    obtain ⟨hW5, hFc5, hr5⟩ := hr5
    obtain ⟨hr5, hm5⟩ := hr5
    have hFr5 := hFr.tr hFc5 (by simp <;> first | omega | (simp only [isC, isJ] at *; omega))
    obtain ⟨⟨b6, hb6, rfl⟩, hx6⟩ := hr5
    obtain ⟨n7, a7, f7, fa7, nu7, hF7, hn7, ha7⟩ := wt_text hW5
    have hA8 := fN_of (k := 4) (a := a7) hF7 rfl (by omega)
    have hL8 := fN_of (k := 1) (a := n7) hF7 rfl (by omega)
    have hy6 : b6 ≠ 0 → a7 < n7 := fun q => by have := hx6 (nI_ne0 (by omega) (by omega)); omega
    have mc9 : (m_X5_skipBlanks (AB ad F)) = ((nI b6), AB ad F5) := (Eq.refl (m_X5_skipBlanks (AB ad F))).trans hm5
    have hE11 : M = m_X5_readEnd_10 (AB ad F5) (nI b6) := hM.trans ((show m_X5_readEnd (AB ad F) = m_X5_readEnd_10 ((m_X5_skipBlanks (AB ad F))).2 ((m_X5_skipBlanks (AB ad F))).1 from by unfold m_X5_readEnd; rw [if_pos (eq_cg m2 rfl c3)]).trans (congr (congrArg (m_X5_readEnd_10) (congrArg Prod.snd mc9)) (congrArg Prod.fst mc9)))
    refine lv_if_eq (tgt := 29) S.1 S.2.1 dX5_readEnd_12 (by decide) (fun c12 => ?_) (fun c12 => ?_)
    · skip
      have k13 := ci_eq (nI_toInt (n := b6) (Nat.lt_of_le_of_lt hb6 (by decide))) z_ti c12
      refine lv_aload_n S.1 S.2.1 dX5_readEnd_29 rfl (lv_at hl0 0 rfl) ?_
      refine lv_iconst (v := (nI 1)) S.1 S.2.1 dX5_readEnd_30 (by decide +kernel) ?_
      refine lv_aload_n S.1 S.2.1 dX5_readEnd_31 rfl (lv_at hl0 0 rfl) ?_
      refine r_get S hK hP5 1 (by decide) hF7 (C := RX5) (T := TX5) (N := 6) hiX5 rfl 4 (by decide) (am_at in_wsX5_readEnd_0 2 rfl) (v := .int (nI a7)) rfl dX5_readEnd_32 ?_
      have m14 : ((AB ad F5) 1 4) = (nI a7) := AB_f hF7 rfl
      refine r_cVv (As := [.int (nI 1), .int (nI a7)]) (rest := []) S hK hZ hP5 hS5 hl0.1 1 (by decide) hF7 (C := RX5) rfl (c_X5_blame l D cA ad t hI F5 hW5 (nI 1) (nI a7)) (cwV 2 S.2.2.2.2 gX5_readEnd_X5_blame rfl rfl rfl (by decide +kernel) ⟨Nat.le_of_ble_eq_true rfl, Nat.le_of_ble_eq_true rfl⟩) rfl rfl (Nat.le_of_ble_eq_true rfl) ⟨Nat.zero_le _, Nat.zero_le _⟩ dX5_readEnd_35 (fun F15 H15 locs15 hr15 hP15 hS15 => ?_)
      obtain ⟨hW15, hFc15, hr15⟩ := hr15
      obtain ⟨hr15, hm15⟩ := hr15
      have hFr15 := hFr5.tr hFc15 (by simp <;> first | omega | (simp only [isC, isJ] at *; omega))
      have hE17 : M = m_X5_readEnd_16 (AB ad F15) := hE11.trans ((show m_X5_readEnd_10 (AB ad F5) (nI b6) = m_X5_readEnd_16 (m_X5_blame (AB ad F5) (nI 1) ((AB ad F5) 1 4)) from by unfold m_X5_readEnd_10; rw [if_pos (eq_cg rfl rfl c12)]).trans (congrArg (m_X5_readEnd_16) ((congr (congr (Eq.refl (m_X5_blame (AB ad F5))) (Eq.refl ((nI 1) : Int32))) m14).trans hm15)))
      have hE18 : M = AB ad F15 := hE17.trans ((show m_X5_readEnd_16 (AB ad F15) = (AB ad F15) from rfl).trans rfl)
      exact hret 38 _ _ _ _ dX5_readEnd_38 hP15 hS15 ⟨hW15, hFr15, ⟨trivial, hM.symm.trans hE18⟩⟩
    have k19 := ci_ne (nI_toInt (n := b6) (Nat.lt_of_le_of_lt hb6 (by decide))) z_ti c12
    refine lv_aload_n S.1 S.2.1 dX5_readEnd_15 rfl (lv_at hl0 0 rfl) ?_
    refine r_get S hK hP5 1 (by decide) hF7 (C := RX5) (T := TX5) (N := 6) hiX5 rfl 0 (by decide) (am_at in_wsX5_readEnd_0 1 rfl) (v := .ref (ad 2)) rfl dX5_readEnd_16 ?_
    refine lv_aload_n S.1 S.2.1 dX5_readEnd_19 rfl (lv_at hl0 0 rfl) ?_
    refine r_get S hK hP5 1 (by decide) hF7 (C := RX5) (T := TX5) (N := 6) hiX5 rfl 4 (by decide) (am_at in_wsX5_readEnd_0 2 rfl) (v := .int (nI a7)) rfl dX5_readEnd_20 ?_
    have m20 : ((AB ad F5) 1 4) = (nI a7) := AB_f hF7 rfl
    obtain ⟨g21, hF21⟩ := wt_let hW5
    refine r_cald S hK hP5 2 (by decide) hF21 (vp_in_nI (show a7 < 240 by omega) (by omega)) dX5_readEnd_23 ?_
    refine lv_topi (fun v23 e23 => ?_)
    have m24 : ((AB ad F5) 2 (rl ((AB ad F5) 1 4))) = v23 := (ab_cg rfl m20).trans ((AB_g hF21).trans e23.symm)
    refine lv_bipush (v := (nI 59)) S.1 S.2.1 dX5_readEnd_24 (by decide +kernel) ?_
    refine lv_icmp_eq (tgt := 39) S.1 S.2.1 dX5_readEnd_26 (by decide) (fun c25 => ?_) (fun c25 => ?_)
    · skip
      have k26 := ci_eq rfl (nI_toInt (n := 59) (by decide)) c25
      refine lv_aload_n S.1 S.2.1 dX5_readEnd_39 rfl (lv_at hl0 0 rfl) ?_
      refine lv_dup S.1 S.2.1 dX5_readEnd_40 rfl ?_
      refine r_get S hK hP5 1 (by decide) hF7 (C := RX5) (T := TX5) (N := 6) hiX5 rfl 4 (by decide) (am_at in_wsX5_readEnd_0 2 rfl) (v := .int (nI a7)) rfl dX5_readEnd_41 ?_
      have m27 : ((AB ad F5) 1 4) = (nI a7) := AB_f hF7 rfl
      refine lv_iconst (v := (nI 1)) S.1 S.2.1 dX5_readEnd_44 (by decide +kernel) ?_
      refine lv_iadd S.1 S.2.1 dX5_readEnd_45 ?_
      refine lv_topi (fun v28 e28 => ?_)
      obtain rfl : v28 = nI (a7 + 1) := e28.trans (nI_add _ _)
      have m29 : (((AB ad F5) 1 4) + (nI 1)) = (nI (a7 + 1)) := cg2 (fun (x : Int32) (y : Int32) => x + y) m27 (Eq.refl ((nI 1) : Int32)) e28
      refine r_put S hI hK hP5 hS5 1 (by decide) hF7 (C := RX5) (T := TX5) (N := 6) hiX5 tyX5_ok nmX5 rfl 4 (by decide) (am_at in_wsX5_readEnd_0 2 rfl) rfl rfl rfl (Nat.le_of_ble_eq_true rfl) dX5_readEnd_46 (fun F30 H30 locs30 eF30 hP30 hS30 => ?_)
      have hF30 : F30 1 = .inr (5, [.ref (ad 2), .int (nI n7), .int f7, .int fa7, .int (nI (a7 + 1)), .int nu7]) := by rw [eF30]; exact va_up_self _ _ _
      have hW30 := hW5.up eF30 (ok_text ⟨n7, a7 + 1, f7, fa7, nu7, rfl, by omega, by omega⟩)
      have hFr30 := hFr5.up eF30 (by simp <;> first | omega | (simp only [isC, isJ] at *; omega))
      have hE32 : M = m_X5_readEnd_31 (AB ad F30) := hE11.trans ((show m_X5_readEnd_10 (AB ad F5) (nI b6) = m_X5_readEnd_31 (st (AB ad F5) 1 4 (((AB ad F5) 1 4) + (nI 1))) from by unfold m_X5_readEnd_10; rw [if_neg (neq_cg rfl rfl c12), if_pos (eq_cg m24 rfl c25)]).trans (congrArg (m_X5_readEnd_31) ((st_cg rfl rfl m29).trans (AB_put hF7 (Nat.le_of_ble_eq_true rfl) eF30).symm)))
      have hE33 : M = AB ad F30 := hE32.trans ((show m_X5_readEnd_31 (AB ad F30) = (AB ad F30) from rfl).trans rfl)
      exact hret 49 _ _ _ _ dX5_readEnd_49 hP30 hS30 ⟨hW30, hFr30, ⟨trivial, hM.symm.trans hE33⟩⟩
    have k34 := ci_ne rfl (nI_toInt (n := 59) (by decide)) c25
    refine lv_aload_n S.1 S.2.1 dX5_readEnd_29 rfl (lv_at hl0 0 rfl) ?_
    refine lv_iconst (v := (nI 1)) S.1 S.2.1 dX5_readEnd_30 (by decide +kernel) ?_
    refine lv_aload_n S.1 S.2.1 dX5_readEnd_31 rfl (lv_at hl0 0 rfl) ?_
    refine r_get S hK hP5 1 (by decide) hF7 (C := RX5) (T := TX5) (N := 6) hiX5 rfl 4 (by decide) (am_at in_wsX5_readEnd_0 2 rfl) (v := .int (nI a7)) rfl dX5_readEnd_32 ?_
    have m35 : ((AB ad F5) 1 4) = (nI a7) := AB_f hF7 rfl
    refine r_cVv (As := [.int (nI 1), .int (nI a7)]) (rest := []) S hK hZ hP5 hS5 hl0.1 1 (by decide) hF7 (C := RX5) rfl (c_X5_blame l D cA ad t hI F5 hW5 (nI 1) (nI a7)) (cwV 2 S.2.2.2.2 gX5_readEnd_X5_blame rfl rfl rfl (by decide +kernel) ⟨Nat.le_of_ble_eq_true rfl, Nat.le_of_ble_eq_true rfl⟩) rfl rfl (Nat.le_of_ble_eq_true rfl) ⟨Nat.zero_le _, Nat.zero_le _⟩ dX5_readEnd_35 (fun F36 H36 locs36 hr36 hP36 hS36 => ?_)
    obtain ⟨hW36, hFc36, hr36⟩ := hr36
    obtain ⟨hr36, hm36⟩ := hr36
    have hFr36 := hFr5.tr hFc36 (by simp <;> first | omega | (simp only [isC, isJ] at *; omega))
    have hE38 : M = m_X5_readEnd_37 (AB ad F36) := hE11.trans ((show m_X5_readEnd_10 (AB ad F5) (nI b6) = m_X5_readEnd_37 (m_X5_blame (AB ad F5) (nI 1) ((AB ad F5) 1 4)) from by unfold m_X5_readEnd_10; rw [if_neg (neq_cg rfl rfl c12), if_neg (neq_cg m24 rfl c25)]).trans (congrArg (m_X5_readEnd_37) ((congr (congr (Eq.refl (m_X5_blame (AB ad F5))) (Eq.refl ((nI 1) : Int32))) m35).trans hm36)))
    have hE39 : M = AB ad F36 := hE38.trans ((show m_X5_readEnd_37 (AB ad F36) = (AB ad F36) from rfl).trans rfl)
    exact hret 38 _ _ _ _ dX5_readEnd_38 hP36 hS36 ⟨hW36, hFr36, ⟨trivial, hM.symm.trans hE39⟩⟩
  have k40 := ci_ne rfl z_ti c3
  have hE41 : M = AB ad F := hM.trans ((show m_X5_readEnd (AB ad F) = (AB ad F) from by unfold m_X5_readEnd; rw [if_neg (neq_cg m2 rfl c3)]).trans rfl)
  exact hret 7 _ _ _ _ dX5_readEnd_7 hP hS ⟨hW, hFr, ⟨trivial, hM.symm.trans hE41⟩⟩
noncomputable def m_X5_readNumber_151 (σ : SS) (a0 : Int32) (a1 : Int32) : Int32 × SS :=
  (a0, σ)
noncomputable def m_X5_readNumber_143 (k0 : SS → Int32 → Int32 → Int32 → Int32 × SS) (σ : SS) (a0 : Int32) (a1 : Int32) (a2 : Int32) : Int32 × SS :=
  k0 σ a0 a1 a2
noncomputable def m_X5_readNumber_123 (k0 : SS → Int32 → Int32 → Int32 → Int32 × SS) (σ : SS) (a0 : Int32) (a1 : Int32) (a2 : Int32) : Int32 × SS :=
  k0 σ a0 a1 a2
noncomputable def m_X5_readNumber_109 (k0 : SS → Int32 → Int32 → Int32 → Int32 × SS) (σ : SS) (a0 : Int32) (a1 : Int32) (a2 : Int32) : Int32 × SS :=
  (a1, σ)
noncomputable def m_X5_readNumber_99 (k0 : SS → Int32 → Int32 → Int32 → Int32 × SS) (σ : SS) (a0 : Int32) (a1 : Int32) (a2 : Int32) : Int32 × SS :=
  (a1, σ)
noncomputable def m_X5_readNumber_91 (k0 : SS → Int32 → Int32 → Int32 → Int32 × SS) (σ : SS) (a0 : Int32) (a1 : Int32) (a2 : Int32) : Int32 × SS :=
  (a1, σ)
noncomputable def m_X5_readNumber_69 (k0 : SS → Int32 → Int32 → Int32 → Int32 × SS) (σ : SS) (a0 : Int32) (a1 : Int32) (a2 : Int32) : Int32 × SS :=
  (a1, σ)
noncomputable def m_X5_readNumber_59 (k0 : SS → Int32 → Int32 → Int32 → Int32 × SS) (σ : SS) (a0 : Int32) (a1 : Int32) (a2 : Int32) : Int32 × SS :=
  (a1, σ)
noncomputable def m_X5_readNumber_51 (k0 : SS → Int32 → Int32 → Int32 → Int32 × SS) (σ : SS) (a0 : Int32) (a1 : Int32) (a2 : Int32) : Int32 × SS :=
  (a1, σ)
noncomputable def m_X5_readNumber_L52_35_b (k0 : SS → Int32 → Int32 → Int32 → Int32 × SS) (σ : SS) (a0 : Int32) (a1 : Int32) (a2 : Int32) : Int32 × SS :=
  if (σ 1 1) ≤ (σ 1 4) then
    if (nI 4) < ((σ 1 4) - (σ 1 5)) then
      m_X5_readNumber_51 k0 (m_X5_blame σ (nI 2) (σ 1 5)) a0 a1 a2
    else
      if a0 < a1 then
        m_X5_readNumber_59 k0 (m_X5_blame σ (nI 2) (σ 1 5)) a0 a1 a2
      else
        if a0 ≤ a2 then
          (a0, σ)
        else
          m_X5_readNumber_69 k0 (m_X5_blame σ (nI 2) (σ 1 5)) a0 a1 a2
  else
    if (m_X5_isFigure σ (σ 2 (rl (σ 1 4)))) = (0 : Int32) then
      if (nI 4) < ((σ 1 4) - (σ 1 5)) then
        m_X5_readNumber_91 k0 (m_X5_blame σ (nI 2) (σ 1 5)) a0 a1 a2
      else
        if a0 < a1 then
          m_X5_readNumber_99 k0 (m_X5_blame σ (nI 2) (σ 1 5)) a0 a1 a2
        else
          if a0 ≤ a2 then
            (a0, σ)
          else
            m_X5_readNumber_109 k0 (m_X5_blame σ (nI 2) (σ 1 5)) a0 a1 a2
    else
      if (nI 4) ≤ ((σ 1 4) - (σ 1 5)) then
        m_X5_readNumber_123 k0 (st σ 1 4 ((σ 1 4) + (nI 1))) a0 a1 a2
      else
        m_X5_readNumber_143 k0 (st σ 1 4 ((σ 1 4) + (nI 1))) (((a0 * (nI 10)) + (σ 2 (rl (σ 1 4)))) - (nI 48)) a1 a2
noncomputable def m_X5_readNumber_L52_35 : Nat → SS → Int32 → Int32 → Int32 → Int32 × SS
  | 0 => fun σ _ _ _ => (0, σ)
  | n + 1 => m_X5_readNumber_L52_35_b (m_X5_readNumber_L52_35 n)
noncomputable def m_X5_readNumber_32 (σ : SS) (a0 : Int32) (a1 : Int32) : Int32 × SS :=
  m_X5_readNumber_L52_35 2000 σ (nI 0) a0 a1
noncomputable def m_X5_readNumber_16 (σ : SS) (a0 : Int32) (a1 : Int32) : Int32 × SS :=
  (a0, σ)
noncomputable def m_X5_readNumber_10 (σ : SS) (a0 : Int32) (a1 : Int32) (a2 : Int32) : Int32 × SS :=
  if a2 = (0 : Int32) then
    m_X5_readNumber_16 (m_X5_blame σ (nI 1) (σ 1 4)) a0 a1
  else
    if (m_X5_isFigure σ (σ 2 (rl (σ 1 4)))) = (0 : Int32) then
      m_X5_readNumber_151 (m_X5_blame σ (nI 1) (σ 1 4)) a0 a1
    else
      m_X5_readNumber_32 (st σ 1 5 (σ 1 4)) a0 a1
noncomputable def m_X5_readNumber (σ : SS) (a0 : Int32) (a1 : Int32) : Int32 × SS :=
  if (σ 1 2) = (0 : Int32) then
    m_X5_readNumber_10 ((m_X5_skipBlanks σ)).2 a0 a1 ((m_X5_skipBlanks σ)).1
  else
    (a0, σ)
set_option maxHeartbeats 4000000 in
set_option maxRecDepth 100000 in
theorem c_X5_readNumber (l : Launch) (D : va_G) (cA ad : Nat → Nat) (t : Nat) (hI : rI ad) (F : Nat → va_E) (hW : WT cA ad F) (p1 : Int32) (p2 : Int32) : MI l D cA ad t yX5_readNumber wsX5_readNumber { frames := 1, cells := 0, slots := 0, locals := 22 } [.ref (ad 1), .int p1, .int p2] F (fun r F' => WT cA ad F' ∧ rFr [1] F F' ∧ ((p1.toInt ≤ p2.toInt → p1.toInt ≤ r.toInt ∧ r.toInt ≤ p2.toInt) ∧ m_X5_readNumber (AB ad F) p1 p2 = (r, AB ad F'))) := by
  refine en_I rfl (by decide +kernel) (Nat.le_of_ble_eq_true rfl) ?_
  intro p e s m args below meth c ls0 Q S hK hZ hP hS hl0 hret
  have hl0 : lv_has ls0 4 [(0, .ref (ad 1)), (1, .int p1), (2, .int p2)] := hl0
  have hFr : rFr [1] F F := rFr.rf
  have hiX5 : ∀ w ∈ u_ws RX5 TX5 6, w ∈ wsX5_readNumber := in_wsX5_readNumber_1
  obtain ⟨M, hM⟩ : ∃ M, M = m_X5_readNumber (AB ad F) p1 p2 := ⟨_, rfl⟩
  refine lv_aload_n S.1 S.2.1 dX5_readNumber_0 rfl (lv_at hl0 0 rfl) ?_
  obtain ⟨n1, a1, f1, fa1, nu1, hF1, hn1, ha1⟩ := wt_text hW
  refine r_get S hK hP 1 (by decide) hF1 (C := RX5) (T := TX5) (N := 6) hiX5 rfl 2 (by decide) (am_at in_wsX5_readNumber_0 0 rfl) (v := .int f1) rfl dX5_readNumber_1 ?_
  have m2 : ((AB ad F) 1 2) = f1 := AB_f hF1 rfl
  refine lv_if_eq (tgt := 9) S.1 S.2.1 dX5_readNumber_4 (by decide) (fun c3 => ?_) (fun c3 => ?_)
  · skip
    have k4 := ci_eq rfl z_ti c3
    refine lv_aload_n S.1 S.2.1 dX5_readNumber_9 rfl (lv_at hl0 0 rfl) ?_
    refine r_cVi (As := []) (rest := []) S hK hZ hP hS hl0.1 1 (by decide) hF1 (C := RX5) rfl (c_X5_skipBlanks l D cA ad t hI F hW ) (cwV 0 S.2.2.2.2 gX5_readNumber_X5_skipBlanks rfl rfl rfl (by decide +kernel) ⟨Nat.le_of_ble_eq_true rfl, Nat.le_of_ble_eq_true rfl⟩) rfl rfl (Nat.le_of_ble_eq_true rfl) ⟨Nat.zero_le _, Nat.zero_le _⟩ dX5_readNumber_10 (fun r5 F5 H5 locs5 hr5 hP5 hS5 => ?_)
    obtain ⟨hW5, hFc5, hr5⟩ := hr5
    obtain ⟨hr5, hm5⟩ := hr5
    have hFr5 := hFr.tr hFc5 (by simp <;> first | omega | (simp only [isC, isJ] at *; omega))
    obtain ⟨⟨b6, hb6, rfl⟩, hx6⟩ := hr5
    obtain ⟨n7, a7, f7, fa7, nu7, hF7, hn7, ha7⟩ := wt_text hW5
    have hA8 := fN_of (k := 4) (a := a7) hF7 rfl (by omega)
    have hL8 := fN_of (k := 1) (a := n7) hF7 rfl (by omega)
    have hy6 : b6 ≠ 0 → a7 < n7 := fun q => by have := hx6 (nI_ne0 (by omega) (by omega)); omega
    have mc9 : (m_X5_skipBlanks (AB ad F)) = ((nI b6), AB ad F5) := (Eq.refl (m_X5_skipBlanks (AB ad F))).trans hm5
    have hE11 : M = m_X5_readNumber_10 (AB ad F5) p1 p2 (nI b6) := hM.trans ((show m_X5_readNumber (AB ad F) p1 p2 = m_X5_readNumber_10 ((m_X5_skipBlanks (AB ad F))).2 p1 p2 ((m_X5_skipBlanks (AB ad F))).1 from by unfold m_X5_readNumber; rw [if_pos (eq_cg m2 rfl c3)]).trans (congr (congr (congr (congrArg (m_X5_readNumber_10) (congrArg Prod.snd mc9)) (Eq.refl (p1 : Int32))) (Eq.refl (p2 : Int32))) (congrArg Prod.fst mc9)))
    refine lv_if_eq (tgt := 31) S.1 S.2.1 dX5_readNumber_13 (by decide) (fun c12 => ?_) (fun c12 => ?_)
    · skip
      have k13 := ci_eq (nI_toInt (n := b6) (Nat.lt_of_le_of_lt hb6 (by decide))) z_ti c12
      refine lv_aload_n S.1 S.2.1 dX5_readNumber_31 rfl (lv_at hl0 0 rfl) ?_
      refine lv_iconst (v := (nI 1)) S.1 S.2.1 dX5_readNumber_32 (by decide +kernel) ?_
      refine lv_aload_n S.1 S.2.1 dX5_readNumber_33 rfl (lv_at hl0 0 rfl) ?_
      refine r_get S hK hP5 1 (by decide) hF7 (C := RX5) (T := TX5) (N := 6) hiX5 rfl 4 (by decide) (am_at in_wsX5_readNumber_0 2 rfl) (v := .int (nI a7)) rfl dX5_readNumber_34 ?_
      have m14 : ((AB ad F5) 1 4) = (nI a7) := AB_f hF7 rfl
      refine r_cVv (As := [.int (nI 1), .int (nI a7)]) (rest := []) S hK hZ hP5 hS5 hl0.1 1 (by decide) hF7 (C := RX5) rfl (c_X5_blame l D cA ad t hI F5 hW5 (nI 1) (nI a7)) (cwV 2 S.2.2.2.2 gX5_readNumber_X5_blame rfl rfl rfl (by decide +kernel) ⟨Nat.le_of_ble_eq_true rfl, Nat.le_of_ble_eq_true rfl⟩) rfl rfl (Nat.le_of_ble_eq_true rfl) ⟨Nat.zero_le _, Nat.zero_le _⟩ dX5_readNumber_37 (fun F15 H15 locs15 hr15 hP15 hS15 => ?_)
      obtain ⟨hW15, hFc15, hr15⟩ := hr15
      obtain ⟨hr15, hm15⟩ := hr15
      have hFr15 := hFr5.tr hFc15 (by simp <;> first | omega | (simp only [isC, isJ] at *; omega))
      have hE17 : M = m_X5_readNumber_16 (AB ad F15) p1 p2 := hE11.trans ((show m_X5_readNumber_10 (AB ad F5) p1 p2 (nI b6) = m_X5_readNumber_16 (m_X5_blame (AB ad F5) (nI 1) ((AB ad F5) 1 4)) p1 p2 from by unfold m_X5_readNumber_10; rw [if_pos (eq_cg rfl rfl c12)]).trans (congr (congr (congrArg (m_X5_readNumber_16) ((congr (congr (Eq.refl (m_X5_blame (AB ad F5))) (Eq.refl ((nI 1) : Int32))) m14).trans hm15)) (Eq.refl (p1 : Int32))) (Eq.refl (p2 : Int32))))
      refine lv_iload_n S.1 S.2.1 dX5_readNumber_40 rfl (lv_at hl0 1 rfl) ?_
      have hE18 : M = (p1, AB ad F15) := hE17.trans ((show m_X5_readNumber_16 (AB ad F15) p1 p2 = (p1, (AB ad F15)) from rfl).trans (congrArg (fun q => (q, AB ad F15)) rfl))
      exact hret 41 _ _ _ _ _ dX5_readNumber_41 rfl hP15 hS15 ⟨hW15, hFr15, ⟨fun _ => ⟨by omega, by omega⟩, hM.symm.trans hE18⟩⟩
    have k19 := ci_ne (nI_toInt (n := b6) (Nat.lt_of_le_of_lt hb6 (by decide))) z_ti c12
    refine lv_aload_n S.1 S.2.1 dX5_readNumber_16 rfl (lv_at hl0 0 rfl) ?_
    refine r_get S hK hP5 1 (by decide) hF7 (C := RX5) (T := TX5) (N := 6) hiX5 rfl 0 (by decide) (am_at in_wsX5_readNumber_0 1 rfl) (v := .ref (ad 2)) rfl dX5_readNumber_17 ?_
    refine lv_aload_n S.1 S.2.1 dX5_readNumber_20 rfl (lv_at hl0 0 rfl) ?_
    refine r_get S hK hP5 1 (by decide) hF7 (C := RX5) (T := TX5) (N := 6) hiX5 rfl 4 (by decide) (am_at in_wsX5_readNumber_0 2 rfl) (v := .int (nI a7)) rfl dX5_readNumber_21 ?_
    have m20 : ((AB ad F5) 1 4) = (nI a7) := AB_f hF7 rfl
    obtain ⟨g21, hF21⟩ := wt_let hW5
    refine r_cald S hK hP5 2 (by decide) hF21 (vp_in_nI (show a7 < 240 by omega) (by omega)) dX5_readNumber_24 ?_
    refine lv_topi (fun v23 e23 => ?_)
    have m24 : ((AB ad F5) 2 (rl ((AB ad F5) 1 4))) = v23 := (ab_cg rfl m20).trans ((AB_g hF21).trans e23.symm)
    refine r_cSp (As := [.int v23]) (rest := []) S hK hZ hP5 hS5 hl0.1 (c_X5_isFigure l D cA ad t hI F5 hW5 v23) (va_cwS 1 S.2.2.2.2 gX5_readNumber_X5_isFigure rfl rfl rfl (by decide +kernel) ⟨Nat.le_of_ble_eq_true rfl, Nat.le_of_ble_eq_true rfl⟩) rfl rfl (Nat.le_of_ble_eq_true rfl) ⟨Nat.zero_le _, Nat.zero_le _⟩ dX5_readNumber_25 (fun r25 hr25 => ?_)
    obtain ⟨hr25, hm25⟩ := hr25
    obtain ⟨b26, hb26, rfl⟩ := hr25
    have m27 : (m_X5_isFigure (AB ad F5) ((AB ad F5) 2 (rl ((AB ad F5) 1 4)))) = (nI b26) := (congr (Eq.refl (m_X5_isFigure (AB ad F5))) m24).trans hm25
    refine lv_if_ne (tgt := 42) S.1 S.2.1 dX5_readNumber_28 (by decide) (fun c28 => ?_) (fun c28 => ?_)
    · skip
      have k29 := ci_ne (nI_toInt (n := b26) (Nat.lt_of_le_of_lt hb26 (by decide))) z_ti c28
      refine lv_aload_n S.1 S.2.1 dX5_readNumber_42 rfl (lv_at hl0 0 rfl) ?_
      refine lv_aload_n S.1 S.2.1 dX5_readNumber_43 rfl (lv_at hl0 0 rfl) ?_
      refine r_get S hK hP5 1 (by decide) hF7 (C := RX5) (T := TX5) (N := 6) hiX5 rfl 4 (by decide) (am_at in_wsX5_readNumber_0 2 rfl) (v := .int (nI a7)) rfl dX5_readNumber_44 ?_
      have m30 : ((AB ad F5) 1 4) = (nI a7) := AB_f hF7 rfl
      refine r_put S hI hK hP5 hS5 1 (by decide) hF7 (C := RX5) (T := TX5) (N := 6) hiX5 tyX5_ok nmX5 rfl 5 (by decide) (am_at in_wsX5_readNumber_0 3 rfl) rfl rfl rfl (Nat.le_of_ble_eq_true rfl) dX5_readNumber_47 (fun F31 H31 locs31 eF31 hP31 hS31 => ?_)
      have hF31 : F31 1 = .inr (5, [.ref (ad 2), .int (nI n7), .int f7, .int fa7, .int (nI a7), .int (nI a7)]) := by rw [eF31]; exact va_up_self _ _ _
      have hW31 := hW5.up eF31 (ok_text ⟨n7, a7, f7, fa7, (nI a7), rfl, by omega, by omega⟩)
      have hFr31 := hFr5.up eF31 (by simp <;> first | omega | (simp only [isC, isJ] at *; omega))
      have hE33 : M = m_X5_readNumber_32 (AB ad F31) p1 p2 := hE11.trans ((show m_X5_readNumber_10 (AB ad F5) p1 p2 (nI b6) = m_X5_readNumber_32 (st (AB ad F5) 1 5 ((AB ad F5) 1 4)) p1 p2 from by unfold m_X5_readNumber_10; rw [if_neg (neq_cg rfl rfl c12), if_neg (neq_cg m27 rfl c28)]).trans (congr (congr (congrArg (m_X5_readNumber_32) ((st_cg rfl rfl m30).trans (AB_put hF7 (Nat.le_of_ble_eq_true rfl) eF31).symm)) (Eq.refl (p1 : Int32))) (Eq.refl (p2 : Int32))))
      refine lv_iconst (v := (nI 0)) S.1 S.2.1 dX5_readNumber_50 (by decide +kernel) ?_
      refine lv_istore_n (lv' := [(3, .int (nI 0)), (0, .ref (ad 1)), (1, .int p1), (2, .int p2)]) S.1 S.2.1 dX5_readNumber_51 rfl hl0 (by decide) rfl (fun ls34 hl34 => ?_)
      have lp35 : ∀ (n35 : Nat) (x35_3 : Int32), ∀ (Fl35 : Nat → va_E) (Hl35 : Heap) (lol35 : List Loc), 240 - fN (Fl35 1) 4 < n35 → WT cA ad Fl35 → rFr [1] F Fl35 → va_P D vwCl (rW ad Fl35) Hl35 → va_S (rA ad) s.heap Hl35 lol35 → M = m_X5_readNumber_L52_35 n35 (AB ad Fl35) x35_3 p1 p2 → ∀ (ls : Array Slot), lv_has ls 4 [(3, .int x35_3), (0, .ref (ad 1)), (1, .int p1), (2, .int p2)] → W p l e { frames := 1, cells := 0, slots := 0, locals := 22 } s m args below meth c Hl35 lol35 0 0 Q (F0 m 52 ls []) := by
        intro n35
        induction n35 with
        | zero =>
          intro x35_3 Fl35 Hl35 lol35 hm35 hWl35 hFl35 hPl35 hSl35 hEl35 ls35 hl35
          exact absurd hm35 (Nat.not_lt_zero _)
        | succ n35 ih35 =>
          intro x35_3 Fl35 Hl35 lol35 hm35 hWl35 hFl35 hPl35 hSl35 hEl35 ls35 hl35
          have hE36 : M = m_X5_readNumber_L52_35_b (m_X5_readNumber_L52_35 n35) (AB ad Fl35) x35_3 p1 p2 := hEl35
          obtain ⟨n37, a37, f37, fa37, nu37, hF37, hn37, ha37⟩ := wt_text hWl35
          have hA38 := fN_of (k := 4) (a := a37) hF37 rfl (by omega)
          have hL38 := fN_of (k := 1) (a := n37) hF37 rfl (by omega)
          refine lv_aload_n S.1 S.2.1 dX5_readNumber_52 rfl (lv_at hl35 1 rfl) ?_
          refine r_get S hK hPl35 1 (by decide) hF37 (C := RX5) (T := TX5) (N := 6) hiX5 rfl 4 (by decide) (am_at in_wsX5_readNumber_0 2 rfl) (v := .int (nI a37)) rfl dX5_readNumber_53 ?_
          have m39 : ((AB ad Fl35) 1 4) = (nI a37) := AB_f hF37 rfl
          refine lv_aload_n S.1 S.2.1 dX5_readNumber_56 rfl (lv_at hl35 1 rfl) ?_
          refine r_get S hK hPl35 1 (by decide) hF37 (C := RX5) (T := TX5) (N := 6) hiX5 rfl 1 (by decide) (am_at in_wsX5_readNumber_0 4 rfl) (v := .int (nI n37)) rfl dX5_readNumber_57 ?_
          have m40 : ((AB ad Fl35) 1 1) = (nI n37) := AB_f hF37 rfl
          refine lv_icmp_ge (tgt := 122) S.1 S.2.1 dX5_readNumber_60 (by decide) (fun c41 => ?_) (fun c41 => ?_)
          · skip
            have k42 := ci_le (nI_toInt (n := n37) (by omega)) (nI_toInt (n := a37) (by omega)) c41
            refine lv_aload_n S.1 S.2.1 dX5_readNumber_122 rfl (lv_at hl35 1 rfl) ?_
            refine r_get S hK hPl35 1 (by decide) hF37 (C := RX5) (T := TX5) (N := 6) hiX5 rfl 4 (by decide) (am_at in_wsX5_readNumber_0 2 rfl) (v := .int (nI a37)) rfl dX5_readNumber_123 ?_
            have m43 : ((AB ad Fl35) 1 4) = (nI a37) := AB_f hF37 rfl
            refine lv_aload_n S.1 S.2.1 dX5_readNumber_126 rfl (lv_at hl35 1 rfl) ?_
            refine r_get S hK hPl35 1 (by decide) hF37 (C := RX5) (T := TX5) (N := 6) hiX5 rfl 5 (by decide) (am_at in_wsX5_readNumber_0 3 rfl) (v := .int nu37) rfl dX5_readNumber_127 ?_
            have m44 : ((AB ad Fl35) 1 5) = nu37 := AB_f hF37 rfl
            refine lv_isub S.1 S.2.1 dX5_readNumber_130 ?_
            refine lv_topi (fun v45 e45 => ?_)
            have m46 : (((AB ad Fl35) 1 4) - ((AB ad Fl35) 1 5)) = v45 := cg2 (fun (x : Int32) (y : Int32) => x - y) m43 m44 e45
            refine lv_iconst (v := (nI 4)) S.1 S.2.1 dX5_readNumber_131 (by decide +kernel) ?_
            refine lv_icmp_gt (tgt := 145) S.1 S.2.1 dX5_readNumber_132 (by decide) (fun c47 => ?_) (fun c47 => ?_)
            · skip
              have k48 := ci_lt (nI_toInt (n := 4) (by decide)) rfl c47
              refine lv_aload_n S.1 S.2.1 dX5_readNumber_145 rfl (lv_at hl35 1 rfl) ?_
              refine lv_iconst (v := (nI 2)) S.1 S.2.1 dX5_readNumber_146 (by decide +kernel) ?_
              refine lv_aload_n S.1 S.2.1 dX5_readNumber_147 rfl (lv_at hl35 1 rfl) ?_
              refine r_get S hK hPl35 1 (by decide) hF37 (C := RX5) (T := TX5) (N := 6) hiX5 rfl 5 (by decide) (am_at in_wsX5_readNumber_0 3 rfl) (v := .int nu37) rfl dX5_readNumber_148 ?_
              have m49 : ((AB ad Fl35) 1 5) = nu37 := AB_f hF37 rfl
              refine r_cVv (As := [.int (nI 2), .int nu37]) (rest := []) S hK hZ hPl35 hSl35 hl35.1 1 (by decide) hF37 (C := RX5) rfl (c_X5_blame l D cA ad t hI Fl35 hWl35 (nI 2) nu37) (cwV 2 S.2.2.2.2 gX5_readNumber_X5_blame rfl rfl rfl (by decide +kernel) ⟨Nat.le_of_ble_eq_true rfl, Nat.le_of_ble_eq_true rfl⟩) rfl rfl (Nat.le_of_ble_eq_true rfl) ⟨Nat.zero_le _, Nat.zero_le _⟩ dX5_readNumber_151 (fun F50 H50 locs50 hr50 hP50 hS50 => ?_)
              obtain ⟨hW50, hFc50, hr50⟩ := hr50
              obtain ⟨hr50, hm50⟩ := hr50
              have hFr50 := hFl35.tr hFc50 (by simp <;> first | omega | (simp only [isC, isJ] at *; omega))
              have hE52 : M = m_X5_readNumber_51 (m_X5_readNumber_L52_35 n35) (AB ad F50) x35_3 p1 p2 := hE36.trans ((show m_X5_readNumber_L52_35_b (m_X5_readNumber_L52_35 n35) (AB ad Fl35) x35_3 p1 p2 = m_X5_readNumber_51 (m_X5_readNumber_L52_35 n35) (m_X5_blame (AB ad Fl35) (nI 2) ((AB ad Fl35) 1 5)) x35_3 p1 p2 from by unfold m_X5_readNumber_L52_35_b; rw [if_pos (le_cg m40 m39 c41), if_pos (lt_cg rfl m46 c47)]).trans (congr (congr (congr (congrArg (m_X5_readNumber_51 (m_X5_readNumber_L52_35 n35)) ((congr (congr (Eq.refl (m_X5_blame (AB ad Fl35))) (Eq.refl ((nI 2) : Int32))) m49).trans hm50)) (Eq.refl (x35_3 : Int32))) (Eq.refl (p1 : Int32))) (Eq.refl (p2 : Int32))))
              refine lv_iload_n S.1 S.2.1 dX5_readNumber_154 rfl (lv_at hl35 2 rfl) ?_
              have hE53 : M = (p1, AB ad F50) := hE52.trans ((show m_X5_readNumber_51 (m_X5_readNumber_L52_35 n35) (AB ad F50) x35_3 p1 p2 = (p1, (AB ad F50)) from rfl).trans (congrArg (fun q => (q, AB ad F50)) rfl))
              exact hret 155 _ _ _ _ _ dX5_readNumber_155 rfl hP50 hS50 ⟨hW50, hFr50, ⟨fun _ => ⟨by omega, by omega⟩, hM.symm.trans hE53⟩⟩
            have k54 := ci_nlt (nI_toInt (n := 4) (by decide)) rfl c47
            refine lv_iload_n S.1 S.2.1 dX5_readNumber_135 rfl (lv_at hl35 0 rfl) ?_
            refine lv_iload_n S.1 S.2.1 dX5_readNumber_136 rfl (lv_at hl35 2 rfl) ?_
            refine lv_icmp_lt (tgt := 145) S.1 S.2.1 dX5_readNumber_137 (by decide) (fun c55 => ?_) (fun c55 => ?_)
            · skip
              have k56 := ci_lt rfl rfl c55
              refine lv_aload_n S.1 S.2.1 dX5_readNumber_145 rfl (lv_at hl35 1 rfl) ?_
              refine lv_iconst (v := (nI 2)) S.1 S.2.1 dX5_readNumber_146 (by decide +kernel) ?_
              refine lv_aload_n S.1 S.2.1 dX5_readNumber_147 rfl (lv_at hl35 1 rfl) ?_
              refine r_get S hK hPl35 1 (by decide) hF37 (C := RX5) (T := TX5) (N := 6) hiX5 rfl 5 (by decide) (am_at in_wsX5_readNumber_0 3 rfl) (v := .int nu37) rfl dX5_readNumber_148 ?_
              have m57 : ((AB ad Fl35) 1 5) = nu37 := AB_f hF37 rfl
              refine r_cVv (As := [.int (nI 2), .int nu37]) (rest := []) S hK hZ hPl35 hSl35 hl35.1 1 (by decide) hF37 (C := RX5) rfl (c_X5_blame l D cA ad t hI Fl35 hWl35 (nI 2) nu37) (cwV 2 S.2.2.2.2 gX5_readNumber_X5_blame rfl rfl rfl (by decide +kernel) ⟨Nat.le_of_ble_eq_true rfl, Nat.le_of_ble_eq_true rfl⟩) rfl rfl (Nat.le_of_ble_eq_true rfl) ⟨Nat.zero_le _, Nat.zero_le _⟩ dX5_readNumber_151 (fun F58 H58 locs58 hr58 hP58 hS58 => ?_)
              obtain ⟨hW58, hFc58, hr58⟩ := hr58
              obtain ⟨hr58, hm58⟩ := hr58
              have hFr58 := hFl35.tr hFc58 (by simp <;> first | omega | (simp only [isC, isJ] at *; omega))
              have hE60 : M = m_X5_readNumber_59 (m_X5_readNumber_L52_35 n35) (AB ad F58) x35_3 p1 p2 := hE36.trans ((show m_X5_readNumber_L52_35_b (m_X5_readNumber_L52_35 n35) (AB ad Fl35) x35_3 p1 p2 = m_X5_readNumber_59 (m_X5_readNumber_L52_35 n35) (m_X5_blame (AB ad Fl35) (nI 2) ((AB ad Fl35) 1 5)) x35_3 p1 p2 from by unfold m_X5_readNumber_L52_35_b; rw [if_pos (le_cg m40 m39 c41), if_neg (nlt_cg rfl m46 c47), if_pos (lt_cg rfl rfl c55)]).trans (congr (congr (congr (congrArg (m_X5_readNumber_59 (m_X5_readNumber_L52_35 n35)) ((congr (congr (Eq.refl (m_X5_blame (AB ad Fl35))) (Eq.refl ((nI 2) : Int32))) m57).trans hm58)) (Eq.refl (x35_3 : Int32))) (Eq.refl (p1 : Int32))) (Eq.refl (p2 : Int32))))
              refine lv_iload_n S.1 S.2.1 dX5_readNumber_154 rfl (lv_at hl35 2 rfl) ?_
              have hE61 : M = (p1, AB ad F58) := hE60.trans ((show m_X5_readNumber_59 (m_X5_readNumber_L52_35 n35) (AB ad F58) x35_3 p1 p2 = (p1, (AB ad F58)) from rfl).trans (congrArg (fun q => (q, AB ad F58)) rfl))
              exact hret 155 _ _ _ _ _ dX5_readNumber_155 rfl hP58 hS58 ⟨hW58, hFr58, ⟨fun _ => ⟨by omega, by omega⟩, hM.symm.trans hE61⟩⟩
            have k62 := ci_nlt rfl rfl c55
            refine lv_iload_n S.1 S.2.1 dX5_readNumber_140 rfl (lv_at hl35 0 rfl) ?_
            refine lv_iload_n S.1 S.2.1 dX5_readNumber_141 rfl (lv_at hl35 3 rfl) ?_
            refine lv_icmp_le (tgt := 156) S.1 S.2.1 dX5_readNumber_142 (by decide) (fun c63 => ?_) (fun c63 => ?_)
            · skip
              have k64 := ci_le rfl rfl c63
              refine lv_iload_n S.1 S.2.1 dX5_readNumber_156 rfl (lv_at hl35 0 rfl) ?_
              have hE65 : M = (x35_3, AB ad Fl35) := hE36.trans ((show m_X5_readNumber_L52_35_b (m_X5_readNumber_L52_35 n35) (AB ad Fl35) x35_3 p1 p2 = (x35_3, (AB ad Fl35)) from by unfold m_X5_readNumber_L52_35_b; rw [if_pos (le_cg m40 m39 c41), if_neg (nlt_cg rfl m46 c47), if_neg (nlt_cg rfl rfl c55), if_pos (le_cg rfl rfl c63)]).trans (congrArg (fun q => (q, AB ad Fl35)) rfl))
              exact hret 157 _ _ _ _ _ dX5_readNumber_157 rfl hPl35 hSl35 ⟨hWl35, hFl35, ⟨fun _ => ⟨by omega, by omega⟩, hM.symm.trans hE65⟩⟩
            have k66 := ci_nle rfl rfl c63
            refine lv_aload_n S.1 S.2.1 dX5_readNumber_145 rfl (lv_at hl35 1 rfl) ?_
            refine lv_iconst (v := (nI 2)) S.1 S.2.1 dX5_readNumber_146 (by decide +kernel) ?_
            refine lv_aload_n S.1 S.2.1 dX5_readNumber_147 rfl (lv_at hl35 1 rfl) ?_
            refine r_get S hK hPl35 1 (by decide) hF37 (C := RX5) (T := TX5) (N := 6) hiX5 rfl 5 (by decide) (am_at in_wsX5_readNumber_0 3 rfl) (v := .int nu37) rfl dX5_readNumber_148 ?_
            have m67 : ((AB ad Fl35) 1 5) = nu37 := AB_f hF37 rfl
            refine r_cVv (As := [.int (nI 2), .int nu37]) (rest := []) S hK hZ hPl35 hSl35 hl35.1 1 (by decide) hF37 (C := RX5) rfl (c_X5_blame l D cA ad t hI Fl35 hWl35 (nI 2) nu37) (cwV 2 S.2.2.2.2 gX5_readNumber_X5_blame rfl rfl rfl (by decide +kernel) ⟨Nat.le_of_ble_eq_true rfl, Nat.le_of_ble_eq_true rfl⟩) rfl rfl (Nat.le_of_ble_eq_true rfl) ⟨Nat.zero_le _, Nat.zero_le _⟩ dX5_readNumber_151 (fun F68 H68 locs68 hr68 hP68 hS68 => ?_)
            obtain ⟨hW68, hFc68, hr68⟩ := hr68
            obtain ⟨hr68, hm68⟩ := hr68
            have hFr68 := hFl35.tr hFc68 (by simp <;> first | omega | (simp only [isC, isJ] at *; omega))
            have hE70 : M = m_X5_readNumber_69 (m_X5_readNumber_L52_35 n35) (AB ad F68) x35_3 p1 p2 := hE36.trans ((show m_X5_readNumber_L52_35_b (m_X5_readNumber_L52_35 n35) (AB ad Fl35) x35_3 p1 p2 = m_X5_readNumber_69 (m_X5_readNumber_L52_35 n35) (m_X5_blame (AB ad Fl35) (nI 2) ((AB ad Fl35) 1 5)) x35_3 p1 p2 from by unfold m_X5_readNumber_L52_35_b; rw [if_pos (le_cg m40 m39 c41), if_neg (nlt_cg rfl m46 c47), if_neg (nlt_cg rfl rfl c55), if_neg (nle_cg rfl rfl c63)]).trans (congr (congr (congr (congrArg (m_X5_readNumber_69 (m_X5_readNumber_L52_35 n35)) ((congr (congr (Eq.refl (m_X5_blame (AB ad Fl35))) (Eq.refl ((nI 2) : Int32))) m67).trans hm68)) (Eq.refl (x35_3 : Int32))) (Eq.refl (p1 : Int32))) (Eq.refl (p2 : Int32))))
            refine lv_iload_n S.1 S.2.1 dX5_readNumber_154 rfl (lv_at hl35 2 rfl) ?_
            have hE71 : M = (p1, AB ad F68) := hE70.trans ((show m_X5_readNumber_69 (m_X5_readNumber_L52_35 n35) (AB ad F68) x35_3 p1 p2 = (p1, (AB ad F68)) from rfl).trans (congrArg (fun q => (q, AB ad F68)) rfl))
            exact hret 155 _ _ _ _ _ dX5_readNumber_155 rfl hP68 hS68 ⟨hW68, hFr68, ⟨fun _ => ⟨by omega, by omega⟩, hM.symm.trans hE71⟩⟩
          have k72 := ci_nle (nI_toInt (n := n37) (by omega)) (nI_toInt (n := a37) (by omega)) c41
          refine lv_aload_n S.1 S.2.1 dX5_readNumber_63 rfl (lv_at hl35 1 rfl) ?_
          refine r_get S hK hPl35 1 (by decide) hF37 (C := RX5) (T := TX5) (N := 6) hiX5 rfl 0 (by decide) (am_at in_wsX5_readNumber_0 1 rfl) (v := .ref (ad 2)) rfl dX5_readNumber_64 ?_
          refine lv_aload_n S.1 S.2.1 dX5_readNumber_67 rfl (lv_at hl35 1 rfl) ?_
          refine r_get S hK hPl35 1 (by decide) hF37 (C := RX5) (T := TX5) (N := 6) hiX5 rfl 4 (by decide) (am_at in_wsX5_readNumber_0 2 rfl) (v := .int (nI a37)) rfl dX5_readNumber_68 ?_
          have m73 : ((AB ad Fl35) 1 4) = (nI a37) := AB_f hF37 rfl
          obtain ⟨g74, hF74⟩ := wt_let hWl35
          refine r_cald S hK hPl35 2 (by decide) hF74 (vp_in_nI (show a37 < 240 by omega) (by omega)) dX5_readNumber_71 ?_
          refine lv_topi (fun v76 e76 => ?_)
          have m77 : ((AB ad Fl35) 2 (rl ((AB ad Fl35) 1 4))) = v76 := (ab_cg rfl m73).trans ((AB_g hF74).trans e76.symm)
          refine r_cSp (As := [.int v76]) (rest := []) S hK hZ hPl35 hSl35 hl35.1 (c_X5_isFigure l D cA ad t hI Fl35 hWl35 v76) (va_cwS 1 S.2.2.2.2 gX5_readNumber_X5_isFigure rfl rfl rfl (by decide +kernel) ⟨Nat.le_of_ble_eq_true rfl, Nat.le_of_ble_eq_true rfl⟩) rfl rfl (Nat.le_of_ble_eq_true rfl) ⟨Nat.zero_le _, Nat.zero_le _⟩ dX5_readNumber_72 (fun r78 hr78 => ?_)
          obtain ⟨hr78, hm78⟩ := hr78
          obtain ⟨b79, hb79, rfl⟩ := hr78
          have m80 : (m_X5_isFigure (AB ad Fl35) ((AB ad Fl35) 2 (rl ((AB ad Fl35) 1 4)))) = (nI b79) := (congr (Eq.refl (m_X5_isFigure (AB ad Fl35))) m77).trans hm78
          refine lv_if_eq (tgt := 122) S.1 S.2.1 dX5_readNumber_75 (by decide) (fun c81 => ?_) (fun c81 => ?_)
          · skip
            have k82 := ci_eq (nI_toInt (n := b79) (Nat.lt_of_le_of_lt hb79 (by decide))) z_ti c81
            refine lv_aload_n S.1 S.2.1 dX5_readNumber_122 rfl (lv_at hl35 1 rfl) ?_
            refine r_get S hK hPl35 1 (by decide) hF37 (C := RX5) (T := TX5) (N := 6) hiX5 rfl 4 (by decide) (am_at in_wsX5_readNumber_0 2 rfl) (v := .int (nI a37)) rfl dX5_readNumber_123 ?_
            have m83 : ((AB ad Fl35) 1 4) = (nI a37) := AB_f hF37 rfl
            refine lv_aload_n S.1 S.2.1 dX5_readNumber_126 rfl (lv_at hl35 1 rfl) ?_
            refine r_get S hK hPl35 1 (by decide) hF37 (C := RX5) (T := TX5) (N := 6) hiX5 rfl 5 (by decide) (am_at in_wsX5_readNumber_0 3 rfl) (v := .int nu37) rfl dX5_readNumber_127 ?_
            have m84 : ((AB ad Fl35) 1 5) = nu37 := AB_f hF37 rfl
            refine lv_isub S.1 S.2.1 dX5_readNumber_130 ?_
            refine lv_topi (fun v85 e85 => ?_)
            have m86 : (((AB ad Fl35) 1 4) - ((AB ad Fl35) 1 5)) = v85 := cg2 (fun (x : Int32) (y : Int32) => x - y) m83 m84 e85
            refine lv_iconst (v := (nI 4)) S.1 S.2.1 dX5_readNumber_131 (by decide +kernel) ?_
            refine lv_icmp_gt (tgt := 145) S.1 S.2.1 dX5_readNumber_132 (by decide) (fun c87 => ?_) (fun c87 => ?_)
            · skip
              have k88 := ci_lt (nI_toInt (n := 4) (by decide)) rfl c87
              refine lv_aload_n S.1 S.2.1 dX5_readNumber_145 rfl (lv_at hl35 1 rfl) ?_
              refine lv_iconst (v := (nI 2)) S.1 S.2.1 dX5_readNumber_146 (by decide +kernel) ?_
              refine lv_aload_n S.1 S.2.1 dX5_readNumber_147 rfl (lv_at hl35 1 rfl) ?_
              refine r_get S hK hPl35 1 (by decide) hF37 (C := RX5) (T := TX5) (N := 6) hiX5 rfl 5 (by decide) (am_at in_wsX5_readNumber_0 3 rfl) (v := .int nu37) rfl dX5_readNumber_148 ?_
              have m89 : ((AB ad Fl35) 1 5) = nu37 := AB_f hF37 rfl
              refine r_cVv (As := [.int (nI 2), .int nu37]) (rest := []) S hK hZ hPl35 hSl35 hl35.1 1 (by decide) hF37 (C := RX5) rfl (c_X5_blame l D cA ad t hI Fl35 hWl35 (nI 2) nu37) (cwV 2 S.2.2.2.2 gX5_readNumber_X5_blame rfl rfl rfl (by decide +kernel) ⟨Nat.le_of_ble_eq_true rfl, Nat.le_of_ble_eq_true rfl⟩) rfl rfl (Nat.le_of_ble_eq_true rfl) ⟨Nat.zero_le _, Nat.zero_le _⟩ dX5_readNumber_151 (fun F90 H90 locs90 hr90 hP90 hS90 => ?_)
              obtain ⟨hW90, hFc90, hr90⟩ := hr90
              obtain ⟨hr90, hm90⟩ := hr90
              have hFr90 := hFl35.tr hFc90 (by simp <;> first | omega | (simp only [isC, isJ] at *; omega))
              have hE92 : M = m_X5_readNumber_91 (m_X5_readNumber_L52_35 n35) (AB ad F90) x35_3 p1 p2 := hE36.trans ((show m_X5_readNumber_L52_35_b (m_X5_readNumber_L52_35 n35) (AB ad Fl35) x35_3 p1 p2 = m_X5_readNumber_91 (m_X5_readNumber_L52_35 n35) (m_X5_blame (AB ad Fl35) (nI 2) ((AB ad Fl35) 1 5)) x35_3 p1 p2 from by unfold m_X5_readNumber_L52_35_b; rw [if_neg (nle_cg m40 m39 c41), if_pos (eq_cg m80 rfl c81), if_pos (lt_cg rfl m86 c87)]).trans (congr (congr (congr (congrArg (m_X5_readNumber_91 (m_X5_readNumber_L52_35 n35)) ((congr (congr (Eq.refl (m_X5_blame (AB ad Fl35))) (Eq.refl ((nI 2) : Int32))) m89).trans hm90)) (Eq.refl (x35_3 : Int32))) (Eq.refl (p1 : Int32))) (Eq.refl (p2 : Int32))))
              refine lv_iload_n S.1 S.2.1 dX5_readNumber_154 rfl (lv_at hl35 2 rfl) ?_
              have hE93 : M = (p1, AB ad F90) := hE92.trans ((show m_X5_readNumber_91 (m_X5_readNumber_L52_35 n35) (AB ad F90) x35_3 p1 p2 = (p1, (AB ad F90)) from rfl).trans (congrArg (fun q => (q, AB ad F90)) rfl))
              exact hret 155 _ _ _ _ _ dX5_readNumber_155 rfl hP90 hS90 ⟨hW90, hFr90, ⟨fun _ => ⟨by omega, by omega⟩, hM.symm.trans hE93⟩⟩
            have k94 := ci_nlt (nI_toInt (n := 4) (by decide)) rfl c87
            refine lv_iload_n S.1 S.2.1 dX5_readNumber_135 rfl (lv_at hl35 0 rfl) ?_
            refine lv_iload_n S.1 S.2.1 dX5_readNumber_136 rfl (lv_at hl35 2 rfl) ?_
            refine lv_icmp_lt (tgt := 145) S.1 S.2.1 dX5_readNumber_137 (by decide) (fun c95 => ?_) (fun c95 => ?_)
            · skip
              have k96 := ci_lt rfl rfl c95
              refine lv_aload_n S.1 S.2.1 dX5_readNumber_145 rfl (lv_at hl35 1 rfl) ?_
              refine lv_iconst (v := (nI 2)) S.1 S.2.1 dX5_readNumber_146 (by decide +kernel) ?_
              refine lv_aload_n S.1 S.2.1 dX5_readNumber_147 rfl (lv_at hl35 1 rfl) ?_
              refine r_get S hK hPl35 1 (by decide) hF37 (C := RX5) (T := TX5) (N := 6) hiX5 rfl 5 (by decide) (am_at in_wsX5_readNumber_0 3 rfl) (v := .int nu37) rfl dX5_readNumber_148 ?_
              have m97 : ((AB ad Fl35) 1 5) = nu37 := AB_f hF37 rfl
              refine r_cVv (As := [.int (nI 2), .int nu37]) (rest := []) S hK hZ hPl35 hSl35 hl35.1 1 (by decide) hF37 (C := RX5) rfl (c_X5_blame l D cA ad t hI Fl35 hWl35 (nI 2) nu37) (cwV 2 S.2.2.2.2 gX5_readNumber_X5_blame rfl rfl rfl (by decide +kernel) ⟨Nat.le_of_ble_eq_true rfl, Nat.le_of_ble_eq_true rfl⟩) rfl rfl (Nat.le_of_ble_eq_true rfl) ⟨Nat.zero_le _, Nat.zero_le _⟩ dX5_readNumber_151 (fun F98 H98 locs98 hr98 hP98 hS98 => ?_)
              obtain ⟨hW98, hFc98, hr98⟩ := hr98
              obtain ⟨hr98, hm98⟩ := hr98
              have hFr98 := hFl35.tr hFc98 (by simp <;> first | omega | (simp only [isC, isJ] at *; omega))
              have hE100 : M = m_X5_readNumber_99 (m_X5_readNumber_L52_35 n35) (AB ad F98) x35_3 p1 p2 := hE36.trans ((show m_X5_readNumber_L52_35_b (m_X5_readNumber_L52_35 n35) (AB ad Fl35) x35_3 p1 p2 = m_X5_readNumber_99 (m_X5_readNumber_L52_35 n35) (m_X5_blame (AB ad Fl35) (nI 2) ((AB ad Fl35) 1 5)) x35_3 p1 p2 from by unfold m_X5_readNumber_L52_35_b; rw [if_neg (nle_cg m40 m39 c41), if_pos (eq_cg m80 rfl c81), if_neg (nlt_cg rfl m86 c87), if_pos (lt_cg rfl rfl c95)]).trans (congr (congr (congr (congrArg (m_X5_readNumber_99 (m_X5_readNumber_L52_35 n35)) ((congr (congr (Eq.refl (m_X5_blame (AB ad Fl35))) (Eq.refl ((nI 2) : Int32))) m97).trans hm98)) (Eq.refl (x35_3 : Int32))) (Eq.refl (p1 : Int32))) (Eq.refl (p2 : Int32))))
              refine lv_iload_n S.1 S.2.1 dX5_readNumber_154 rfl (lv_at hl35 2 rfl) ?_
              have hE101 : M = (p1, AB ad F98) := hE100.trans ((show m_X5_readNumber_99 (m_X5_readNumber_L52_35 n35) (AB ad F98) x35_3 p1 p2 = (p1, (AB ad F98)) from rfl).trans (congrArg (fun q => (q, AB ad F98)) rfl))
              exact hret 155 _ _ _ _ _ dX5_readNumber_155 rfl hP98 hS98 ⟨hW98, hFr98, ⟨fun _ => ⟨by omega, by omega⟩, hM.symm.trans hE101⟩⟩
            have k102 := ci_nlt rfl rfl c95
            refine lv_iload_n S.1 S.2.1 dX5_readNumber_140 rfl (lv_at hl35 0 rfl) ?_
            refine lv_iload_n S.1 S.2.1 dX5_readNumber_141 rfl (lv_at hl35 3 rfl) ?_
            refine lv_icmp_le (tgt := 156) S.1 S.2.1 dX5_readNumber_142 (by decide) (fun c103 => ?_) (fun c103 => ?_)
            · skip
              have k104 := ci_le rfl rfl c103
              refine lv_iload_n S.1 S.2.1 dX5_readNumber_156 rfl (lv_at hl35 0 rfl) ?_
              have hE105 : M = (x35_3, AB ad Fl35) := hE36.trans ((show m_X5_readNumber_L52_35_b (m_X5_readNumber_L52_35 n35) (AB ad Fl35) x35_3 p1 p2 = (x35_3, (AB ad Fl35)) from by unfold m_X5_readNumber_L52_35_b; rw [if_neg (nle_cg m40 m39 c41), if_pos (eq_cg m80 rfl c81), if_neg (nlt_cg rfl m86 c87), if_neg (nlt_cg rfl rfl c95), if_pos (le_cg rfl rfl c103)]).trans (congrArg (fun q => (q, AB ad Fl35)) rfl))
              exact hret 157 _ _ _ _ _ dX5_readNumber_157 rfl hPl35 hSl35 ⟨hWl35, hFl35, ⟨fun _ => ⟨by omega, by omega⟩, hM.symm.trans hE105⟩⟩
            have k106 := ci_nle rfl rfl c103
            refine lv_aload_n S.1 S.2.1 dX5_readNumber_145 rfl (lv_at hl35 1 rfl) ?_
            refine lv_iconst (v := (nI 2)) S.1 S.2.1 dX5_readNumber_146 (by decide +kernel) ?_
            refine lv_aload_n S.1 S.2.1 dX5_readNumber_147 rfl (lv_at hl35 1 rfl) ?_
            refine r_get S hK hPl35 1 (by decide) hF37 (C := RX5) (T := TX5) (N := 6) hiX5 rfl 5 (by decide) (am_at in_wsX5_readNumber_0 3 rfl) (v := .int nu37) rfl dX5_readNumber_148 ?_
            have m107 : ((AB ad Fl35) 1 5) = nu37 := AB_f hF37 rfl
            refine r_cVv (As := [.int (nI 2), .int nu37]) (rest := []) S hK hZ hPl35 hSl35 hl35.1 1 (by decide) hF37 (C := RX5) rfl (c_X5_blame l D cA ad t hI Fl35 hWl35 (nI 2) nu37) (cwV 2 S.2.2.2.2 gX5_readNumber_X5_blame rfl rfl rfl (by decide +kernel) ⟨Nat.le_of_ble_eq_true rfl, Nat.le_of_ble_eq_true rfl⟩) rfl rfl (Nat.le_of_ble_eq_true rfl) ⟨Nat.zero_le _, Nat.zero_le _⟩ dX5_readNumber_151 (fun F108 H108 locs108 hr108 hP108 hS108 => ?_)
            obtain ⟨hW108, hFc108, hr108⟩ := hr108
            obtain ⟨hr108, hm108⟩ := hr108
            have hFr108 := hFl35.tr hFc108 (by simp <;> first | omega | (simp only [isC, isJ] at *; omega))
            have hE110 : M = m_X5_readNumber_109 (m_X5_readNumber_L52_35 n35) (AB ad F108) x35_3 p1 p2 := hE36.trans ((show m_X5_readNumber_L52_35_b (m_X5_readNumber_L52_35 n35) (AB ad Fl35) x35_3 p1 p2 = m_X5_readNumber_109 (m_X5_readNumber_L52_35 n35) (m_X5_blame (AB ad Fl35) (nI 2) ((AB ad Fl35) 1 5)) x35_3 p1 p2 from by unfold m_X5_readNumber_L52_35_b; rw [if_neg (nle_cg m40 m39 c41), if_pos (eq_cg m80 rfl c81), if_neg (nlt_cg rfl m86 c87), if_neg (nlt_cg rfl rfl c95), if_neg (nle_cg rfl rfl c103)]).trans (congr (congr (congr (congrArg (m_X5_readNumber_109 (m_X5_readNumber_L52_35 n35)) ((congr (congr (Eq.refl (m_X5_blame (AB ad Fl35))) (Eq.refl ((nI 2) : Int32))) m107).trans hm108)) (Eq.refl (x35_3 : Int32))) (Eq.refl (p1 : Int32))) (Eq.refl (p2 : Int32))))
            refine lv_iload_n S.1 S.2.1 dX5_readNumber_154 rfl (lv_at hl35 2 rfl) ?_
            have hE111 : M = (p1, AB ad F108) := hE110.trans ((show m_X5_readNumber_109 (m_X5_readNumber_L52_35 n35) (AB ad F108) x35_3 p1 p2 = (p1, (AB ad F108)) from rfl).trans (congrArg (fun q => (q, AB ad F108)) rfl))
            exact hret 155 _ _ _ _ _ dX5_readNumber_155 rfl hP108 hS108 ⟨hW108, hFr108, ⟨fun _ => ⟨by omega, by omega⟩, hM.symm.trans hE111⟩⟩
          have k112 := ci_ne (nI_toInt (n := b79) (Nat.lt_of_le_of_lt hb79 (by decide))) z_ti c81
          refine lv_aload_n S.1 S.2.1 dX5_readNumber_78 rfl (lv_at hl35 1 rfl) ?_
          refine r_get S hK hPl35 1 (by decide) hF37 (C := RX5) (T := TX5) (N := 6) hiX5 rfl 4 (by decide) (am_at in_wsX5_readNumber_0 2 rfl) (v := .int (nI a37)) rfl dX5_readNumber_79 ?_
          have m113 : ((AB ad Fl35) 1 4) = (nI a37) := AB_f hF37 rfl
          refine lv_aload_n S.1 S.2.1 dX5_readNumber_82 rfl (lv_at hl35 1 rfl) ?_
          refine r_get S hK hPl35 1 (by decide) hF37 (C := RX5) (T := TX5) (N := 6) hiX5 rfl 5 (by decide) (am_at in_wsX5_readNumber_0 3 rfl) (v := .int nu37) rfl dX5_readNumber_83 ?_
          have m114 : ((AB ad Fl35) 1 5) = nu37 := AB_f hF37 rfl
          refine lv_isub S.1 S.2.1 dX5_readNumber_86 ?_
          refine lv_topi (fun v115 e115 => ?_)
          have m116 : (((AB ad Fl35) 1 4) - ((AB ad Fl35) 1 5)) = v115 := cg2 (fun (x : Int32) (y : Int32) => x - y) m113 m114 e115
          refine lv_iconst (v := (nI 4)) S.1 S.2.1 dX5_readNumber_87 (by decide +kernel) ?_
          refine lv_icmp_ge (tgt := 109) S.1 S.2.1 dX5_readNumber_88 (by decide) (fun c117 => ?_) (fun c117 => ?_)
          · skip
            have k118 := ci_le (nI_toInt (n := 4) (by decide)) rfl c117
            refine lv_aload_n S.1 S.2.1 dX5_readNumber_109 rfl (lv_at hl35 1 rfl) ?_
            refine lv_dup S.1 S.2.1 dX5_readNumber_110 rfl ?_
            refine r_get S hK hPl35 1 (by decide) hF37 (C := RX5) (T := TX5) (N := 6) hiX5 rfl 4 (by decide) (am_at in_wsX5_readNumber_0 2 rfl) (v := .int (nI a37)) rfl dX5_readNumber_111 ?_
            have m119 : ((AB ad Fl35) 1 4) = (nI a37) := AB_f hF37 rfl
            refine lv_iconst (v := (nI 1)) S.1 S.2.1 dX5_readNumber_114 (by decide +kernel) ?_
            refine lv_iadd S.1 S.2.1 dX5_readNumber_115 ?_
            refine lv_topi (fun v120 e120 => ?_)
            obtain rfl : v120 = nI (a37 + 1) := e120.trans (nI_add _ _)
            have m121 : (((AB ad Fl35) 1 4) + (nI 1)) = (nI (a37 + 1)) := cg2 (fun (x : Int32) (y : Int32) => x + y) m119 (Eq.refl ((nI 1) : Int32)) e120
            refine r_put S hI hK hPl35 hSl35 1 (by decide) hF37 (C := RX5) (T := TX5) (N := 6) hiX5 tyX5_ok nmX5 rfl 4 (by decide) (am_at in_wsX5_readNumber_0 2 rfl) rfl rfl rfl (Nat.le_of_ble_eq_true rfl) dX5_readNumber_116 (fun F122 H122 locs122 eF122 hP122 hS122 => ?_)
            have hF122 : F122 1 = .inr (5, [.ref (ad 2), .int (nI n37), .int f37, .int fa37, .int (nI (a37 + 1)), .int nu37]) := by rw [eF122]; exact va_up_self _ _ _
            have hW122 := hWl35.up eF122 (ok_text ⟨n37, a37 + 1, f37, fa37, nu37, rfl, by omega, by omega⟩)
            have hFr122 := hFl35.up eF122 (by simp <;> first | omega | (simp only [isC, isJ] at *; omega))
            have hE124 : M = m_X5_readNumber_123 (m_X5_readNumber_L52_35 n35) (AB ad F122) x35_3 p1 p2 := hE36.trans ((show m_X5_readNumber_L52_35_b (m_X5_readNumber_L52_35 n35) (AB ad Fl35) x35_3 p1 p2 = m_X5_readNumber_123 (m_X5_readNumber_L52_35 n35) (st (AB ad Fl35) 1 4 (((AB ad Fl35) 1 4) + (nI 1))) x35_3 p1 p2 from by unfold m_X5_readNumber_L52_35_b; rw [if_neg (nle_cg m40 m39 c41), if_neg (neq_cg m80 rfl c81), if_pos (le_cg rfl m116 c117)]).trans (congr (congr (congr (congrArg (m_X5_readNumber_123 (m_X5_readNumber_L52_35 n35)) ((st_cg rfl rfl m121).trans (AB_put hF37 (Nat.le_of_ble_eq_true rfl) eF122).symm)) (Eq.refl (x35_3 : Int32))) (Eq.refl (p1 : Int32))) (Eq.refl (p2 : Int32))))
            refine lv_goto (tgt := 52) S.1 S.2.1 dX5_readNumber_119 (by decide) ?_
            have hA125 := fN_of (k := 4) (a := a37 + 1) hF122 rfl (by omega)
            have hL125 := fN_of (k := 1) (a := n37) hF122 rfl (by omega)
            have hE126 : M = (m_X5_readNumber_L52_35 n35) (AB ad F122) x35_3 p1 p2 := hE124.trans ((show m_X5_readNumber_123 (m_X5_readNumber_L52_35 n35) (AB ad F122) x35_3 p1 p2 = (m_X5_readNumber_L52_35 n35) (AB ad F122) x35_3 p1 p2 from rfl).trans (congr (congr (congr (congrArg ((m_X5_readNumber_L52_35 n35)) (rfl : AB ad F122 = AB ad F122)) (Eq.refl (x35_3 : Int32))) (Eq.refl (p1 : Int32))) (Eq.refl (p2 : Int32))))
            exact ih35 (x35_3) F122 H122 locs122 (by omega) hW122 hFr122 hP122 hS122 hE126 ls35 (lv_sub hl35 [0, 1, 2, 3] rfl)
          have k127 := ci_nle (nI_toInt (n := 4) (by decide)) rfl c117
          refine lv_iload_n S.1 S.2.1 dX5_readNumber_91 rfl (lv_at hl35 0 rfl) ?_
          refine lv_bipush (v := (nI 10)) S.1 S.2.1 dX5_readNumber_92 (by decide +kernel) ?_
          refine lv_imul S.1 S.2.1 dX5_readNumber_94 ?_
          refine lv_topi (fun v128 e128 => ?_)
          have m129 : (x35_3 * (nI 10)) = v128 := cg2 (fun (x : Int32) (y : Int32) => x * y) (Eq.refl (x35_3 : Int32)) (Eq.refl ((nI 10) : Int32)) e128
          refine lv_aload_n S.1 S.2.1 dX5_readNumber_95 rfl (lv_at hl35 1 rfl) ?_
          refine r_get S hK hPl35 1 (by decide) hF37 (C := RX5) (T := TX5) (N := 6) hiX5 rfl 0 (by decide) (am_at in_wsX5_readNumber_0 1 rfl) (v := .ref (ad 2)) rfl dX5_readNumber_96 ?_
          refine lv_aload_n S.1 S.2.1 dX5_readNumber_99 rfl (lv_at hl35 1 rfl) ?_
          refine r_get S hK hPl35 1 (by decide) hF37 (C := RX5) (T := TX5) (N := 6) hiX5 rfl 4 (by decide) (am_at in_wsX5_readNumber_0 2 rfl) (v := .int (nI a37)) rfl dX5_readNumber_100 ?_
          have m130 : ((AB ad Fl35) 1 4) = (nI a37) := AB_f hF37 rfl
          refine r_cald S hK hPl35 2 (by decide) hF74 (vp_in_nI (show a37 < 240 by omega) (by omega)) dX5_readNumber_103 ?_
          refine lv_topi (fun v132 e132 => ?_)
          have m133 : ((AB ad Fl35) 2 (rl ((AB ad Fl35) 1 4))) = v132 := (ab_cg rfl m130).trans ((AB_g hF74).trans e132.symm)
          refine lv_iadd S.1 S.2.1 dX5_readNumber_104 ?_
          refine lv_topi (fun v134 e134 => ?_)
          have m135 : ((x35_3 * (nI 10)) + ((AB ad Fl35) 2 (rl ((AB ad Fl35) 1 4)))) = v134 := cg2 (fun (x : Int32) (y : Int32) => x + y) m129 m133 e134
          refine lv_bipush (v := (nI 48)) S.1 S.2.1 dX5_readNumber_105 (by decide +kernel) ?_
          refine lv_isub S.1 S.2.1 dX5_readNumber_107 ?_
          refine lv_topi (fun v136 e136 => ?_)
          have m137 : (((x35_3 * (nI 10)) + ((AB ad Fl35) 2 (rl ((AB ad Fl35) 1 4)))) - (nI 48)) = v136 := cg2 (fun (x : Int32) (y : Int32) => x - y) m135 (Eq.refl ((nI 48) : Int32)) e136
          refine lv_istore_n (lv' := [(3, .int v136), (0, .ref (ad 1)), (1, .int p1), (2, .int p2)]) S.1 S.2.1 dX5_readNumber_108 rfl hl35 (by decide) rfl (fun ls138 hl138 => ?_)
          refine lv_aload_n S.1 S.2.1 dX5_readNumber_109 rfl (lv_at hl138 1 rfl) ?_
          refine lv_dup S.1 S.2.1 dX5_readNumber_110 rfl ?_
          refine r_get S hK hPl35 1 (by decide) hF37 (C := RX5) (T := TX5) (N := 6) hiX5 rfl 4 (by decide) (am_at in_wsX5_readNumber_0 2 rfl) (v := .int (nI a37)) rfl dX5_readNumber_111 ?_
          have m139 : ((AB ad Fl35) 1 4) = (nI a37) := AB_f hF37 rfl
          refine lv_iconst (v := (nI 1)) S.1 S.2.1 dX5_readNumber_114 (by decide +kernel) ?_
          refine lv_iadd S.1 S.2.1 dX5_readNumber_115 ?_
          refine lv_topi (fun v140 e140 => ?_)
          obtain rfl : v140 = nI (a37 + 1) := e140.trans (nI_add _ _)
          have m141 : (((AB ad Fl35) 1 4) + (nI 1)) = (nI (a37 + 1)) := cg2 (fun (x : Int32) (y : Int32) => x + y) m139 (Eq.refl ((nI 1) : Int32)) e140
          refine r_put S hI hK hPl35 hSl35 1 (by decide) hF37 (C := RX5) (T := TX5) (N := 6) hiX5 tyX5_ok nmX5 rfl 4 (by decide) (am_at in_wsX5_readNumber_0 2 rfl) rfl rfl rfl (Nat.le_of_ble_eq_true rfl) dX5_readNumber_116 (fun F142 H142 locs142 eF142 hP142 hS142 => ?_)
          have hF142 : F142 1 = .inr (5, [.ref (ad 2), .int (nI n37), .int f37, .int fa37, .int (nI (a37 + 1)), .int nu37]) := by rw [eF142]; exact va_up_self _ _ _
          have hW142 := hWl35.up eF142 (ok_text ⟨n37, a37 + 1, f37, fa37, nu37, rfl, by omega, by omega⟩)
          have hFr142 := hFl35.up eF142 (by simp <;> first | omega | (simp only [isC, isJ] at *; omega))
          have hE144 : M = m_X5_readNumber_143 (m_X5_readNumber_L52_35 n35) (AB ad F142) v136 p1 p2 := hE36.trans ((show m_X5_readNumber_L52_35_b (m_X5_readNumber_L52_35 n35) (AB ad Fl35) x35_3 p1 p2 = m_X5_readNumber_143 (m_X5_readNumber_L52_35 n35) (st (AB ad Fl35) 1 4 (((AB ad Fl35) 1 4) + (nI 1))) (((x35_3 * (nI 10)) + ((AB ad Fl35) 2 (rl ((AB ad Fl35) 1 4)))) - (nI 48)) p1 p2 from by unfold m_X5_readNumber_L52_35_b; rw [if_neg (nle_cg m40 m39 c41), if_neg (neq_cg m80 rfl c81), if_neg (nle_cg rfl m116 c117)]).trans (congr (congr (congr (congrArg (m_X5_readNumber_143 (m_X5_readNumber_L52_35 n35)) ((st_cg rfl rfl m141).trans (AB_put hF37 (Nat.le_of_ble_eq_true rfl) eF142).symm)) m137) (Eq.refl (p1 : Int32))) (Eq.refl (p2 : Int32))))
          refine lv_goto (tgt := 52) S.1 S.2.1 dX5_readNumber_119 (by decide) ?_
          have hA145 := fN_of (k := 4) (a := a37 + 1) hF142 rfl (by omega)
          have hL145 := fN_of (k := 1) (a := n37) hF142 rfl (by omega)
          have hE146 : M = (m_X5_readNumber_L52_35 n35) (AB ad F142) v136 p1 p2 := hE144.trans ((show m_X5_readNumber_143 (m_X5_readNumber_L52_35 n35) (AB ad F142) v136 p1 p2 = (m_X5_readNumber_L52_35 n35) (AB ad F142) v136 p1 p2 from rfl).trans (congr (congr (congr (congrArg ((m_X5_readNumber_L52_35 n35)) (rfl : AB ad F142 = AB ad F142)) (Eq.refl (v136 : Int32))) (Eq.refl (p1 : Int32))) (Eq.refl (p2 : Int32))))
          exact ih35 (v136) F142 H142 locs142 (by omega) hW142 hFr142 hP142 hS142 hE146 ls138 (lv_sub hl138 [0, 1, 2, 3] rfl)
      have hE147 : M = m_X5_readNumber_L52_35 2000 (AB ad F31) (nI 0) p1 p2 := hE33.trans ((show m_X5_readNumber_32 (AB ad F31) p1 p2 = m_X5_readNumber_L52_35 2000 (AB ad F31) (nI 0) p1 p2 from rfl).trans (congr (congr (congr (congrArg (m_X5_readNumber_L52_35 2000) (rfl : AB ad F31 = AB ad F31)) (Eq.refl ((nI 0) : Int32))) (Eq.refl (p1 : Int32))) (Eq.refl (p2 : Int32))))
      exact lp35 2000 ((nI 0)) F31 H31 locs31 (by omega) hW31 hFr31 hP31 hS31 hE147 ls34 (lv_sub hl34 [0, 1, 2, 3] rfl)
    have k148 := ci_eq (nI_toInt (n := b26) (Nat.lt_of_le_of_lt hb26 (by decide))) z_ti c28
    refine lv_aload_n S.1 S.2.1 dX5_readNumber_31 rfl (lv_at hl0 0 rfl) ?_
    refine lv_iconst (v := (nI 1)) S.1 S.2.1 dX5_readNumber_32 (by decide +kernel) ?_
    refine lv_aload_n S.1 S.2.1 dX5_readNumber_33 rfl (lv_at hl0 0 rfl) ?_
    refine r_get S hK hP5 1 (by decide) hF7 (C := RX5) (T := TX5) (N := 6) hiX5 rfl 4 (by decide) (am_at in_wsX5_readNumber_0 2 rfl) (v := .int (nI a7)) rfl dX5_readNumber_34 ?_
    have m149 : ((AB ad F5) 1 4) = (nI a7) := AB_f hF7 rfl
    refine r_cVv (As := [.int (nI 1), .int (nI a7)]) (rest := []) S hK hZ hP5 hS5 hl0.1 1 (by decide) hF7 (C := RX5) rfl (c_X5_blame l D cA ad t hI F5 hW5 (nI 1) (nI a7)) (cwV 2 S.2.2.2.2 gX5_readNumber_X5_blame rfl rfl rfl (by decide +kernel) ⟨Nat.le_of_ble_eq_true rfl, Nat.le_of_ble_eq_true rfl⟩) rfl rfl (Nat.le_of_ble_eq_true rfl) ⟨Nat.zero_le _, Nat.zero_le _⟩ dX5_readNumber_37 (fun F150 H150 locs150 hr150 hP150 hS150 => ?_)
    obtain ⟨hW150, hFc150, hr150⟩ := hr150
    obtain ⟨hr150, hm150⟩ := hr150
    have hFr150 := hFr5.tr hFc150 (by simp <;> first | omega | (simp only [isC, isJ] at *; omega))
    have hE152 : M = m_X5_readNumber_151 (AB ad F150) p1 p2 := hE11.trans ((show m_X5_readNumber_10 (AB ad F5) p1 p2 (nI b6) = m_X5_readNumber_151 (m_X5_blame (AB ad F5) (nI 1) ((AB ad F5) 1 4)) p1 p2 from by unfold m_X5_readNumber_10; rw [if_neg (neq_cg rfl rfl c12), if_pos (eq_cg m27 rfl c28)]).trans (congr (congr (congrArg (m_X5_readNumber_151) ((congr (congr (Eq.refl (m_X5_blame (AB ad F5))) (Eq.refl ((nI 1) : Int32))) m149).trans hm150)) (Eq.refl (p1 : Int32))) (Eq.refl (p2 : Int32))))
    refine lv_iload_n S.1 S.2.1 dX5_readNumber_40 rfl (lv_at hl0 1 rfl) ?_
    have hE153 : M = (p1, AB ad F150) := hE152.trans ((show m_X5_readNumber_151 (AB ad F150) p1 p2 = (p1, (AB ad F150)) from rfl).trans (congrArg (fun q => (q, AB ad F150)) rfl))
    exact hret 41 _ _ _ _ _ dX5_readNumber_41 rfl hP150 hS150 ⟨hW150, hFr150, ⟨fun _ => ⟨by omega, by omega⟩, hM.symm.trans hE153⟩⟩
  have k154 := ci_ne rfl z_ti c3
  refine lv_iload_n S.1 S.2.1 dX5_readNumber_7 rfl (lv_at hl0 1 rfl) ?_
  have hE155 : M = (p1, AB ad F) := hM.trans ((show m_X5_readNumber (AB ad F) p1 p2 = (p1, (AB ad F)) from by unfold m_X5_readNumber; rw [if_neg (neq_cg m2 rfl c3)]).trans (congrArg (fun q => (q, AB ad F)) rfl))
  exact hret 8 _ _ _ _ _ dX5_readNumber_8 rfl hP hS ⟨hW, hFr, ⟨fun _ => ⟨by omega, by omega⟩, hM.symm.trans hE155⟩⟩
noncomputable def m_X5_readLimits_25 (σ : SS) (a0 : Int32) (a1 : Int32) (a2 : Nat) : SS :=
  σ
noncomputable def m_X5_readLimits_22 (σ : SS) (a0 : Int32) (a1 : Int32) (a2 : Nat) : SS :=
  m_X5_readLimits_25 (st σ a2 1 a0) a0 a1 a2
noncomputable def m_X5_readLimits_17 (σ : SS) (a0 : Int32) (a1 : Int32) (a2 : Nat) : SS :=
  m_X5_readLimits_22 (st σ a2 0 a1) a0 a1 a2
noncomputable def m_X5_readLimits_12 (σ : SS) (a0 : Int32) (a1 : Nat) (a2 : Int32) : SS :=
  m_X5_readLimits_17 (m_X5_readEnd σ) a2 a0 a1
noncomputable def m_X5_readLimits_5 (σ : SS) (a0 : Nat) (a1 : Int32) : SS :=
  m_X5_readLimits_12 ((m_X5_readNumber σ (nI 0) (nI 11))).2 a1 a0 ((m_X5_readNumber σ (nI 0) (nI 11))).1
noncomputable def m_X5_readLimits (σ : SS) (a0 : Nat) : SS :=
  m_X5_readLimits_5 ((m_X5_readNumber σ (nI 1) (nI 4))).2 a0 ((m_X5_readNumber σ (nI 1) (nI 4))).1
set_option maxHeartbeats 4000000 in
set_option maxRecDepth 100000 in
theorem c_X5_readLimits (l : Launch) (D : va_G) (cA ad : Nat → Nat) (t : Nat) (hI : rI ad) (F : Nat → va_E) (hW : WT cA ad F) (rc : Nat) (hrc : isC rc) : MV l D cA ad t yX5_readLimits wsX5_readLimits { frames := 2, cells := 0, slots := 0, locals := 45 } [.ref (ad 1), .ref (ad rc)] F (fun F' => WT cA ad F' ∧ rFr [1, rc] F F' ∧ ((True) ∧ m_X5_readLimits (AB ad F) rc = AB ad F')) := by
  refine en_V rfl (by decide +kernel) (Nat.le_of_ble_eq_true rfl) ?_
  intro p e s m args below meth c ls0 Q S hK hZ hP hS hl0 hret
  have hl0 : lv_has ls0 4 [(0, .ref (ad 1)), (1, .ref (ad rc))] := hl0
  have hFr : rFr [1, rc] F F := rFr.rf
  have hiX0 : ∀ w ∈ u_ws RX0 TX0 10, w ∈ wsX5_readLimits := in_wsX5_readLimits_2
  obtain ⟨M, hM⟩ : ∃ M, M = m_X5_readLimits (AB ad F) rc := ⟨_, rfl⟩
  refine lv_aload_n S.1 S.2.1 dX5_readLimits_0 rfl (lv_at hl0 0 rfl) ?_
  refine lv_iconst (v := (nI 1)) S.1 S.2.1 dX5_readLimits_1 (by decide +kernel) ?_
  refine lv_iconst (v := (nI 4)) S.1 S.2.1 dX5_readLimits_2 (by decide +kernel) ?_
  obtain ⟨n2, a2, f2, fa2, nu2, hF2, hn2, ha2⟩ := wt_text hW
  refine r_cVi (As := [.int (nI 1), .int (nI 4)]) (rest := []) S hK hZ hP hS hl0.1 1 (by decide) hF2 (C := RX5) rfl (c_X5_readNumber l D cA ad t hI F hW (nI 1) (nI 4)) (cwV 2 S.2.2.2.2 gX5_readLimits_X5_readNumber rfl rfl rfl (by decide +kernel) ⟨Nat.le_of_ble_eq_true rfl, Nat.le_of_ble_eq_true rfl⟩) rfl rfl (Nat.le_of_ble_eq_true rfl) ⟨Nat.zero_le _, Nat.zero_le _⟩ dX5_readLimits_3 (fun r1 F1 H1 locs1 hr1 hP1 hS1 => ?_)
  obtain ⟨hW1, hFc1, hr1⟩ := hr1
  obtain ⟨hr1, hm1⟩ := hr1
  have hFr1 := hFr.tr hFc1 (by simp <;> first | omega | (simp only [isC, isJ] at *; omega))
  have hq3 : 1 ≤ r1.toInt ∧ r1.toInt ≤ 4 := by have h1 := nI_toInt (n := 1) (by decide); have h2 := nI_toInt (n := 4) (by decide); have h3 := hr1 (by omega); omega
  have mc4 : (m_X5_readNumber (AB ad F) (nI 1) (nI 4)) = (r1, AB ad F1) := (congr (congr (Eq.refl (m_X5_readNumber (AB ad F))) (Eq.refl ((nI 1) : Int32))) (Eq.refl ((nI 4) : Int32))).trans hm1
  have hE6 : M = m_X5_readLimits_5 (AB ad F1) rc r1 := hM.trans ((show m_X5_readLimits (AB ad F) rc = m_X5_readLimits_5 ((m_X5_readNumber (AB ad F) (nI 1) (nI 4))).2 rc ((m_X5_readNumber (AB ad F) (nI 1) (nI 4))).1 from rfl).trans (congr (congr (congrArg (m_X5_readLimits_5) (congrArg Prod.snd mc4)) (Eq.refl rc)) (congrArg Prod.fst mc4)))
  refine lv_istore_n (lv' := [(2, .int r1), (0, .ref (ad 1)), (1, .ref (ad rc))]) S.1 S.2.1 dX5_readLimits_6 rfl hl0 (by decide) rfl (fun ls7 hl7 => ?_)
  refine lv_aload_n S.1 S.2.1 dX5_readLimits_7 rfl (lv_at hl7 1 rfl) ?_
  refine lv_iconst (v := (nI 0)) S.1 S.2.1 dX5_readLimits_8 (by decide +kernel) ?_
  refine lv_bipush (v := (nI 11)) S.1 S.2.1 dX5_readLimits_9 (by decide +kernel) ?_
  obtain ⟨n9, a9, f9, fa9, nu9, hF9, hn9, ha9⟩ := wt_text hW1
  refine r_cVi (As := [.int (nI 0), .int (nI 11)]) (rest := []) S hK hZ hP1 hS1 hl7.1 1 (by decide) hF9 (C := RX5) rfl (c_X5_readNumber l D cA ad t hI F1 hW1 (nI 0) (nI 11)) (cwV 2 S.2.2.2.2 gX5_readLimits_X5_readNumber rfl rfl rfl (by decide +kernel) ⟨Nat.le_of_ble_eq_true rfl, Nat.le_of_ble_eq_true rfl⟩) rfl rfl (Nat.le_of_ble_eq_true rfl) ⟨Nat.zero_le _, Nat.zero_le _⟩ dX5_readLimits_11 (fun r8 F8 H8 locs8 hr8 hP8 hS8 => ?_)
  obtain ⟨hW8, hFc8, hr8⟩ := hr8
  obtain ⟨hr8, hm8⟩ := hr8
  have hFr8 := hFr1.tr hFc8 (by simp <;> first | omega | (simp only [isC, isJ] at *; omega))
  have hq10 : 0 ≤ r8.toInt ∧ r8.toInt ≤ 11 := by have h1 := nI_toInt (n := 0) (by decide); have h2 := nI_toInt (n := 11) (by decide); have h3 := hr8 (by omega); omega
  have mc11 : (m_X5_readNumber (AB ad F1) (nI 0) (nI 11)) = (r8, AB ad F8) := (congr (congr (Eq.refl (m_X5_readNumber (AB ad F1))) (Eq.refl ((nI 0) : Int32))) (Eq.refl ((nI 11) : Int32))).trans hm8
  have hE13 : M = m_X5_readLimits_12 (AB ad F8) r1 rc r8 := hE6.trans ((show m_X5_readLimits_5 (AB ad F1) rc r1 = m_X5_readLimits_12 ((m_X5_readNumber (AB ad F1) (nI 0) (nI 11))).2 r1 rc ((m_X5_readNumber (AB ad F1) (nI 0) (nI 11))).1 from rfl).trans (congr (congr (congr (congrArg (m_X5_readLimits_12) (congrArg Prod.snd mc11)) (Eq.refl (r1 : Int32))) (Eq.refl rc)) (congrArg Prod.fst mc11)))
  refine lv_istore_n (lv' := [(3, .int r8), (2, .int r1), (0, .ref (ad 1)), (1, .ref (ad rc))]) S.1 S.2.1 dX5_readLimits_14 rfl hl7 (by decide) rfl (fun ls14 hl14 => ?_)
  refine lv_aload_n S.1 S.2.1 dX5_readLimits_15 rfl (lv_at hl14 2 rfl) ?_
  obtain ⟨n16, a16, f16, fa16, nu16, hF16, hn16, ha16⟩ := wt_text hW8
  refine r_cVv (As := []) (rest := []) S hK hZ hP8 hS8 hl14.1 1 (by decide) hF16 (C := RX5) rfl (c_X5_readEnd l D cA ad t hI F8 hW8 ) (cwV 0 S.2.2.2.2 gX5_readLimits_X5_readEnd rfl rfl rfl (by decide +kernel) ⟨Nat.le_of_ble_eq_true rfl, Nat.le_of_ble_eq_true rfl⟩) rfl rfl (Nat.le_of_ble_eq_true rfl) ⟨Nat.zero_le _, Nat.zero_le _⟩ dX5_readLimits_16 (fun F15 H15 locs15 hr15 hP15 hS15 => ?_)
  obtain ⟨hW15, hFc15, hr15⟩ := hr15
  obtain ⟨hr15, hm15⟩ := hr15
  have hFr15 := hFr8.tr hFc15 (by simp <;> first | omega | (simp only [isC, isJ] at *; omega))
  have hE18 : M = m_X5_readLimits_17 (AB ad F15) r8 r1 rc := hE13.trans ((show m_X5_readLimits_12 (AB ad F8) r1 rc r8 = m_X5_readLimits_17 (m_X5_readEnd (AB ad F8)) r8 r1 rc from rfl).trans (congr (congr (congr (congrArg (m_X5_readLimits_17) ((Eq.refl (m_X5_readEnd (AB ad F8))).trans hm15)) (Eq.refl (r8 : Int32))) (Eq.refl (r1 : Int32))) (Eq.refl rc)))
  refine lv_aload_n S.1 S.2.1 dX5_readLimits_19 rfl (lv_at hl14 3 rfl) ?_
  refine lv_iload_n S.1 S.2.1 dX5_readLimits_20 rfl (lv_at hl14 1 rfl) ?_
  obtain ⟨sl19, fm19, tn19, rn19, bn19, hF19, hb19_1, hb19_2, hb19_3⟩ := wt_C hW15 hrc
  obtain ⟨j20, hj20, rfl⟩ := nI_of_le (x := r1) (B := 4) (by omega) (by omega)
  have kj20 := nI_toInt (n := j20) (Nat.lt_of_le_of_lt hj20 (by decide))
  refine r_put S hI hK hP15 hS15 rc (lt_C hrc) hF19 (C := RX0) (T := TX0) (N := 10) hiX0 tyX0_ok nmX0 rfl 0 (by decide) (am_at in_wsX5_readLimits_0 0 rfl) rfl rfl rfl (Nat.le_of_ble_eq_true rfl) dX5_readLimits_21 (fun F21 H21 locs21 eF21 hP21 hS21 => ?_)
  have hF21 : F21 rc = .inr (0, [.int (nI j20), .int fm19, .int (nI tn19), .int (nI rn19), .int bn19, .ref (ad (rc + 1)), .ref (ad (rc + 2)), .ref (ad (rc + 3)), .ref (ad (rc + 4)), .ref (ad (rc + 5))]) := by rw [eF21]; exact va_up_self _ _ _
  have hW21 := hW15.up eF21 (ok_C hrc ⟨j20, fm19, tn19, rn19, bn19, rfl, by omega, by omega, by omega⟩)
  have hFr21 := hFr15.up eF21 (by simp <;> first | omega | (simp only [isC, isJ] at *; omega))
  have hE23 : M = m_X5_readLimits_22 (AB ad F21) r8 (nI j20) rc := hE18.trans ((show m_X5_readLimits_17 (AB ad F15) r8 (nI j20) rc = m_X5_readLimits_22 (st (AB ad F15) rc 0 (nI j20)) r8 (nI j20) rc from rfl).trans (congr (congr (congr (congrArg (m_X5_readLimits_22) ((st_cg rfl rfl rfl).trans (AB_put hF19 (Nat.le_of_ble_eq_true rfl) eF21).symm)) (Eq.refl (r8 : Int32))) (Eq.refl ((nI j20) : Int32))) (Eq.refl rc)))
  refine lv_aload_n S.1 S.2.1 dX5_readLimits_24 rfl (lv_at hl14 3 rfl) ?_
  refine lv_iload_n S.1 S.2.1 dX5_readLimits_25 rfl (lv_at hl14 0 rfl) ?_
  refine r_put S hI hK hP21 hS21 rc (lt_C hrc) hF21 (C := RX0) (T := TX0) (N := 10) hiX0 tyX0_ok nmX0 rfl 1 (by decide) (am_at in_wsX5_readLimits_0 1 rfl) rfl rfl rfl (Nat.le_of_ble_eq_true rfl) dX5_readLimits_26 (fun F24 H24 locs24 eF24 hP24 hS24 => ?_)
  have hF24 : F24 rc = .inr (0, [.int (nI j20), .int r8, .int (nI tn19), .int (nI rn19), .int bn19, .ref (ad (rc + 1)), .ref (ad (rc + 2)), .ref (ad (rc + 3)), .ref (ad (rc + 4)), .ref (ad (rc + 5))]) := by rw [eF24]; exact va_up_self _ _ _
  have hW24 := hW21.up eF24 (ok_C hrc ⟨j20, r8, tn19, rn19, bn19, rfl, by omega, by omega, by omega⟩)
  have hFr24 := hFr21.up eF24 (by simp <;> first | omega | (simp only [isC, isJ] at *; omega))
  have hE26 : M = m_X5_readLimits_25 (AB ad F24) r8 (nI j20) rc := hE23.trans ((show m_X5_readLimits_22 (AB ad F21) r8 (nI j20) rc = m_X5_readLimits_25 (st (AB ad F21) rc 1 r8) r8 (nI j20) rc from rfl).trans (congr (congr (congr (congrArg (m_X5_readLimits_25) ((st_cg rfl rfl rfl).trans (AB_put hF21 (Nat.le_of_ble_eq_true rfl) eF24).symm)) (Eq.refl (r8 : Int32))) (Eq.refl ((nI j20) : Int32))) (Eq.refl rc)))
  have hE27 : M = AB ad F24 := hE26.trans ((show m_X5_readLimits_25 (AB ad F24) r8 (nI j20) rc = (AB ad F24) from rfl).trans rfl)
  exact hret 29 _ _ _ _ dX5_readLimits_29 hP24 hS24 ⟨hW24, hFr24, ⟨trivial, hM.symm.trans hE27⟩⟩
noncomputable def m_X5_readTown_28 (σ : SS) (a0 : Int32) (a1 : Int32) (a2 : Int32) (a3 : Nat) : SS :=
  σ
noncomputable def m_X5_readTown_24 (σ : SS) (a0 : Int32) (a1 : Int32) (a2 : Int32) (a3 : Nat) : SS :=
  m_X5_readTown_28 (m_X0_addTown σ a3 a2 a1 a0) a0 a1 a2 a3
noncomputable def m_X5_readTown_19 (σ : SS) (a0 : Int32) (a1 : Int32) (a2 : Nat) (a3 : Int32) : SS :=
  m_X5_readTown_24 (m_X5_readEnd σ) a3 a0 a1 a2
noncomputable def m_X5_readTown_12 (σ : SS) (a0 : Int32) (a1 : Nat) (a2 : Int32) : SS :=
  m_X5_readTown_19 ((m_X5_readNumber σ (nI 0) (nI 20))).2 a2 a0 a1 ((m_X5_readNumber σ (nI 0) (nI 20))).1
noncomputable def m_X5_readTown_5 (σ : SS) (a0 : Nat) (a1 : Int32) : SS :=
  m_X5_readTown_12 ((m_X5_readNumber σ (nI 0) (nI 4095))).2 a1 a0 ((m_X5_readNumber σ (nI 0) (nI 4095))).1
noncomputable def m_X5_readTown (σ : SS) (a0 : Nat) : SS :=
  m_X5_readTown_5 ((m_X5_readNumber σ (nI 0) (nI 999))).2 a0 ((m_X5_readNumber σ (nI 0) (nI 999))).1
set_option maxHeartbeats 4000000 in
set_option maxRecDepth 100000 in
theorem c_X5_readTown (l : Launch) (D : va_G) (cA ad : Nat → Nat) (t : Nat) (hI : rI ad) (F : Nat → va_E) (hW : WT cA ad F) (rc : Nat) (hrc : isC rc) : MV l D cA ad t yX5_readTown wsX5_readTown { frames := 2, cells := 0, slots := 0, locals := 45 } [.ref (ad 1), .ref (ad rc)] F (fun F' => WT cA ad F' ∧ rFr [1, rc, rc + 1, rc + 2, rc + 3] F F' ∧ ((True) ∧ m_X5_readTown (AB ad F) rc = AB ad F')) := by
  refine en_V rfl (by decide +kernel) (Nat.le_of_ble_eq_true rfl) ?_
  intro p e s m args below meth c ls0 Q S hK hZ hP hS hl0 hret
  have hl0 : lv_has ls0 5 [(0, .ref (ad 1)), (1, .ref (ad rc))] := hl0
  have hFr : rFr [1, rc, rc + 1, rc + 2, rc + 3] F F := rFr.rf
  obtain ⟨M, hM⟩ : ∃ M, M = m_X5_readTown (AB ad F) rc := ⟨_, rfl⟩
  refine lv_aload_n S.1 S.2.1 dX5_readTown_0 rfl (lv_at hl0 0 rfl) ?_
  refine lv_iconst (v := (nI 0)) S.1 S.2.1 dX5_readTown_1 (by decide +kernel) ?_
  refine lv_sipush (v := (nI 999)) S.1 S.2.1 dX5_readTown_2 (by decide +kernel) ?_
  obtain ⟨n2, a2, f2, fa2, nu2, hF2, hn2, ha2⟩ := wt_text hW
  refine r_cVi (As := [.int (nI 0), .int (nI 999)]) (rest := []) S hK hZ hP hS hl0.1 1 (by decide) hF2 (C := RX5) rfl (c_X5_readNumber l D cA ad t hI F hW (nI 0) (nI 999)) (cwV 2 S.2.2.2.2 gX5_readTown_X5_readNumber rfl rfl rfl (by decide +kernel) ⟨Nat.le_of_ble_eq_true rfl, Nat.le_of_ble_eq_true rfl⟩) rfl rfl (Nat.le_of_ble_eq_true rfl) ⟨Nat.zero_le _, Nat.zero_le _⟩ dX5_readTown_5 (fun r1 F1 H1 locs1 hr1 hP1 hS1 => ?_)
  obtain ⟨hW1, hFc1, hr1⟩ := hr1
  obtain ⟨hr1, hm1⟩ := hr1
  have hFr1 := hFr.tr hFc1 (by simp <;> first | omega | (simp only [isC, isJ] at *; omega))
  have hq3 : 0 ≤ r1.toInt ∧ r1.toInt ≤ 999 := by have h1 := nI_toInt (n := 0) (by decide); have h2 := nI_toInt (n := 999) (by decide); have h3 := hr1 (by omega); omega
  have mc4 : (m_X5_readNumber (AB ad F) (nI 0) (nI 999)) = (r1, AB ad F1) := (congr (congr (Eq.refl (m_X5_readNumber (AB ad F))) (Eq.refl ((nI 0) : Int32))) (Eq.refl ((nI 999) : Int32))).trans hm1
  have hE6 : M = m_X5_readTown_5 (AB ad F1) rc r1 := hM.trans ((show m_X5_readTown (AB ad F) rc = m_X5_readTown_5 ((m_X5_readNumber (AB ad F) (nI 0) (nI 999))).2 rc ((m_X5_readNumber (AB ad F) (nI 0) (nI 999))).1 from rfl).trans (congr (congr (congrArg (m_X5_readTown_5) (congrArg Prod.snd mc4)) (Eq.refl rc)) (congrArg Prod.fst mc4)))
  refine lv_istore_n (lv' := [(2, .int r1), (0, .ref (ad 1)), (1, .ref (ad rc))]) S.1 S.2.1 dX5_readTown_8 rfl hl0 (by decide) rfl (fun ls7 hl7 => ?_)
  refine lv_aload_n S.1 S.2.1 dX5_readTown_9 rfl (lv_at hl7 1 rfl) ?_
  refine lv_iconst (v := (nI 0)) S.1 S.2.1 dX5_readTown_10 (by decide +kernel) ?_
  refine lv_sipush (v := (nI 4095)) S.1 S.2.1 dX5_readTown_11 (by decide +kernel) ?_
  obtain ⟨n9, a9, f9, fa9, nu9, hF9, hn9, ha9⟩ := wt_text hW1
  refine r_cVi (As := [.int (nI 0), .int (nI 4095)]) (rest := []) S hK hZ hP1 hS1 hl7.1 1 (by decide) hF9 (C := RX5) rfl (c_X5_readNumber l D cA ad t hI F1 hW1 (nI 0) (nI 4095)) (cwV 2 S.2.2.2.2 gX5_readTown_X5_readNumber rfl rfl rfl (by decide +kernel) ⟨Nat.le_of_ble_eq_true rfl, Nat.le_of_ble_eq_true rfl⟩) rfl rfl (Nat.le_of_ble_eq_true rfl) ⟨Nat.zero_le _, Nat.zero_le _⟩ dX5_readTown_14 (fun r8 F8 H8 locs8 hr8 hP8 hS8 => ?_)
  obtain ⟨hW8, hFc8, hr8⟩ := hr8
  obtain ⟨hr8, hm8⟩ := hr8
  have hFr8 := hFr1.tr hFc8 (by simp <;> first | omega | (simp only [isC, isJ] at *; omega))
  have hq10 : 0 ≤ r8.toInt ∧ r8.toInt ≤ 4095 := by have h1 := nI_toInt (n := 0) (by decide); have h2 := nI_toInt (n := 4095) (by decide); have h3 := hr8 (by omega); omega
  have mc11 : (m_X5_readNumber (AB ad F1) (nI 0) (nI 4095)) = (r8, AB ad F8) := (congr (congr (Eq.refl (m_X5_readNumber (AB ad F1))) (Eq.refl ((nI 0) : Int32))) (Eq.refl ((nI 4095) : Int32))).trans hm8
  have hE13 : M = m_X5_readTown_12 (AB ad F8) r1 rc r8 := hE6.trans ((show m_X5_readTown_5 (AB ad F1) rc r1 = m_X5_readTown_12 ((m_X5_readNumber (AB ad F1) (nI 0) (nI 4095))).2 r1 rc ((m_X5_readNumber (AB ad F1) (nI 0) (nI 4095))).1 from rfl).trans (congr (congr (congr (congrArg (m_X5_readTown_12) (congrArg Prod.snd mc11)) (Eq.refl (r1 : Int32))) (Eq.refl rc)) (congrArg Prod.fst mc11)))
  refine lv_istore_n (lv' := [(3, .int r8), (2, .int r1), (0, .ref (ad 1)), (1, .ref (ad rc))]) S.1 S.2.1 dX5_readTown_17 rfl hl7 (by decide) rfl (fun ls14 hl14 => ?_)
  refine lv_aload_n S.1 S.2.1 dX5_readTown_18 rfl (lv_at hl14 2 rfl) ?_
  refine lv_iconst (v := (nI 0)) S.1 S.2.1 dX5_readTown_19 (by decide +kernel) ?_
  refine lv_bipush (v := (nI 20)) S.1 S.2.1 dX5_readTown_20 (by decide +kernel) ?_
  obtain ⟨n16, a16, f16, fa16, nu16, hF16, hn16, ha16⟩ := wt_text hW8
  refine r_cVi (As := [.int (nI 0), .int (nI 20)]) (rest := []) S hK hZ hP8 hS8 hl14.1 1 (by decide) hF16 (C := RX5) rfl (c_X5_readNumber l D cA ad t hI F8 hW8 (nI 0) (nI 20)) (cwV 2 S.2.2.2.2 gX5_readTown_X5_readNumber rfl rfl rfl (by decide +kernel) ⟨Nat.le_of_ble_eq_true rfl, Nat.le_of_ble_eq_true rfl⟩) rfl rfl (Nat.le_of_ble_eq_true rfl) ⟨Nat.zero_le _, Nat.zero_le _⟩ dX5_readTown_22 (fun r15 F15 H15 locs15 hr15 hP15 hS15 => ?_)
  obtain ⟨hW15, hFc15, hr15⟩ := hr15
  obtain ⟨hr15, hm15⟩ := hr15
  have hFr15 := hFr8.tr hFc15 (by simp <;> first | omega | (simp only [isC, isJ] at *; omega))
  have hq17 : 0 ≤ r15.toInt ∧ r15.toInt ≤ 20 := by have h1 := nI_toInt (n := 0) (by decide); have h2 := nI_toInt (n := 20) (by decide); have h3 := hr15 (by omega); omega
  have mc18 : (m_X5_readNumber (AB ad F8) (nI 0) (nI 20)) = (r15, AB ad F15) := (congr (congr (Eq.refl (m_X5_readNumber (AB ad F8))) (Eq.refl ((nI 0) : Int32))) (Eq.refl ((nI 20) : Int32))).trans hm15
  have hE20 : M = m_X5_readTown_19 (AB ad F15) r8 r1 rc r15 := hE13.trans ((show m_X5_readTown_12 (AB ad F8) r1 rc r8 = m_X5_readTown_19 ((m_X5_readNumber (AB ad F8) (nI 0) (nI 20))).2 r8 r1 rc ((m_X5_readNumber (AB ad F8) (nI 0) (nI 20))).1 from rfl).trans (congr (congr (congr (congr (congrArg (m_X5_readTown_19) (congrArg Prod.snd mc18)) (Eq.refl (r8 : Int32))) (Eq.refl (r1 : Int32))) (Eq.refl rc)) (congrArg Prod.fst mc18)))
  refine lv_istore (lv' := [(4, .int r15), (3, .int r8), (2, .int r1), (0, .ref (ad 1)), (1, .ref (ad rc))]) S.1 S.2.1 dX5_readTown_25 hl14 (by decide) rfl (fun ls21 hl21 => ?_)
  refine lv_aload_n S.1 S.2.1 dX5_readTown_27 rfl (lv_at hl21 3 rfl) ?_
  obtain ⟨n23, a23, f23, fa23, nu23, hF23, hn23, ha23⟩ := wt_text hW15
  refine r_cVv (As := []) (rest := []) S hK hZ hP15 hS15 hl21.1 1 (by decide) hF23 (C := RX5) rfl (c_X5_readEnd l D cA ad t hI F15 hW15 ) (cwV 0 S.2.2.2.2 gX5_readTown_X5_readEnd rfl rfl rfl (by decide +kernel) ⟨Nat.le_of_ble_eq_true rfl, Nat.le_of_ble_eq_true rfl⟩) rfl rfl (Nat.le_of_ble_eq_true rfl) ⟨Nat.zero_le _, Nat.zero_le _⟩ dX5_readTown_28 (fun F22 H22 locs22 hr22 hP22 hS22 => ?_)
  obtain ⟨hW22, hFc22, hr22⟩ := hr22
  obtain ⟨hr22, hm22⟩ := hr22
  have hFr22 := hFr15.tr hFc22 (by simp <;> first | omega | (simp only [isC, isJ] at *; omega))
  have hE25 : M = m_X5_readTown_24 (AB ad F22) r15 r8 r1 rc := hE20.trans ((show m_X5_readTown_19 (AB ad F15) r8 r1 rc r15 = m_X5_readTown_24 (m_X5_readEnd (AB ad F15)) r15 r8 r1 rc from rfl).trans (congr (congr (congr (congr (congrArg (m_X5_readTown_24) ((Eq.refl (m_X5_readEnd (AB ad F15))).trans hm22)) (Eq.refl (r15 : Int32))) (Eq.refl (r8 : Int32))) (Eq.refl (r1 : Int32))) (Eq.refl rc)))
  refine lv_aload_n S.1 S.2.1 dX5_readTown_31 rfl (lv_at hl21 4 rfl) ?_
  refine lv_iload_n S.1 S.2.1 dX5_readTown_32 rfl (lv_at hl21 2 rfl) ?_
  refine lv_iload_n S.1 S.2.1 dX5_readTown_33 rfl (lv_at hl21 1 rfl) ?_
  refine lv_iload S.1 S.2.1 dX5_readTown_34 (lv_at hl21 0 rfl) ?_
  obtain ⟨sl27, fm27, tn27, rn27, bn27, hF27, hb27_1, hb27_2, hb27_3⟩ := wt_C hW22 hrc
  refine r_cVv (As := [.int r1, .int r8, .int r15]) (rest := []) S hK hZ hP22 hS22 hl21.1 rc (lt_C hrc) hF27 (C := RX0) rfl (c_X0_addTown l D cA ad t hI F22 hW22 rc hrc r1 r8 r15) (cwV 3 S.2.2.2.2 gX5_readTown_X0_addTown rfl rfl rfl (by decide +kernel) ⟨Nat.le_of_ble_eq_true rfl, Nat.le_of_ble_eq_true rfl⟩) rfl rfl (Nat.le_of_ble_eq_true rfl) ⟨Nat.zero_le _, Nat.zero_le _⟩ dX5_readTown_36 (fun F26 H26 locs26 hr26 hP26 hS26 => ?_)
  obtain ⟨hW26, hFc26, hr26⟩ := hr26
  obtain ⟨hr26, hm26⟩ := hr26
  have hFr26 := hFr22.tr hFc26 (by simp <;> first | omega | (simp only [isC, isJ] at *; omega))
  have hE29 : M = m_X5_readTown_28 (AB ad F26) r15 r8 r1 rc := hE25.trans ((show m_X5_readTown_24 (AB ad F22) r15 r8 r1 rc = m_X5_readTown_28 (m_X0_addTown (AB ad F22) rc r1 r8 r15) r15 r8 r1 rc from rfl).trans (congr (congr (congr (congr (congrArg (m_X5_readTown_28) ((congr (congr (congr (congr (Eq.refl (m_X0_addTown (AB ad F22))) (Eq.refl rc)) (Eq.refl (r1 : Int32))) (Eq.refl (r8 : Int32))) (Eq.refl (r15 : Int32))).trans hm26)) (Eq.refl (r15 : Int32))) (Eq.refl (r8 : Int32))) (Eq.refl (r1 : Int32))) (Eq.refl rc)))
  have hE30 : M = AB ad F26 := hE29.trans ((show m_X5_readTown_28 (AB ad F26) r15 r8 r1 rc = (AB ad F26) from rfl).trans rfl)
  exact hret 39 _ _ _ _ dX5_readTown_39 hP26 hS26 ⟨hW26, hFr26, ⟨trivial, hM.symm.trans hE30⟩⟩
noncomputable def m_X5_readRoad_71 (σ : SS) (a0 : Int32) (a1 : Int32) (a2 : Nat) : SS :=
  σ
noncomputable def m_X5_readRoad_66 (σ : SS) (a0 : Int32) (a1 : Int32) (a2 : Nat) : SS :=
  m_X5_readRoad_71 (m_X0_addRoad σ a2 a1 a0) a0 a1 a2
noncomputable def m_X5_readRoad_62 (σ : SS) (a0 : Int32) (a1 : Int32) (a2 : Nat) : SS :=
  m_X5_readRoad_66 (m_X5_readEnd σ) a0 a1 a2
noncomputable def m_X5_readRoad_55 (σ : SS) (a0 : Int32) (a1 : Int32) (a2 : Nat) : SS :=
  σ
noncomputable def m_X5_readRoad_51 (σ : SS) (a0 : Int32) (a1 : Int32) (a2 : Nat) : SS :=
  m_X5_readRoad_55 (m_X0_addRoad σ a2 a1 a0) a0 a1 a2
noncomputable def m_X5_readRoad_36 (σ : SS) (a0 : Int32) (a1 : Int32) (a2 : Nat) : SS :=
  σ
noncomputable def m_X5_readRoad_30 (σ : SS) (a0 : Int32) (a1 : Int32) (a2 : Nat) : SS :=
  m_X5_readRoad_36 (m_X0_addRoad σ a2 a1 a0) a0 a1 a2
noncomputable def m_X5_readRoad_26 (σ : SS) (a0 : Int32) (a1 : Int32) (a2 : Nat) : SS :=
  m_X5_readRoad_30 (m_X5_readEnd σ) a0 a1 a2
noncomputable def m_X5_readRoad_18 (σ : SS) (a0 : Int32) (a1 : Nat) (a2 : Int32) : SS :=
  if a0 = a2 then
    m_X5_readRoad_26 (m_X5_blame σ (nI 4) (σ 1 5)) a2 a0 a1
  else
    if (((m_X0_neighbours σ a1 a0 (nI 0)) >>> (a2 &&& 31)) &&& (nI 1)) = (0 : Int32) then
      m_X5_readRoad_51 (m_X5_readEnd σ) a2 a0 a1
    else
      m_X5_readRoad_62 (m_X5_blame σ (nI 4) (σ 1 5)) a2 a0 a1
noncomputable def m_X5_readRoad_8 (σ : SS) (a0 : Nat) (a1 : Int32) : SS :=
  m_X5_readRoad_18 ((m_X5_readNumber σ (nI 0) ((σ a0 2) - (nI 1)))).2 a1 a0 ((m_X5_readNumber σ (nI 0) ((σ a0 2) - (nI 1)))).1
noncomputable def m_X5_readRoad (σ : SS) (a0 : Nat) : SS :=
  m_X5_readRoad_8 ((m_X5_readNumber σ (nI 0) ((σ a0 2) - (nI 1)))).2 a0 ((m_X5_readNumber σ (nI 0) ((σ a0 2) - (nI 1)))).1
set_option maxHeartbeats 4000000 in
set_option maxRecDepth 100000 in
theorem c_X5_readRoad (l : Launch) (D : va_G) (cA ad : Nat → Nat) (t : Nat) (hI : rI ad) (F : Nat → va_E) (hW : WT cA ad F) (rc : Nat) (hrc : isC rc) : MV l D cA ad t yX5_readRoad wsX5_readRoad { frames := 2, cells := 0, slots := 0, locals := 45 } [.ref (ad 1), .ref (ad rc)] F (fun F' => WT cA ad F' ∧ rFr [1, rc, rc + 4, rc + 5] F F' ∧ ((True) ∧ m_X5_readRoad (AB ad F) rc = AB ad F')) := by
  refine en_V rfl (by decide +kernel) (Nat.le_of_ble_eq_true rfl) ?_
  intro p e s m args below meth c ls0 Q S hK hZ hP hS hl0 hret
  have hl0 : lv_has ls0 4 [(0, .ref (ad 1)), (1, .ref (ad rc))] := hl0
  have hFr : rFr [1, rc, rc + 4, rc + 5] F F := rFr.rf
  have hiX0 : ∀ w ∈ u_ws RX0 TX0 10, w ∈ wsX5_readRoad := in_wsX5_readRoad_2
  have hiX5 : ∀ w ∈ u_ws RX5 TX5 6, w ∈ wsX5_readRoad := in_wsX5_readRoad_3
  obtain ⟨M, hM⟩ : ∃ M, M = m_X5_readRoad (AB ad F) rc := ⟨_, rfl⟩
  refine lv_aload_n S.1 S.2.1 dX5_readRoad_0 rfl (lv_at hl0 0 rfl) ?_
  refine lv_iconst (v := (nI 0)) S.1 S.2.1 dX5_readRoad_1 (by decide +kernel) ?_
  refine lv_aload_n S.1 S.2.1 dX5_readRoad_2 rfl (lv_at hl0 1 rfl) ?_
  obtain ⟨sl1, fm1, tn1, rn1, bn1, hF1, hb1_1, hb1_2, hb1_3⟩ := wt_C hW hrc
  refine r_get S hK hP rc (lt_C hrc) hF1 (C := RX0) (T := TX0) (N := 10) hiX0 rfl 2 (by decide) (am_at in_wsX5_readRoad_0 0 rfl) (v := .int (nI tn1)) rfl dX5_readRoad_3 ?_
  have m2 : ((AB ad F) rc 2) = (nI tn1) := (congrArg (fun q => AB ad F q 2) rfl).trans (AB_f hF1 rfl)
  refine lv_iconst (v := (nI 1)) S.1 S.2.1 dX5_readRoad_6 (by decide +kernel) ?_
  refine lv_isub S.1 S.2.1 dX5_readRoad_7 ?_
  refine lv_topi (fun v3 e3 => ?_)
  have m4 : (((AB ad F) rc 2) - (nI 1)) = v3 := cg2 (fun (x : Int32) (y : Int32) => x - y) m2 (Eq.refl ((nI 1) : Int32)) e3
  have ks3 : v3.toInt = ((tn1 : Nat) : Int) - ((1 : Nat) : Int) := by rw [e3]; exact pk_sub_toInt (by omega) (by omega)
  obtain ⟨n6, a6, f6, fa6, nu6, hF6, hn6, ha6⟩ := wt_text hW
  refine r_cVi (As := [.int (nI 0), .int v3]) (rest := []) S hK hZ hP hS hl0.1 1 (by decide) hF6 (C := RX5) rfl (c_X5_readNumber l D cA ad t hI F hW (nI 0) v3) (cwV 2 S.2.2.2.2 gX5_readRoad_X5_readNumber rfl rfl rfl (by decide +kernel) ⟨Nat.le_of_ble_eq_true rfl, Nat.le_of_ble_eq_true rfl⟩) rfl rfl (Nat.le_of_ble_eq_true rfl) ⟨Nat.zero_le _, Nat.zero_le _⟩ dX5_readRoad_8 (fun r5 F5 H5 locs5 hr5 hP5 hS5 => ?_)
  obtain ⟨hW5, hFc5, hr5⟩ := hr5
  obtain ⟨hr5, hm5⟩ := hr5
  have hFr5 := hFr.tr hFc5 (by simp <;> first | omega | (simp only [isC, isJ] at *; omega))
  have mc7 : (m_X5_readNumber (AB ad F) (nI 0) (((AB ad F) rc 2) - (nI 1))) = (r5, AB ad F5) := (congr (congr (Eq.refl (m_X5_readNumber (AB ad F))) (Eq.refl ((nI 0) : Int32))) m4).trans hm5
  have hE9 : M = m_X5_readRoad_8 (AB ad F5) rc r5 := hM.trans ((show m_X5_readRoad (AB ad F) rc = m_X5_readRoad_8 ((m_X5_readNumber (AB ad F) (nI 0) (((AB ad F) rc 2) - (nI 1)))).2 rc ((m_X5_readNumber (AB ad F) (nI 0) (((AB ad F) rc 2) - (nI 1)))).1 from rfl).trans (congr (congr (congrArg (m_X5_readRoad_8) (congrArg Prod.snd mc7)) (Eq.refl rc)) (congrArg Prod.fst mc7)))
  refine lv_istore_n (lv' := [(2, .int r5), (0, .ref (ad 1)), (1, .ref (ad rc))]) S.1 S.2.1 dX5_readRoad_11 rfl hl0 (by decide) rfl (fun ls10 hl10 => ?_)
  refine lv_aload_n S.1 S.2.1 dX5_readRoad_12 rfl (lv_at hl10 1 rfl) ?_
  refine lv_iconst (v := (nI 0)) S.1 S.2.1 dX5_readRoad_13 (by decide +kernel) ?_
  refine lv_aload_n S.1 S.2.1 dX5_readRoad_14 rfl (lv_at hl10 2 rfl) ?_
  have hF11 := (hFc5 rc (by have hh1 := hrc; unfold isC at hh1; simp only [List.mem_cons, List.not_mem_nil, or_false, not_or]; omega)).trans hF1
  refine r_get S hK hP5 rc (lt_C hrc) hF11 (C := RX0) (T := TX0) (N := 10) hiX0 rfl 2 (by decide) (am_at in_wsX5_readRoad_0 0 rfl) (v := .int (nI tn1)) rfl dX5_readRoad_15 ?_
  have m12 : ((AB ad F5) rc 2) = (nI tn1) := (congrArg (fun q => AB ad F5 q 2) rfl).trans (AB_f hF11 rfl)
  refine lv_iconst (v := (nI 1)) S.1 S.2.1 dX5_readRoad_18 (by decide +kernel) ?_
  refine lv_isub S.1 S.2.1 dX5_readRoad_19 ?_
  refine lv_topi (fun v13 e13 => ?_)
  have m14 : (((AB ad F5) rc 2) - (nI 1)) = v13 := cg2 (fun (x : Int32) (y : Int32) => x - y) m12 (Eq.refl ((nI 1) : Int32)) e13
  have ks13 : v13.toInt = ((tn1 : Nat) : Int) - ((1 : Nat) : Int) := by rw [e13]; exact pk_sub_toInt (by omega) (by omega)
  obtain ⟨n16, a16, f16, fa16, nu16, hF16, hn16, ha16⟩ := wt_text hW5
  refine r_cVi (As := [.int (nI 0), .int v13]) (rest := []) S hK hZ hP5 hS5 hl10.1 1 (by decide) hF16 (C := RX5) rfl (c_X5_readNumber l D cA ad t hI F5 hW5 (nI 0) v13) (cwV 2 S.2.2.2.2 gX5_readRoad_X5_readNumber rfl rfl rfl (by decide +kernel) ⟨Nat.le_of_ble_eq_true rfl, Nat.le_of_ble_eq_true rfl⟩) rfl rfl (Nat.le_of_ble_eq_true rfl) ⟨Nat.zero_le _, Nat.zero_le _⟩ dX5_readRoad_20 (fun r15 F15 H15 locs15 hr15 hP15 hS15 => ?_)
  obtain ⟨hW15, hFc15, hr15⟩ := hr15
  obtain ⟨hr15, hm15⟩ := hr15
  have hFr15 := hFr5.tr hFc15 (by simp <;> first | omega | (simp only [isC, isJ] at *; omega))
  have mc17 : (m_X5_readNumber (AB ad F5) (nI 0) (((AB ad F5) rc 2) - (nI 1))) = (r15, AB ad F15) := (congr (congr (Eq.refl (m_X5_readNumber (AB ad F5))) (Eq.refl ((nI 0) : Int32))) m14).trans hm15
  have hE19 : M = m_X5_readRoad_18 (AB ad F15) r5 rc r15 := hE9.trans ((show m_X5_readRoad_8 (AB ad F5) rc r5 = m_X5_readRoad_18 ((m_X5_readNumber (AB ad F5) (nI 0) (((AB ad F5) rc 2) - (nI 1)))).2 r5 rc ((m_X5_readNumber (AB ad F5) (nI 0) (((AB ad F5) rc 2) - (nI 1)))).1 from rfl).trans (congr (congr (congr (congrArg (m_X5_readRoad_18) (congrArg Prod.snd mc17)) (Eq.refl (r5 : Int32))) (Eq.refl rc)) (congrArg Prod.fst mc17)))
  refine lv_istore_n (lv' := [(3, .int r15), (2, .int r5), (0, .ref (ad 1)), (1, .ref (ad rc))]) S.1 S.2.1 dX5_readRoad_23 rfl hl10 (by decide) rfl (fun ls20 hl20 => ?_)
  refine lv_iload_n S.1 S.2.1 dX5_readRoad_24 rfl (lv_at hl20 1 rfl) ?_
  refine lv_iload_n S.1 S.2.1 dX5_readRoad_25 rfl (lv_at hl20 0 rfl) ?_
  refine lv_icmp_eq (tgt := 42) S.1 S.2.1 dX5_readRoad_26 (by decide) (fun c21 => ?_) (fun c21 => ?_)
  · skip
    have k22 := ci_eq rfl rfl c21
    refine lv_aload_n S.1 S.2.1 dX5_readRoad_42 rfl (lv_at hl20 2 rfl) ?_
    refine lv_iconst (v := (nI 4)) S.1 S.2.1 dX5_readRoad_43 (by decide +kernel) ?_
    refine lv_aload_n S.1 S.2.1 dX5_readRoad_44 rfl (lv_at hl20 2 rfl) ?_
    obtain ⟨n23, a23, f23, fa23, nu23, hF23, hn23, ha23⟩ := wt_text hW15
    refine r_get S hK hP15 1 (by decide) hF23 (C := RX5) (T := TX5) (N := 6) hiX5 rfl 5 (by decide) (am_at in_wsX5_readRoad_0 1 rfl) (v := .int nu23) rfl dX5_readRoad_45 ?_
    have m24 : ((AB ad F15) 1 5) = nu23 := AB_f hF23 rfl
    refine r_cVv (As := [.int (nI 4), .int nu23]) (rest := []) S hK hZ hP15 hS15 hl20.1 1 (by decide) hF23 (C := RX5) rfl (c_X5_blame l D cA ad t hI F15 hW15 (nI 4) nu23) (cwV 2 S.2.2.2.2 gX5_readRoad_X5_blame rfl rfl rfl (by decide +kernel) ⟨Nat.le_of_ble_eq_true rfl, Nat.le_of_ble_eq_true rfl⟩) rfl rfl (Nat.le_of_ble_eq_true rfl) ⟨Nat.zero_le _, Nat.zero_le _⟩ dX5_readRoad_48 (fun F25 H25 locs25 hr25 hP25 hS25 => ?_)
    obtain ⟨hW25, hFc25, hr25⟩ := hr25
    obtain ⟨hr25, hm25⟩ := hr25
    have hFr25 := hFr15.tr hFc25 (by simp <;> first | omega | (simp only [isC, isJ] at *; omega))
    have hE27 : M = m_X5_readRoad_26 (AB ad F25) r15 r5 rc := hE19.trans ((show m_X5_readRoad_18 (AB ad F15) r5 rc r15 = m_X5_readRoad_26 (m_X5_blame (AB ad F15) (nI 4) ((AB ad F15) 1 5)) r15 r5 rc from by unfold m_X5_readRoad_18; rw [if_pos (eq_cg rfl rfl c21)]).trans (congr (congr (congr (congrArg (m_X5_readRoad_26) ((congr (congr (Eq.refl (m_X5_blame (AB ad F15))) (Eq.refl ((nI 4) : Int32))) m24).trans hm25)) (Eq.refl (r15 : Int32))) (Eq.refl (r5 : Int32))) (Eq.refl rc)))
    refine lv_aload_n S.1 S.2.1 dX5_readRoad_51 rfl (lv_at hl20 2 rfl) ?_
    obtain ⟨n29, a29, f29, fa29, nu29, hF29, hn29, ha29⟩ := wt_text hW25
    refine r_cVv (As := []) (rest := []) S hK hZ hP25 hS25 hl20.1 1 (by decide) hF29 (C := RX5) rfl (c_X5_readEnd l D cA ad t hI F25 hW25 ) (cwV 0 S.2.2.2.2 gX5_readRoad_X5_readEnd rfl rfl rfl (by decide +kernel) ⟨Nat.le_of_ble_eq_true rfl, Nat.le_of_ble_eq_true rfl⟩) rfl rfl (Nat.le_of_ble_eq_true rfl) ⟨Nat.zero_le _, Nat.zero_le _⟩ dX5_readRoad_52 (fun F28 H28 locs28 hr28 hP28 hS28 => ?_)
    obtain ⟨hW28, hFc28, hr28⟩ := hr28
    obtain ⟨hr28, hm28⟩ := hr28
    have hFr28 := hFr25.tr hFc28 (by simp <;> first | omega | (simp only [isC, isJ] at *; omega))
    have hE31 : M = m_X5_readRoad_30 (AB ad F28) r15 r5 rc := hE27.trans ((show m_X5_readRoad_26 (AB ad F25) r15 r5 rc = m_X5_readRoad_30 (m_X5_readEnd (AB ad F25)) r15 r5 rc from rfl).trans (congr (congr (congr (congrArg (m_X5_readRoad_30) ((Eq.refl (m_X5_readEnd (AB ad F25))).trans hm28)) (Eq.refl (r15 : Int32))) (Eq.refl (r5 : Int32))) (Eq.refl rc)))
    refine lv_aload_n S.1 S.2.1 dX5_readRoad_55 rfl (lv_at hl20 3 rfl) ?_
    refine lv_iload_n S.1 S.2.1 dX5_readRoad_56 rfl (lv_at hl20 1 rfl) ?_
    refine lv_iload_n S.1 S.2.1 dX5_readRoad_57 rfl (lv_at hl20 0 rfl) ?_
    have hF33 := (hFc15 rc (by have hh1 := hrc; unfold isC at hh1; simp only [List.mem_cons, List.not_mem_nil, or_false, not_or]; omega)).trans hF11
    have hF34 := (hFc25 rc (by have hh1 := hrc; unfold isC at hh1; simp only [List.mem_cons, List.not_mem_nil, or_false, not_or]; omega)).trans hF33
    have hF35 := (hFc28 rc (by have hh1 := hrc; unfold isC at hh1; simp only [List.mem_cons, List.not_mem_nil, or_false, not_or]; omega)).trans hF34
    refine r_cVv (As := [.int r5, .int r15]) (rest := []) S hK hZ hP28 hS28 hl20.1 rc (lt_C hrc) hF35 (C := RX0) rfl (c_X0_addRoad l D cA ad t hI F28 hW28 rc hrc r5 r15) (cwV 2 S.2.2.2.2 gX5_readRoad_X0_addRoad rfl rfl rfl (by decide +kernel) ⟨Nat.le_of_ble_eq_true rfl, Nat.le_of_ble_eq_true rfl⟩) rfl rfl (Nat.le_of_ble_eq_true rfl) ⟨Nat.zero_le _, Nat.zero_le _⟩ dX5_readRoad_58 (fun F32 H32 locs32 hr32 hP32 hS32 => ?_)
    obtain ⟨hW32, hFc32, hr32⟩ := hr32
    obtain ⟨hr32, hm32⟩ := hr32
    have hFr32 := hFr28.tr hFc32 (by simp <;> first | omega | (simp only [isC, isJ] at *; omega))
    have hE37 : M = m_X5_readRoad_36 (AB ad F32) r15 r5 rc := hE31.trans ((show m_X5_readRoad_30 (AB ad F28) r15 r5 rc = m_X5_readRoad_36 (m_X0_addRoad (AB ad F28) rc r5 r15) r15 r5 rc from rfl).trans (congr (congr (congr (congrArg (m_X5_readRoad_36) ((congr (congr (congr (Eq.refl (m_X0_addRoad (AB ad F28))) (Eq.refl rc)) (Eq.refl (r5 : Int32))) (Eq.refl (r15 : Int32))).trans hm32)) (Eq.refl (r15 : Int32))) (Eq.refl (r5 : Int32))) (Eq.refl rc)))
    have hE38 : M = AB ad F32 := hE37.trans ((show m_X5_readRoad_36 (AB ad F32) r15 r5 rc = (AB ad F32) from rfl).trans rfl)
    exact hret 61 _ _ _ _ dX5_readRoad_61 hP32 hS32 ⟨hW32, hFr32, ⟨trivial, hM.symm.trans hE38⟩⟩
  have k39 := ci_ne rfl rfl c21
  refine lv_aload_n S.1 S.2.1 dX5_readRoad_29 rfl (lv_at hl20 3 rfl) ?_
  refine lv_iload_n S.1 S.2.1 dX5_readRoad_30 rfl (lv_at hl20 1 rfl) ?_
  refine lv_iconst (v := (nI 0)) S.1 S.2.1 dX5_readRoad_31 (by decide +kernel) ?_
  have hF41 := (hFc15 rc (by have hh1 := hrc; unfold isC at hh1; simp only [List.mem_cons, List.not_mem_nil, or_false, not_or]; omega)).trans hF11
  refine r_cVp (As := [.int r5, .int (nI 0)]) (rest := []) S hK hZ hP15 hS15 hl20.1 rc (lt_C hrc) hF41 (C := RX0) rfl (c_X0_neighbours l D cA ad t hI F15 hW15 rc hrc r5 (nI 0)) (cwV 2 S.2.2.2.2 gX5_readRoad_X0_neighbours rfl rfl rfl (by decide +kernel) ⟨Nat.le_of_ble_eq_true rfl, Nat.le_of_ble_eq_true rfl⟩) rfl rfl (Nat.le_of_ble_eq_true rfl) ⟨Nat.zero_le _, Nat.zero_le _⟩ dX5_readRoad_32 (fun r40 hr40 => ?_)
  obtain ⟨hr40, hm40⟩ := hr40
  have m42 : (m_X0_neighbours (AB ad F15) rc r5 (nI 0)) = r40 := (congr (congr (congr (Eq.refl (m_X0_neighbours (AB ad F15))) (Eq.refl rc)) (Eq.refl (r5 : Int32))) (Eq.refl ((nI 0) : Int32))).trans hm40
  refine lv_iload_n S.1 S.2.1 dX5_readRoad_35 rfl (lv_at hl20 0 rfl) ?_
  refine lv_ishr S.1 S.2.1 dX5_readRoad_36 ?_
  refine lv_topi (fun v43 e43 => ?_)
  have m44 : ((m_X0_neighbours (AB ad F15) rc r5 (nI 0)) >>> (r15 &&& 31)) = v43 := cg2 (fun (x : Int32) (y : Int32) => x >>> (y &&& 31)) m42 (Eq.refl (r15 : Int32)) e43
  refine lv_iconst (v := (nI 1)) S.1 S.2.1 dX5_readRoad_37 (by decide +kernel) ?_
  refine lv_iand S.1 S.2.1 dX5_readRoad_38 ?_
  refine lv_topi (fun v45 e45 => ?_)
  have m46 : (((m_X0_neighbours (AB ad F15) rc r5 (nI 0)) >>> (r15 &&& 31)) &&& (nI 1)) = v45 := cg2 (fun (x : Int32) (y : Int32) => x &&& y) m44 (Eq.refl ((nI 1) : Int32)) e45
  refine lv_if_eq (tgt := 51) S.1 S.2.1 dX5_readRoad_39 (by decide) (fun c47 => ?_) (fun c47 => ?_)
  · skip
    have k48 := ci_eq rfl z_ti c47
    refine lv_aload_n S.1 S.2.1 dX5_readRoad_51 rfl (lv_at hl20 2 rfl) ?_
    obtain ⟨n50, a50, f50, fa50, nu50, hF50, hn50, ha50⟩ := wt_text hW15
    refine r_cVv (As := []) (rest := []) S hK hZ hP15 hS15 hl20.1 1 (by decide) hF50 (C := RX5) rfl (c_X5_readEnd l D cA ad t hI F15 hW15 ) (cwV 0 S.2.2.2.2 gX5_readRoad_X5_readEnd rfl rfl rfl (by decide +kernel) ⟨Nat.le_of_ble_eq_true rfl, Nat.le_of_ble_eq_true rfl⟩) rfl rfl (Nat.le_of_ble_eq_true rfl) ⟨Nat.zero_le _, Nat.zero_le _⟩ dX5_readRoad_52 (fun F49 H49 locs49 hr49 hP49 hS49 => ?_)
    obtain ⟨hW49, hFc49, hr49⟩ := hr49
    obtain ⟨hr49, hm49⟩ := hr49
    have hFr49 := hFr15.tr hFc49 (by simp <;> first | omega | (simp only [isC, isJ] at *; omega))
    have hE52 : M = m_X5_readRoad_51 (AB ad F49) r15 r5 rc := hE19.trans ((show m_X5_readRoad_18 (AB ad F15) r5 rc r15 = m_X5_readRoad_51 (m_X5_readEnd (AB ad F15)) r15 r5 rc from by unfold m_X5_readRoad_18; rw [if_neg (neq_cg rfl rfl c21), if_pos (eq_cg m46 rfl c47)]).trans (congr (congr (congr (congrArg (m_X5_readRoad_51) ((Eq.refl (m_X5_readEnd (AB ad F15))).trans hm49)) (Eq.refl (r15 : Int32))) (Eq.refl (r5 : Int32))) (Eq.refl rc)))
    refine lv_aload_n S.1 S.2.1 dX5_readRoad_55 rfl (lv_at hl20 3 rfl) ?_
    refine lv_iload_n S.1 S.2.1 dX5_readRoad_56 rfl (lv_at hl20 1 rfl) ?_
    refine lv_iload_n S.1 S.2.1 dX5_readRoad_57 rfl (lv_at hl20 0 rfl) ?_
    have hF54 := (hFc49 rc (by have hh1 := hrc; unfold isC at hh1; simp only [List.mem_cons, List.not_mem_nil, or_false, not_or]; omega)).trans hF41
    refine r_cVv (As := [.int r5, .int r15]) (rest := []) S hK hZ hP49 hS49 hl20.1 rc (lt_C hrc) hF54 (C := RX0) rfl (c_X0_addRoad l D cA ad t hI F49 hW49 rc hrc r5 r15) (cwV 2 S.2.2.2.2 gX5_readRoad_X0_addRoad rfl rfl rfl (by decide +kernel) ⟨Nat.le_of_ble_eq_true rfl, Nat.le_of_ble_eq_true rfl⟩) rfl rfl (Nat.le_of_ble_eq_true rfl) ⟨Nat.zero_le _, Nat.zero_le _⟩ dX5_readRoad_58 (fun F53 H53 locs53 hr53 hP53 hS53 => ?_)
    obtain ⟨hW53, hFc53, hr53⟩ := hr53
    obtain ⟨hr53, hm53⟩ := hr53
    have hFr53 := hFr49.tr hFc53 (by simp <;> first | omega | (simp only [isC, isJ] at *; omega))
    have hE56 : M = m_X5_readRoad_55 (AB ad F53) r15 r5 rc := hE52.trans ((show m_X5_readRoad_51 (AB ad F49) r15 r5 rc = m_X5_readRoad_55 (m_X0_addRoad (AB ad F49) rc r5 r15) r15 r5 rc from rfl).trans (congr (congr (congr (congrArg (m_X5_readRoad_55) ((congr (congr (congr (Eq.refl (m_X0_addRoad (AB ad F49))) (Eq.refl rc)) (Eq.refl (r5 : Int32))) (Eq.refl (r15 : Int32))).trans hm53)) (Eq.refl (r15 : Int32))) (Eq.refl (r5 : Int32))) (Eq.refl rc)))
    have hE57 : M = AB ad F53 := hE56.trans ((show m_X5_readRoad_55 (AB ad F53) r15 r5 rc = (AB ad F53) from rfl).trans rfl)
    exact hret 61 _ _ _ _ dX5_readRoad_61 hP53 hS53 ⟨hW53, hFr53, ⟨trivial, hM.symm.trans hE57⟩⟩
  have k58 := ci_ne rfl z_ti c47
  refine lv_aload_n S.1 S.2.1 dX5_readRoad_42 rfl (lv_at hl20 2 rfl) ?_
  refine lv_iconst (v := (nI 4)) S.1 S.2.1 dX5_readRoad_43 (by decide +kernel) ?_
  refine lv_aload_n S.1 S.2.1 dX5_readRoad_44 rfl (lv_at hl20 2 rfl) ?_
  obtain ⟨n59, a59, f59, fa59, nu59, hF59, hn59, ha59⟩ := wt_text hW15
  refine r_get S hK hP15 1 (by decide) hF59 (C := RX5) (T := TX5) (N := 6) hiX5 rfl 5 (by decide) (am_at in_wsX5_readRoad_0 1 rfl) (v := .int nu59) rfl dX5_readRoad_45 ?_
  have m60 : ((AB ad F15) 1 5) = nu59 := AB_f hF59 rfl
  refine r_cVv (As := [.int (nI 4), .int nu59]) (rest := []) S hK hZ hP15 hS15 hl20.1 1 (by decide) hF59 (C := RX5) rfl (c_X5_blame l D cA ad t hI F15 hW15 (nI 4) nu59) (cwV 2 S.2.2.2.2 gX5_readRoad_X5_blame rfl rfl rfl (by decide +kernel) ⟨Nat.le_of_ble_eq_true rfl, Nat.le_of_ble_eq_true rfl⟩) rfl rfl (Nat.le_of_ble_eq_true rfl) ⟨Nat.zero_le _, Nat.zero_le _⟩ dX5_readRoad_48 (fun F61 H61 locs61 hr61 hP61 hS61 => ?_)
  obtain ⟨hW61, hFc61, hr61⟩ := hr61
  obtain ⟨hr61, hm61⟩ := hr61
  have hFr61 := hFr15.tr hFc61 (by simp <;> first | omega | (simp only [isC, isJ] at *; omega))
  have hE63 : M = m_X5_readRoad_62 (AB ad F61) r15 r5 rc := hE19.trans ((show m_X5_readRoad_18 (AB ad F15) r5 rc r15 = m_X5_readRoad_62 (m_X5_blame (AB ad F15) (nI 4) ((AB ad F15) 1 5)) r15 r5 rc from by unfold m_X5_readRoad_18; rw [if_neg (neq_cg rfl rfl c21), if_neg (neq_cg m46 rfl c47)]).trans (congr (congr (congr (congrArg (m_X5_readRoad_62) ((congr (congr (Eq.refl (m_X5_blame (AB ad F15))) (Eq.refl ((nI 4) : Int32))) m60).trans hm61)) (Eq.refl (r15 : Int32))) (Eq.refl (r5 : Int32))) (Eq.refl rc)))
  refine lv_aload_n S.1 S.2.1 dX5_readRoad_51 rfl (lv_at hl20 2 rfl) ?_
  obtain ⟨n65, a65, f65, fa65, nu65, hF65, hn65, ha65⟩ := wt_text hW61
  refine r_cVv (As := []) (rest := []) S hK hZ hP61 hS61 hl20.1 1 (by decide) hF65 (C := RX5) rfl (c_X5_readEnd l D cA ad t hI F61 hW61 ) (cwV 0 S.2.2.2.2 gX5_readRoad_X5_readEnd rfl rfl rfl (by decide +kernel) ⟨Nat.le_of_ble_eq_true rfl, Nat.le_of_ble_eq_true rfl⟩) rfl rfl (Nat.le_of_ble_eq_true rfl) ⟨Nat.zero_le _, Nat.zero_le _⟩ dX5_readRoad_52 (fun F64 H64 locs64 hr64 hP64 hS64 => ?_)
  obtain ⟨hW64, hFc64, hr64⟩ := hr64
  obtain ⟨hr64, hm64⟩ := hr64
  have hFr64 := hFr61.tr hFc64 (by simp <;> first | omega | (simp only [isC, isJ] at *; omega))
  have hE67 : M = m_X5_readRoad_66 (AB ad F64) r15 r5 rc := hE63.trans ((show m_X5_readRoad_62 (AB ad F61) r15 r5 rc = m_X5_readRoad_66 (m_X5_readEnd (AB ad F61)) r15 r5 rc from rfl).trans (congr (congr (congr (congrArg (m_X5_readRoad_66) ((Eq.refl (m_X5_readEnd (AB ad F61))).trans hm64)) (Eq.refl (r15 : Int32))) (Eq.refl (r5 : Int32))) (Eq.refl rc)))
  refine lv_aload_n S.1 S.2.1 dX5_readRoad_55 rfl (lv_at hl20 3 rfl) ?_
  refine lv_iload_n S.1 S.2.1 dX5_readRoad_56 rfl (lv_at hl20 1 rfl) ?_
  refine lv_iload_n S.1 S.2.1 dX5_readRoad_57 rfl (lv_at hl20 0 rfl) ?_
  have hF69 := (hFc61 rc (by have hh1 := hrc; unfold isC at hh1; simp only [List.mem_cons, List.not_mem_nil, or_false, not_or]; omega)).trans hF41
  have hF70 := (hFc64 rc (by have hh1 := hrc; unfold isC at hh1; simp only [List.mem_cons, List.not_mem_nil, or_false, not_or]; omega)).trans hF69
  refine r_cVv (As := [.int r5, .int r15]) (rest := []) S hK hZ hP64 hS64 hl20.1 rc (lt_C hrc) hF70 (C := RX0) rfl (c_X0_addRoad l D cA ad t hI F64 hW64 rc hrc r5 r15) (cwV 2 S.2.2.2.2 gX5_readRoad_X0_addRoad rfl rfl rfl (by decide +kernel) ⟨Nat.le_of_ble_eq_true rfl, Nat.le_of_ble_eq_true rfl⟩) rfl rfl (Nat.le_of_ble_eq_true rfl) ⟨Nat.zero_le _, Nat.zero_le _⟩ dX5_readRoad_58 (fun F68 H68 locs68 hr68 hP68 hS68 => ?_)
  obtain ⟨hW68, hFc68, hr68⟩ := hr68
  obtain ⟨hr68, hm68⟩ := hr68
  have hFr68 := hFr64.tr hFc68 (by simp <;> first | omega | (simp only [isC, isJ] at *; omega))
  have hE72 : M = m_X5_readRoad_71 (AB ad F68) r15 r5 rc := hE67.trans ((show m_X5_readRoad_66 (AB ad F64) r15 r5 rc = m_X5_readRoad_71 (m_X0_addRoad (AB ad F64) rc r5 r15) r15 r5 rc from rfl).trans (congr (congr (congr (congrArg (m_X5_readRoad_71) ((congr (congr (congr (Eq.refl (m_X0_addRoad (AB ad F64))) (Eq.refl rc)) (Eq.refl (r5 : Int32))) (Eq.refl (r15 : Int32))).trans hm68)) (Eq.refl (r15 : Int32))) (Eq.refl (r5 : Int32))) (Eq.refl rc)))
  have hE73 : M = AB ad F68 := hE72.trans ((show m_X5_readRoad_71 (AB ad F68) r15 r5 rc = (AB ad F68) from rfl).trans rfl)
  exact hret 61 _ _ _ _ dX5_readRoad_61 hP68 hS68 ⟨hW68, hFr68, ⟨trivial, hM.symm.trans hE73⟩⟩
noncomputable def m_X5_faultOfWord (σ : SS) (a0 : Nat) (a1 : Int32) : Int32 :=
  if (σ a0 0) = (0 : Int32) then
    if a1 = (nI 108) then
      (nI 0)
    else
      (nI 1)
  else
    if a1 = (nI 108) then
      (nI 3)
    else
      if a1 = (nI 116) then
        if (nI 8) ≤ (σ a0 2) then
          (nI 3)
        else
          (nI 0)
      else
        if a1 = (nI 114) then
          if (nI 12) ≤ (σ a0 3) then
            (nI 3)
          else
            (nI 0)
        else
          (nI 1)
set_option maxHeartbeats 4000000 in
set_option maxRecDepth 100000 in
theorem c_X5_faultOfWord (l : Launch) (D : va_G) (cA ad : Nat → Nat) (t : Nat) (hI : rI ad) (F : Nat → va_E) (hW : WT cA ad F) (rc : Nat) (hrc : isC rc) (p2 : Int32) : MP l D cA ad t yX5_faultOfWord wsX5_faultOfWord { frames := 0, cells := 0, slots := 0, locals := 0 } [.ref (ad 1), .ref (ad rc), .int p2] F (fun r => (True) ∧ m_X5_faultOfWord (AB ad F) rc p2 = r) := by
  refine en_P rfl (by decide +kernel) (Nat.le_of_ble_eq_true rfl) ?_
  intro p e s m args below meth c ls0 Q S hK hZ hP hS hl0 hret
  have hl0 : lv_has ls0 4 [(0, .ref (ad 1)), (1, .ref (ad rc)), (2, .int p2)] := hl0
  have hiX0 : ∀ w ∈ u_ws RX0 TX0 10, w ∈ wsX5_faultOfWord := in_wsX5_faultOfWord_1
  obtain ⟨M, hM⟩ : ∃ M, M = m_X5_faultOfWord (AB ad F) rc p2 := ⟨_, rfl⟩
  refine lv_aload_n S.1 S.2.1 dX5_faultOfWord_0 rfl (lv_at hl0 1 rfl) ?_
  obtain ⟨sl1, fm1, tn1, rn1, bn1, hF1, hb1_1, hb1_2, hb1_3⟩ := wt_C hW hrc
  refine r_get S hK hP rc (lt_C hrc) hF1 (C := RX0) (T := TX0) (N := 10) hiX0 rfl 0 (by decide) (am_at in_wsX5_faultOfWord_0 0 rfl) (v := .int (nI sl1)) rfl dX5_faultOfWord_1 ?_
  have m2 : ((AB ad F) rc 0) = (nI sl1) := (congrArg (fun q => AB ad F q 0) rfl).trans (AB_f hF1 rfl)
  refine lv_if_ne (tgt := 11) S.1 S.2.1 dX5_faultOfWord_4 (by decide) (fun c3 => ?_) (fun c3 => ?_)
  · skip
    have k4 := ci_ne (nI_toInt (n := sl1) (by omega)) z_ti c3
    refine lv_iconst (v := (nI 0)) S.1 S.2.1 dX5_faultOfWord_11 (by decide +kernel) ?_
    refine lv_istore_n (lv' := [(3, .int (nI 0)), (0, .ref (ad 1)), (1, .ref (ad rc)), (2, .int p2)]) S.1 S.2.1 dX5_faultOfWord_12 rfl hl0 (by decide) rfl (fun ls5 hl5 => ?_)
    refine lv_iload_n S.1 S.2.1 dX5_faultOfWord_13 rfl (lv_at hl5 3 rfl) ?_
    refine lv_bipush (v := (nI 108)) S.1 S.2.1 dX5_faultOfWord_14 (by decide +kernel) ?_
    refine lv_icmp_ne (tgt := 29) S.1 S.2.1 dX5_faultOfWord_16 (by decide) (fun c6 => ?_) (fun c6 => ?_)
    · skip
      have k7 := ci_ne rfl (nI_toInt (n := 108) (by decide)) c6
      refine lv_iload_n S.1 S.2.1 dX5_faultOfWord_29 rfl (lv_at hl5 0 rfl) ?_
      refine lv_if_eq (tgt := 35) S.1 S.2.1 dX5_faultOfWord_30 (by decide) (fun c8 => ?_) (fun c8 => absurd (by decide +kernel) c8)
      have k9 := ci_eq (nI_toInt (n := 0) (by decide)) z_ti c8
      refine lv_iload_n S.1 S.2.1 dX5_faultOfWord_35 rfl (lv_at hl5 3 rfl) ?_
      refine lv_bipush (v := (nI 116)) S.1 S.2.1 dX5_faultOfWord_36 (by decide +kernel) ?_
      refine lv_icmp_ne (tgt := 56) S.1 S.2.1 dX5_faultOfWord_38 (by decide) (fun c10 => ?_) (fun c10 => ?_)
      · skip
        have k11 := ci_ne rfl (nI_toInt (n := 116) (by decide)) c10
        refine lv_iload_n S.1 S.2.1 dX5_faultOfWord_56 rfl (lv_at hl5 3 rfl) ?_
        refine lv_bipush (v := (nI 114)) S.1 S.2.1 dX5_faultOfWord_57 (by decide +kernel) ?_
        refine lv_icmp_ne (tgt := 77) S.1 S.2.1 dX5_faultOfWord_59 (by decide) (fun c12 => ?_) (fun c12 => ?_)
        · skip
          have k13 := ci_ne rfl (nI_toInt (n := 114) (by decide)) c12
          refine lv_iconst (v := (nI 1)) S.1 S.2.1 dX5_faultOfWord_77 (by decide +kernel) ?_
          have hE14 : M = (nI 1) := hM.trans ((show m_X5_faultOfWord (AB ad F) rc p2 = (nI 1) from by unfold m_X5_faultOfWord; rw [if_neg (neq_cg m2 rfl c3), if_neg (neq_cg rfl rfl c6), if_neg (neq_cg rfl rfl c10), if_neg (neq_cg rfl rfl c12)]).trans rfl)
          exact hret 78 _ _ dX5_faultOfWord_78 rfl (⟨trivial, hM.symm.trans hE14⟩)
        have k15 := ci_eq rfl (nI_toInt (n := 114) (by decide)) c12
        refine lv_aload_n S.1 S.2.1 dX5_faultOfWord_62 rfl (lv_at hl5 2 rfl) ?_
        refine r_get S hK hP rc (lt_C hrc) hF1 (C := RX0) (T := TX0) (N := 10) hiX0 rfl 3 (by decide) (am_at in_wsX5_faultOfWord_0 2 rfl) (v := .int (nI rn1)) rfl dX5_faultOfWord_63 ?_
        have m16 : ((AB ad F) rc 3) = (nI rn1) := (congrArg (fun q => AB ad F q 3) rfl).trans (AB_f hF1 rfl)
        refine lv_bipush (v := (nI 12)) S.1 S.2.1 dX5_faultOfWord_66 (by decide +kernel) ?_
        refine lv_icmp_ge (tgt := 75) S.1 S.2.1 dX5_faultOfWord_68 (by decide) (fun c17 => ?_) (fun c17 => ?_)
        · skip
          have k18 := ci_le (nI_toInt (n := 12) (by decide)) (nI_toInt (n := rn1) (by omega)) c17
          refine lv_iconst (v := (nI 3)) S.1 S.2.1 dX5_faultOfWord_75 (by decide +kernel) ?_
          have hE19 : M = (nI 3) := hM.trans ((show m_X5_faultOfWord (AB ad F) rc p2 = (nI 3) from by unfold m_X5_faultOfWord; rw [if_neg (neq_cg m2 rfl c3), if_neg (neq_cg rfl rfl c6), if_neg (neq_cg rfl rfl c10), if_pos (eq_cg rfl rfl c12), if_pos (le_cg rfl m16 c17)]).trans rfl)
          exact hret 76 _ _ dX5_faultOfWord_76 rfl (⟨trivial, hM.symm.trans hE19⟩)
        have k20 := ci_nle (nI_toInt (n := 12) (by decide)) (nI_toInt (n := rn1) (by omega)) c17
        refine lv_iconst (v := (nI 0)) S.1 S.2.1 dX5_faultOfWord_71 (by decide +kernel) ?_
        refine lv_goto (tgt := 76) S.1 S.2.1 dX5_faultOfWord_72 (by decide) ?_
        have hE21 : M = (nI 0) := hM.trans ((show m_X5_faultOfWord (AB ad F) rc p2 = (nI 0) from by unfold m_X5_faultOfWord; rw [if_neg (neq_cg m2 rfl c3), if_neg (neq_cg rfl rfl c6), if_neg (neq_cg rfl rfl c10), if_pos (eq_cg rfl rfl c12), if_neg (nle_cg rfl m16 c17)]).trans rfl)
        exact hret 76 _ _ dX5_faultOfWord_76 rfl (⟨trivial, hM.symm.trans hE21⟩)
      have k22 := ci_eq rfl (nI_toInt (n := 116) (by decide)) c10
      refine lv_aload_n S.1 S.2.1 dX5_faultOfWord_41 rfl (lv_at hl5 2 rfl) ?_
      refine r_get S hK hP rc (lt_C hrc) hF1 (C := RX0) (T := TX0) (N := 10) hiX0 rfl 2 (by decide) (am_at in_wsX5_faultOfWord_0 1 rfl) (v := .int (nI tn1)) rfl dX5_faultOfWord_42 ?_
      have m23 : ((AB ad F) rc 2) = (nI tn1) := (congrArg (fun q => AB ad F q 2) rfl).trans (AB_f hF1 rfl)
      refine lv_bipush (v := (nI 8)) S.1 S.2.1 dX5_faultOfWord_45 (by decide +kernel) ?_
      refine lv_icmp_ge (tgt := 54) S.1 S.2.1 dX5_faultOfWord_47 (by decide) (fun c24 => ?_) (fun c24 => ?_)
      · skip
        have k25 := ci_le (nI_toInt (n := 8) (by decide)) (nI_toInt (n := tn1) (by omega)) c24
        refine lv_iconst (v := (nI 3)) S.1 S.2.1 dX5_faultOfWord_54 (by decide +kernel) ?_
        have hE26 : M = (nI 3) := hM.trans ((show m_X5_faultOfWord (AB ad F) rc p2 = (nI 3) from by unfold m_X5_faultOfWord; rw [if_neg (neq_cg m2 rfl c3), if_neg (neq_cg rfl rfl c6), if_pos (eq_cg rfl rfl c10), if_pos (le_cg rfl m23 c24)]).trans rfl)
        exact hret 55 _ _ dX5_faultOfWord_55 rfl (⟨trivial, hM.symm.trans hE26⟩)
      have k27 := ci_nle (nI_toInt (n := 8) (by decide)) (nI_toInt (n := tn1) (by omega)) c24
      refine lv_iconst (v := (nI 0)) S.1 S.2.1 dX5_faultOfWord_50 (by decide +kernel) ?_
      refine lv_goto (tgt := 55) S.1 S.2.1 dX5_faultOfWord_51 (by decide) ?_
      have hE28 : M = (nI 0) := hM.trans ((show m_X5_faultOfWord (AB ad F) rc p2 = (nI 0) from by unfold m_X5_faultOfWord; rw [if_neg (neq_cg m2 rfl c3), if_neg (neq_cg rfl rfl c6), if_pos (eq_cg rfl rfl c10), if_neg (nle_cg rfl m23 c24)]).trans rfl)
      exact hret 55 _ _ dX5_faultOfWord_55 rfl (⟨trivial, hM.symm.trans hE28⟩)
    have k29 := ci_eq rfl (nI_toInt (n := 108) (by decide)) c6
    refine lv_iload_n S.1 S.2.1 dX5_faultOfWord_19 rfl (lv_at hl5 0 rfl) ?_
    refine lv_if_eq (tgt := 27) S.1 S.2.1 dX5_faultOfWord_20 (by decide) (fun c30 => ?_) (fun c30 => absurd (by decide +kernel) c30)
    have k31 := ci_eq (nI_toInt (n := 0) (by decide)) z_ti c30
    refine lv_iconst (v := (nI 3)) S.1 S.2.1 dX5_faultOfWord_27 (by decide +kernel) ?_
    have hE32 : M = (nI 3) := hM.trans ((show m_X5_faultOfWord (AB ad F) rc p2 = (nI 3) from by unfold m_X5_faultOfWord; rw [if_neg (neq_cg m2 rfl c3), if_pos (eq_cg rfl rfl c6)]).trans rfl)
    exact hret 28 _ _ dX5_faultOfWord_28 rfl (⟨trivial, hM.symm.trans hE32⟩)
  have k33 := ci_eq (nI_toInt (n := sl1) (by omega)) z_ti c3
  refine lv_iconst (v := (nI 1)) S.1 S.2.1 dX5_faultOfWord_7 (by decide +kernel) ?_
  refine lv_goto (tgt := 12) S.1 S.2.1 dX5_faultOfWord_8 (by decide) ?_
  refine lv_istore_n (lv' := [(3, .int (nI 1)), (0, .ref (ad 1)), (1, .ref (ad rc)), (2, .int p2)]) S.1 S.2.1 dX5_faultOfWord_12 rfl hl0 (by decide) rfl (fun ls34 hl34 => ?_)
  refine lv_iload_n S.1 S.2.1 dX5_faultOfWord_13 rfl (lv_at hl34 3 rfl) ?_
  refine lv_bipush (v := (nI 108)) S.1 S.2.1 dX5_faultOfWord_14 (by decide +kernel) ?_
  refine lv_icmp_ne (tgt := 29) S.1 S.2.1 dX5_faultOfWord_16 (by decide) (fun c35 => ?_) (fun c35 => ?_)
  · skip
    have k36 := ci_ne rfl (nI_toInt (n := 108) (by decide)) c35
    refine lv_iload_n S.1 S.2.1 dX5_faultOfWord_29 rfl (lv_at hl34 0 rfl) ?_
    refine lv_if_eq (tgt := 35) S.1 S.2.1 dX5_faultOfWord_30 (by decide) (fun c37 => absurd c37 (by decide +kernel)) (fun c37 => ?_)
    have k38 := ci_ne (nI_toInt (n := 1) (by decide)) z_ti c37
    refine lv_iconst (v := (nI 1)) S.1 S.2.1 dX5_faultOfWord_33 (by decide +kernel) ?_
    have hE39 : M = (nI 1) := hM.trans ((show m_X5_faultOfWord (AB ad F) rc p2 = (nI 1) from by unfold m_X5_faultOfWord; rw [if_pos (eq_cg m2 rfl c3), if_neg (neq_cg rfl rfl c35)]).trans rfl)
    exact hret 34 _ _ dX5_faultOfWord_34 rfl (⟨trivial, hM.symm.trans hE39⟩)
  have k40 := ci_eq rfl (nI_toInt (n := 108) (by decide)) c35
  refine lv_iload_n S.1 S.2.1 dX5_faultOfWord_19 rfl (lv_at hl34 0 rfl) ?_
  refine lv_if_eq (tgt := 27) S.1 S.2.1 dX5_faultOfWord_20 (by decide) (fun c41 => absurd c41 (by decide +kernel)) (fun c41 => ?_)
  have k42 := ci_ne (nI_toInt (n := 1) (by decide)) z_ti c41
  refine lv_iconst (v := (nI 0)) S.1 S.2.1 dX5_faultOfWord_23 (by decide +kernel) ?_
  refine lv_goto (tgt := 28) S.1 S.2.1 dX5_faultOfWord_24 (by decide) ?_
  have hE43 : M = (nI 0) := hM.trans ((show m_X5_faultOfWord (AB ad F) rc p2 = (nI 0) from by unfold m_X5_faultOfWord; rw [if_pos (eq_cg m2 rfl c3), if_pos (eq_cg rfl rfl c35)]).trans rfl)
  exact hret 28 _ _ dX5_faultOfWord_28 rfl (⟨trivial, hM.symm.trans hE43⟩)
noncomputable def m_X5_readClause_41 (σ : SS) (a0 : Int32) (a1 : Int32) (a2 : Nat) : SS :=
  σ
noncomputable def m_X5_readClause_35 (σ : SS) (a0 : Int32) (a1 : Int32) (a2 : Nat) : SS :=
  σ
noncomputable def m_X5_readClause_30 (σ : SS) (a0 : Int32) (a1 : Int32) (a2 : Nat) : SS :=
  σ
noncomputable def m_X5_readClause_25 (σ : SS) (a0 : Int32) (a1 : Int32) (a2 : Nat) : SS :=
  σ
noncomputable def m_X5_readClause_18 (σ : SS) (a0 : Int32) (a1 : Int32) (a2 : Nat) : SS :=
  if a1 = (nI 108) then
    m_X5_readClause_35 (m_X5_readLimits σ a2) a0 a1 a2
  else
    if a1 = (nI 116) then
      m_X5_readClause_30 (m_X5_readTown σ a2) a0 a1 a2
    else
      m_X5_readClause_25 (m_X5_readRoad σ a2) a0 a1 a2
noncomputable def m_X5_readClause (σ : SS) (a0 : Nat) : SS :=
  if (m_X5_faultOfWord σ a0 (σ 2 (rl (σ 1 4)))) = (0 : Int32) then
    m_X5_readClause_18 (st σ 1 4 ((σ 1 4) + (nI 1))) (m_X5_faultOfWord σ a0 (σ 2 (rl (σ 1 4)))) (σ 2 (rl (σ 1 4))) a0
  else
    m_X5_readClause_41 (m_X5_blame σ (m_X5_faultOfWord σ a0 (σ 2 (rl (σ 1 4)))) (σ 1 4)) (m_X5_faultOfWord σ a0 (σ 2 (rl (σ 1 4)))) (σ 2 (rl (σ 1 4))) a0
set_option maxHeartbeats 4000000 in
set_option maxRecDepth 100000 in
theorem c_X5_readClause (l : Launch) (D : va_G) (cA ad : Nat → Nat) (t : Nat) (hI : rI ad) (F : Nat → va_E) (hW : WT cA ad F) (rc : Nat) (hrc : isC rc) (hat : fN (F 1) 4 < fN (F 1) 1) : MV l D cA ad t yX5_readClause wsX5_readClause { frames := 3, cells := 0, slots := 0, locals := 69 } [.ref (ad 1), .ref (ad rc)] F (fun F' => WT cA ad F' ∧ rFr [1, rc, rc + 1, rc + 2, rc + 3, rc + 4, rc + 5] F F' ∧ ((True) ∧ m_X5_readClause (AB ad F) rc = AB ad F')) := by
  refine en_V rfl (by decide +kernel) (Nat.le_of_ble_eq_true rfl) ?_
  intro p e s m args below meth c ls0 Q S hK hZ hP hS hl0 hret
  have hl0 : lv_has ls0 4 [(0, .ref (ad 1)), (1, .ref (ad rc))] := hl0
  have hFr : rFr [1, rc, rc + 1, rc + 2, rc + 3, rc + 4, rc + 5] F F := rFr.rf
  have hiX5 : ∀ w ∈ u_ws RX5 TX5 6, w ∈ wsX5_readClause := in_wsX5_readClause_3
  obtain ⟨M, hM⟩ : ∃ M, M = m_X5_readClause (AB ad F) rc := ⟨_, rfl⟩
  obtain ⟨n1, a1, f1, fa1, nu1, hF1, hn1, ha1⟩ := wt_text hW
  have hA2 := fN_of (k := 4) (a := a1) hF1 rfl (by omega)
  have hL2 := fN_of (k := 1) (a := n1) hF1 rfl (by omega)
  refine lv_aload_n S.1 S.2.1 dX5_readClause_0 rfl (lv_at hl0 0 rfl) ?_
  refine r_get S hK hP 1 (by decide) hF1 (C := RX5) (T := TX5) (N := 6) hiX5 rfl 0 (by decide) (am_at in_wsX5_readClause_0 0 rfl) (v := .ref (ad 2)) rfl dX5_readClause_1 ?_
  refine lv_aload_n S.1 S.2.1 dX5_readClause_4 rfl (lv_at hl0 0 rfl) ?_
  refine r_get S hK hP 1 (by decide) hF1 (C := RX5) (T := TX5) (N := 6) hiX5 rfl 4 (by decide) (am_at in_wsX5_readClause_0 1 rfl) (v := .int (nI a1)) rfl dX5_readClause_5 ?_
  have m3 : ((AB ad F) 1 4) = (nI a1) := AB_f hF1 rfl
  obtain ⟨g4, hF4⟩ := wt_let hW
  refine r_cald S hK hP 2 (by decide) hF4 (vp_in_nI (show a1 < 240 by omega) (by omega)) dX5_readClause_8 ?_
  refine lv_topi (fun v6 e6 => ?_)
  have m7 : ((AB ad F) 2 (rl ((AB ad F) 1 4))) = v6 := (ab_cg rfl m3).trans ((AB_g hF4).trans e6.symm)
  refine lv_istore_n (lv' := [(2, .int v6), (0, .ref (ad 1)), (1, .ref (ad rc))]) S.1 S.2.1 dX5_readClause_9 rfl hl0 (by decide) rfl (fun ls8 hl8 => ?_)
  refine lv_aload_n S.1 S.2.1 dX5_readClause_10 rfl (lv_at hl8 1 rfl) ?_
  refine lv_aload_n S.1 S.2.1 dX5_readClause_11 rfl (lv_at hl8 2 rfl) ?_
  refine lv_iload_n S.1 S.2.1 dX5_readClause_12 rfl (lv_at hl8 0 rfl) ?_
  refine r_cVp (As := [.ref (ad rc), .int v6]) (rest := []) S hK hZ hP hS hl8.1 1 (by decide) hF1 (C := RX5) rfl (c_X5_faultOfWord l D cA ad t hI F hW rc hrc v6) (cwV 2 S.2.2.2.2 gX5_readClause_X5_faultOfWord rfl rfl rfl (by decide +kernel) ⟨Nat.le_of_ble_eq_true rfl, Nat.le_of_ble_eq_true rfl⟩) rfl rfl (Nat.le_of_ble_eq_true rfl) ⟨Nat.zero_le _, Nat.zero_le _⟩ dX5_readClause_13 (fun r9 hr9 => ?_)
  obtain ⟨hr9, hm9⟩ := hr9
  have m10 : (m_X5_faultOfWord (AB ad F) rc ((AB ad F) 2 (rl ((AB ad F) 1 4)))) = r9 := (congr (congr (Eq.refl (m_X5_faultOfWord (AB ad F))) (Eq.refl rc)) m7).trans hm9
  refine lv_istore_n (lv' := [(3, .int r9), (2, .int v6), (0, .ref (ad 1)), (1, .ref (ad rc))]) S.1 S.2.1 dX5_readClause_16 rfl hl8 (by decide) rfl (fun ls11 hl11 => ?_)
  refine lv_iload_n S.1 S.2.1 dX5_readClause_17 rfl (lv_at hl11 0 rfl) ?_
  refine lv_if_eq (tgt := 31) S.1 S.2.1 dX5_readClause_18 (by decide) (fun c12 => ?_) (fun c12 => ?_)
  · skip
    have k13 := ci_eq rfl z_ti c12
    refine lv_aload_n S.1 S.2.1 dX5_readClause_31 rfl (lv_at hl11 2 rfl) ?_
    refine lv_dup S.1 S.2.1 dX5_readClause_32 rfl ?_
    refine r_get S hK hP 1 (by decide) hF1 (C := RX5) (T := TX5) (N := 6) hiX5 rfl 4 (by decide) (am_at in_wsX5_readClause_0 1 rfl) (v := .int (nI a1)) rfl dX5_readClause_33 ?_
    have m14 : ((AB ad F) 1 4) = (nI a1) := AB_f hF1 rfl
    refine lv_iconst (v := (nI 1)) S.1 S.2.1 dX5_readClause_36 (by decide +kernel) ?_
    refine lv_iadd S.1 S.2.1 dX5_readClause_37 ?_
    refine lv_topi (fun v15 e15 => ?_)
    obtain rfl : v15 = nI (a1 + 1) := e15.trans (nI_add _ _)
    have m16 : (((AB ad F) 1 4) + (nI 1)) = (nI (a1 + 1)) := cg2 (fun (x : Int32) (y : Int32) => x + y) m14 (Eq.refl ((nI 1) : Int32)) e15
    refine r_put S hI hK hP hS 1 (by decide) hF1 (C := RX5) (T := TX5) (N := 6) hiX5 tyX5_ok nmX5 rfl 4 (by decide) (am_at in_wsX5_readClause_0 1 rfl) rfl rfl rfl (Nat.le_of_ble_eq_true rfl) dX5_readClause_38 (fun F17 H17 locs17 eF17 hP17 hS17 => ?_)
    have hF17 : F17 1 = .inr (5, [.ref (ad 2), .int (nI n1), .int f1, .int fa1, .int (nI (a1 + 1)), .int nu1]) := by rw [eF17]; exact va_up_self _ _ _
    have hW17 := hW.up eF17 (ok_text ⟨n1, a1 + 1, f1, fa1, nu1, rfl, by omega, by omega⟩)
    have hFr17 := hFr.up eF17 (by simp <;> first | omega | (simp only [isC, isJ] at *; omega))
    have hE19 : M = m_X5_readClause_18 (AB ad F17) r9 v6 rc := hM.trans ((show m_X5_readClause (AB ad F) rc = m_X5_readClause_18 (st (AB ad F) 1 4 (((AB ad F) 1 4) + (nI 1))) (m_X5_faultOfWord (AB ad F) rc ((AB ad F) 2 (rl ((AB ad F) 1 4)))) ((AB ad F) 2 (rl ((AB ad F) 1 4))) rc from by unfold m_X5_readClause; rw [if_pos (eq_cg m10 rfl c12)]).trans (congr (congr (congr (congrArg (m_X5_readClause_18) ((st_cg rfl rfl m16).trans (AB_put hF1 (Nat.le_of_ble_eq_true rfl) eF17).symm)) m10) m7) (Eq.refl rc)))
    refine lv_iload_n S.1 S.2.1 dX5_readClause_41 rfl (lv_at hl11 1 rfl) ?_
    refine lv_bipush (v := (nI 108)) S.1 S.2.1 dX5_readClause_42 (by decide +kernel) ?_
    refine lv_icmp_ne (tgt := 55) S.1 S.2.1 dX5_readClause_44 (by decide) (fun c20 => ?_) (fun c20 => ?_)
    · skip
      have k21 := ci_ne rfl (nI_toInt (n := 108) (by decide)) c20
      refine lv_iload_n S.1 S.2.1 dX5_readClause_55 rfl (lv_at hl11 1 rfl) ?_
      refine lv_bipush (v := (nI 116)) S.1 S.2.1 dX5_readClause_56 (by decide +kernel) ?_
      refine lv_icmp_ne (tgt := 69) S.1 S.2.1 dX5_readClause_58 (by decide) (fun c22 => ?_) (fun c22 => ?_)
      · skip
        have k23 := ci_ne rfl (nI_toInt (n := 116) (by decide)) c22
        refine lv_aload_n S.1 S.2.1 dX5_readClause_69 rfl (lv_at hl11 2 rfl) ?_
        refine lv_aload_n S.1 S.2.1 dX5_readClause_70 rfl (lv_at hl11 3 rfl) ?_
        refine r_cVv (As := [.ref (ad rc)]) (rest := []) S hK hZ hP17 hS17 hl11.1 1 (by decide) hF17 (C := RX5) rfl (c_X5_readRoad l D cA ad t hI F17 hW17 rc hrc) (cwV 1 S.2.2.2.2 gX5_readClause_X5_readRoad rfl rfl rfl (by decide +kernel) ⟨Nat.le_of_ble_eq_true rfl, Nat.le_of_ble_eq_true rfl⟩) rfl rfl (Nat.le_of_ble_eq_true rfl) ⟨Nat.zero_le _, Nat.zero_le _⟩ dX5_readClause_71 (fun F24 H24 locs24 hr24 hP24 hS24 => ?_)
        obtain ⟨hW24, hFc24, hr24⟩ := hr24
        obtain ⟨hr24, hm24⟩ := hr24
        have hFr24 := hFr17.tr hFc24 (by simp <;> first | omega | (simp only [isC, isJ] at *; omega))
        have hE26 : M = m_X5_readClause_25 (AB ad F24) r9 v6 rc := hE19.trans ((show m_X5_readClause_18 (AB ad F17) r9 v6 rc = m_X5_readClause_25 (m_X5_readRoad (AB ad F17) rc) r9 v6 rc from by unfold m_X5_readClause_18; rw [if_neg (neq_cg rfl rfl c20), if_neg (neq_cg rfl rfl c22)]).trans (congr (congr (congr (congrArg (m_X5_readClause_25) ((congr (Eq.refl (m_X5_readRoad (AB ad F17))) (Eq.refl rc)).trans hm24)) (Eq.refl (r9 : Int32))) (Eq.refl (v6 : Int32))) (Eq.refl rc)))
        have hE27 : M = AB ad F24 := hE26.trans ((show m_X5_readClause_25 (AB ad F24) r9 v6 rc = (AB ad F24) from rfl).trans rfl)
        exact hret 74 _ _ _ _ dX5_readClause_74 hP24 hS24 ⟨hW24, hFr24, ⟨trivial, hM.symm.trans hE27⟩⟩
      have k28 := ci_eq rfl (nI_toInt (n := 116) (by decide)) c22
      refine lv_aload_n S.1 S.2.1 dX5_readClause_61 rfl (lv_at hl11 2 rfl) ?_
      refine lv_aload_n S.1 S.2.1 dX5_readClause_62 rfl (lv_at hl11 3 rfl) ?_
      refine r_cVv (As := [.ref (ad rc)]) (rest := []) S hK hZ hP17 hS17 hl11.1 1 (by decide) hF17 (C := RX5) rfl (c_X5_readTown l D cA ad t hI F17 hW17 rc hrc) (cwV 1 S.2.2.2.2 gX5_readClause_X5_readTown rfl rfl rfl (by decide +kernel) ⟨Nat.le_of_ble_eq_true rfl, Nat.le_of_ble_eq_true rfl⟩) rfl rfl (Nat.le_of_ble_eq_true rfl) ⟨Nat.zero_le _, Nat.zero_le _⟩ dX5_readClause_63 (fun F29 H29 locs29 hr29 hP29 hS29 => ?_)
      obtain ⟨hW29, hFc29, hr29⟩ := hr29
      obtain ⟨hr29, hm29⟩ := hr29
      have hFr29 := hFr17.tr hFc29 (by simp <;> first | omega | (simp only [isC, isJ] at *; omega))
      have hE31 : M = m_X5_readClause_30 (AB ad F29) r9 v6 rc := hE19.trans ((show m_X5_readClause_18 (AB ad F17) r9 v6 rc = m_X5_readClause_30 (m_X5_readTown (AB ad F17) rc) r9 v6 rc from by unfold m_X5_readClause_18; rw [if_neg (neq_cg rfl rfl c20), if_pos (eq_cg rfl rfl c22)]).trans (congr (congr (congr (congrArg (m_X5_readClause_30) ((congr (Eq.refl (m_X5_readTown (AB ad F17))) (Eq.refl rc)).trans hm29)) (Eq.refl (r9 : Int32))) (Eq.refl (v6 : Int32))) (Eq.refl rc)))
      refine lv_goto (tgt := 74) S.1 S.2.1 dX5_readClause_66 (by decide) ?_
      have hE32 : M = AB ad F29 := hE31.trans ((show m_X5_readClause_30 (AB ad F29) r9 v6 rc = (AB ad F29) from rfl).trans rfl)
      exact hret 74 _ _ _ _ dX5_readClause_74 hP29 hS29 ⟨hW29, hFr29, ⟨trivial, hM.symm.trans hE32⟩⟩
    have k33 := ci_eq rfl (nI_toInt (n := 108) (by decide)) c20
    refine lv_aload_n S.1 S.2.1 dX5_readClause_47 rfl (lv_at hl11 2 rfl) ?_
    refine lv_aload_n S.1 S.2.1 dX5_readClause_48 rfl (lv_at hl11 3 rfl) ?_
    refine r_cVv (As := [.ref (ad rc)]) (rest := []) S hK hZ hP17 hS17 hl11.1 1 (by decide) hF17 (C := RX5) rfl (c_X5_readLimits l D cA ad t hI F17 hW17 rc hrc) (cwV 1 S.2.2.2.2 gX5_readClause_X5_readLimits rfl rfl rfl (by decide +kernel) ⟨Nat.le_of_ble_eq_true rfl, Nat.le_of_ble_eq_true rfl⟩) rfl rfl (Nat.le_of_ble_eq_true rfl) ⟨Nat.zero_le _, Nat.zero_le _⟩ dX5_readClause_49 (fun F34 H34 locs34 hr34 hP34 hS34 => ?_)
    obtain ⟨hW34, hFc34, hr34⟩ := hr34
    obtain ⟨hr34, hm34⟩ := hr34
    have hFr34 := hFr17.tr hFc34 (by simp <;> first | omega | (simp only [isC, isJ] at *; omega))
    have hE36 : M = m_X5_readClause_35 (AB ad F34) r9 v6 rc := hE19.trans ((show m_X5_readClause_18 (AB ad F17) r9 v6 rc = m_X5_readClause_35 (m_X5_readLimits (AB ad F17) rc) r9 v6 rc from by unfold m_X5_readClause_18; rw [if_pos (eq_cg rfl rfl c20)]).trans (congr (congr (congr (congrArg (m_X5_readClause_35) ((congr (Eq.refl (m_X5_readLimits (AB ad F17))) (Eq.refl rc)).trans hm34)) (Eq.refl (r9 : Int32))) (Eq.refl (v6 : Int32))) (Eq.refl rc)))
    refine lv_goto (tgt := 74) S.1 S.2.1 dX5_readClause_52 (by decide) ?_
    have hE37 : M = AB ad F34 := hE36.trans ((show m_X5_readClause_35 (AB ad F34) r9 v6 rc = (AB ad F34) from rfl).trans rfl)
    exact hret 74 _ _ _ _ dX5_readClause_74 hP34 hS34 ⟨hW34, hFr34, ⟨trivial, hM.symm.trans hE37⟩⟩
  have k38 := ci_ne rfl z_ti c12
  refine lv_aload_n S.1 S.2.1 dX5_readClause_21 rfl (lv_at hl11 2 rfl) ?_
  refine lv_iload_n S.1 S.2.1 dX5_readClause_22 rfl (lv_at hl11 0 rfl) ?_
  refine lv_aload_n S.1 S.2.1 dX5_readClause_23 rfl (lv_at hl11 2 rfl) ?_
  refine r_get S hK hP 1 (by decide) hF1 (C := RX5) (T := TX5) (N := 6) hiX5 rfl 4 (by decide) (am_at in_wsX5_readClause_0 1 rfl) (v := .int (nI a1)) rfl dX5_readClause_24 ?_
  have m39 : ((AB ad F) 1 4) = (nI a1) := AB_f hF1 rfl
  refine r_cVv (As := [.int r9, .int (nI a1)]) (rest := []) S hK hZ hP hS hl11.1 1 (by decide) hF1 (C := RX5) rfl (c_X5_blame l D cA ad t hI F hW r9 (nI a1)) (cwV 2 S.2.2.2.2 gX5_readClause_X5_blame rfl rfl rfl (by decide +kernel) ⟨Nat.le_of_ble_eq_true rfl, Nat.le_of_ble_eq_true rfl⟩) rfl rfl (Nat.le_of_ble_eq_true rfl) ⟨Nat.zero_le _, Nat.zero_le _⟩ dX5_readClause_27 (fun F40 H40 locs40 hr40 hP40 hS40 => ?_)
  obtain ⟨hW40, hFc40, hr40⟩ := hr40
  obtain ⟨hr40, hm40⟩ := hr40
  have hFr40 := hFr.tr hFc40 (by simp <;> first | omega | (simp only [isC, isJ] at *; omega))
  have hE42 : M = m_X5_readClause_41 (AB ad F40) r9 v6 rc := hM.trans ((show m_X5_readClause (AB ad F) rc = m_X5_readClause_41 (m_X5_blame (AB ad F) (m_X5_faultOfWord (AB ad F) rc ((AB ad F) 2 (rl ((AB ad F) 1 4)))) ((AB ad F) 1 4)) (m_X5_faultOfWord (AB ad F) rc ((AB ad F) 2 (rl ((AB ad F) 1 4)))) ((AB ad F) 2 (rl ((AB ad F) 1 4))) rc from by unfold m_X5_readClause; rw [if_neg (neq_cg m10 rfl c12)]).trans (congr (congr (congr (congrArg (m_X5_readClause_41) ((congr (congr (Eq.refl (m_X5_blame (AB ad F))) m10) m39).trans hm40)) m10) m7) (Eq.refl rc)))
  have hE43 : M = AB ad F40 := hE42.trans ((show m_X5_readClause_41 (AB ad F40) r9 v6 rc = (AB ad F40) from rfl).trans rfl)
  exact hret 30 _ _ _ _ dX5_readClause_30 hP40 hS40 ⟨hW40, hFr40, ⟨trivial, hM.symm.trans hE43⟩⟩
noncomputable def m_X5_readInto_53 (k0 : SS → Int32 → Nat → SS) (σ : SS) (a0 : Int32) (a1 : Nat) : SS :=
  k0 σ (a0 + Int32.ofInt (1)) a1
noncomputable def m_X5_readInto_47 (k0 : SS → Int32 → Nat → SS) (σ : SS) (a0 : Int32) (a1 : Nat) : SS :=
  σ
noncomputable def m_X5_readInto_42 (k0 : SS → Int32 → Nat → SS) (σ : SS) (a0 : Int32) (a1 : Nat) (a2 : Int32) : SS :=
  if a2 = (0 : Int32) then
    m_X5_readInto_47 k0 (st σ 1 1 (nI 0)) a0 a1
  else
    m_X5_readInto_53 k0 (m_X5_readClause σ a1) a0 a1
noncomputable def m_X5_readInto_32 (k0 : SS → Int32 → Nat → SS) (σ : SS) (a0 : Int32) (a1 : Nat) : SS :=
  σ
noncomputable def m_X5_readInto_22 (k0 : SS → Int32 → Nat → SS) (σ : SS) (a0 : Int32) (a1 : Nat) : SS :=
  σ
noncomputable def m_X5_readInto_L21_16_b (k0 : SS → Int32 → Nat → SS) (σ : SS) (a0 : Int32) (a1 : Nat) : SS :=
  if (nI 240) ≤ a0 then
    m_X5_readInto_22 k0 (st σ 1 1 (nI 0)) a0 a1
  else
    if (σ 1 2) = (0 : Int32) then
      m_X5_readInto_42 k0 ((m_X5_skipBlanks σ)).2 a0 a1 ((m_X5_skipBlanks σ)).1
    else
      m_X5_readInto_32 k0 (st σ 1 1 (nI 0)) a0 a1
noncomputable def m_X5_readInto_L21_16 : Nat → SS → Int32 → Nat → SS
  | 0 => fun σ _ _ => σ
  | n + 1 => m_X5_readInto_L21_16_b (m_X5_readInto_L21_16 n)
noncomputable def m_X5_readInto_13 (σ : SS) (a0 : Nat) : SS :=
  m_X5_readInto_L21_16 2000 σ (nI 0) a0
noncomputable def m_X5_readInto_10 (σ : SS) (a0 : Nat) : SS :=
  m_X5_readInto_13 (st σ 1 3 ((-1) : Int32)) a0
noncomputable def m_X5_readInto_7 (σ : SS) (a0 : Nat) : SS :=
  m_X5_readInto_10 (st σ 1 2 (nI 0)) a0
noncomputable def m_X5_readInto_3 (σ : SS) (a0 : Nat) : SS :=
  m_X5_readInto_7 (st σ 1 4 (nI 0)) a0
noncomputable def m_X5_readInto (σ : SS) (a0 : Nat) : SS :=
  m_X5_readInto_3 (m_X0_clear σ a0) a0
set_option maxHeartbeats 4000000 in
set_option maxRecDepth 100000 in
theorem c_X5_readInto (l : Launch) (D : va_G) (cA ad : Nat → Nat) (t : Nat) (hI : rI ad) (F : Nat → va_E) (hW : WT cA ad F) (rc : Nat) (hrc : isC rc) : MV l D cA ad t yX5_readInto wsX5_readInto { frames := 4, cells := 0, slots := 0, locals := 92 } [.ref (ad 1), .ref (ad rc)] F (fun F' => WT cA ad F' ∧ rFr [1, rc, rc + 1, rc + 2, rc + 3, rc + 4, rc + 5] F F' ∧ ((fN (F' 1) 1 = 0) ∧ m_X5_readInto (AB ad F) rc = AB ad F')) := by
  refine en_V rfl (by decide +kernel) (Nat.le_of_ble_eq_true rfl) ?_
  intro p e s m args below meth c ls0 Q S hK hZ hP hS hl0 hret
  have hl0 : lv_has ls0 3 [(0, .ref (ad 1)), (1, .ref (ad rc))] := hl0
  have hFr : rFr [1, rc, rc + 1, rc + 2, rc + 3, rc + 4, rc + 5] F F := rFr.rf
  have hiX5 : ∀ w ∈ u_ws RX5 TX5 6, w ∈ wsX5_readInto := in_wsX5_readInto_4
  obtain ⟨M, hM⟩ : ∃ M, M = m_X5_readInto (AB ad F) rc := ⟨_, rfl⟩
  refine lv_aload_n S.1 S.2.1 dX5_readInto_0 rfl (lv_at hl0 1 rfl) ?_
  obtain ⟨sl2, fm2, tn2, rn2, bn2, hF2, hb2_1, hb2_2, hb2_3⟩ := wt_C hW hrc
  refine r_cVv (As := []) (rest := []) S hK hZ hP hS hl0.1 rc (lt_C hrc) hF2 (C := RX0) rfl (c_X0_clear l D cA ad t hI F hW rc hrc) (cwV 0 S.2.2.2.2 gX5_readInto_X0_clear rfl rfl rfl (by decide +kernel) ⟨Nat.le_of_ble_eq_true rfl, Nat.le_of_ble_eq_true rfl⟩) rfl rfl (Nat.le_of_ble_eq_true rfl) ⟨Nat.zero_le _, Nat.zero_le _⟩ dX5_readInto_1 (fun F1 H1 locs1 hr1 hP1 hS1 => ?_)
  obtain ⟨hW1, hFc1, hr1⟩ := hr1
  obtain ⟨hr1, hm1⟩ := hr1
  have hFr1 := hFr.tr hFc1 (by simp <;> first | omega | (simp only [isC, isJ] at *; omega))
  have hE4 : M = m_X5_readInto_3 (AB ad F1) rc := hM.trans ((show m_X5_readInto (AB ad F) rc = m_X5_readInto_3 (m_X0_clear (AB ad F) rc) rc from rfl).trans (congr (congrArg (m_X5_readInto_3) ((congr (Eq.refl (m_X0_clear (AB ad F))) (Eq.refl rc)).trans hm1)) (Eq.refl rc)))
  refine lv_aload_n S.1 S.2.1 dX5_readInto_4 rfl (lv_at hl0 0 rfl) ?_
  refine lv_iconst (v := (nI 0)) S.1 S.2.1 dX5_readInto_5 (by decide +kernel) ?_
  obtain ⟨n5, a5, f5, fa5, nu5, hF5, hn5, ha5⟩ := wt_text hW1
  refine r_put S hI hK hP1 hS1 1 (by decide) hF5 (C := RX5) (T := TX5) (N := 6) hiX5 tyX5_ok nmX5 rfl 4 (by decide) (am_at in_wsX5_readInto_0 0 rfl) rfl rfl rfl (Nat.le_of_ble_eq_true rfl) dX5_readInto_6 (fun F6 H6 locs6 eF6 hP6 hS6 => ?_)
  have hF6 : F6 1 = .inr (5, [.ref (ad 2), .int (nI n5), .int f5, .int fa5, .int (nI 0), .int nu5]) := by rw [eF6]; exact va_up_self _ _ _
  have hW6 := hW1.up eF6 (ok_text ⟨n5, 0, f5, fa5, nu5, rfl, by omega, by omega⟩)
  have hFr6 := hFr1.up eF6 (by simp <;> first | omega | (simp only [isC, isJ] at *; omega))
  have hE8 : M = m_X5_readInto_7 (AB ad F6) rc := hE4.trans ((show m_X5_readInto_3 (AB ad F1) rc = m_X5_readInto_7 (st (AB ad F1) 1 4 (nI 0)) rc from rfl).trans (congr (congrArg (m_X5_readInto_7) ((st_cg rfl rfl rfl).trans (AB_put hF5 (Nat.le_of_ble_eq_true rfl) eF6).symm)) (Eq.refl rc)))
  refine lv_aload_n S.1 S.2.1 dX5_readInto_9 rfl (lv_at hl0 0 rfl) ?_
  refine lv_iconst (v := (nI 0)) S.1 S.2.1 dX5_readInto_10 (by decide +kernel) ?_
  refine r_put S hI hK hP6 hS6 1 (by decide) hF6 (C := RX5) (T := TX5) (N := 6) hiX5 tyX5_ok nmX5 rfl 2 (by decide) (am_at in_wsX5_readInto_0 1 rfl) rfl rfl rfl (Nat.le_of_ble_eq_true rfl) dX5_readInto_11 (fun F9 H9 locs9 eF9 hP9 hS9 => ?_)
  have hF9 : F9 1 = .inr (5, [.ref (ad 2), .int (nI n5), .int (nI 0), .int fa5, .int (nI 0), .int nu5]) := by rw [eF9]; exact va_up_self _ _ _
  have hW9 := hW6.up eF9 (ok_text ⟨n5, 0, (nI 0), fa5, nu5, rfl, by omega, by omega⟩)
  have hFr9 := hFr6.up eF9 (by simp <;> first | omega | (simp only [isC, isJ] at *; omega))
  have hE11 : M = m_X5_readInto_10 (AB ad F9) rc := hE8.trans ((show m_X5_readInto_7 (AB ad F6) rc = m_X5_readInto_10 (st (AB ad F6) 1 2 (nI 0)) rc from rfl).trans (congr (congrArg (m_X5_readInto_10) ((st_cg rfl rfl rfl).trans (AB_put hF6 (Nat.le_of_ble_eq_true rfl) eF9).symm)) (Eq.refl rc)))
  refine lv_aload_n S.1 S.2.1 dX5_readInto_14 rfl (lv_at hl0 0 rfl) ?_
  refine lv_iconst (v := (-1)) S.1 S.2.1 dX5_readInto_15 (by decide +kernel) ?_
  refine r_put S hI hK hP9 hS9 1 (by decide) hF9 (C := RX5) (T := TX5) (N := 6) hiX5 tyX5_ok nmX5 rfl 3 (by decide) (am_at in_wsX5_readInto_0 2 rfl) rfl rfl rfl (Nat.le_of_ble_eq_true rfl) dX5_readInto_16 (fun F12 H12 locs12 eF12 hP12 hS12 => ?_)
  have hF12 : F12 1 = .inr (5, [.ref (ad 2), .int (nI n5), .int (nI 0), .int (-1), .int (nI 0), .int nu5]) := by rw [eF12]; exact va_up_self _ _ _
  have hW12 := hW9.up eF12 (ok_text ⟨n5, 0, (nI 0), (-1), nu5, rfl, by omega, by omega⟩)
  have hFr12 := hFr9.up eF12 (by simp <;> first | omega | (simp only [isC, isJ] at *; omega))
  have hE14 : M = m_X5_readInto_13 (AB ad F12) rc := hE11.trans ((show m_X5_readInto_10 (AB ad F9) rc = m_X5_readInto_13 (st (AB ad F9) 1 3 ((-1) : Int32)) rc from rfl).trans (congr (congrArg (m_X5_readInto_13) ((st_cg rfl rfl rfl).trans (AB_put hF9 (Nat.le_of_ble_eq_true rfl) eF12).symm)) (Eq.refl rc)))
  refine lv_iconst (v := (nI 0)) S.1 S.2.1 dX5_readInto_19 (by decide +kernel) ?_
  refine lv_istore_n (lv' := [(2, .int (nI 0)), (0, .ref (ad 1)), (1, .ref (ad rc))]) S.1 S.2.1 dX5_readInto_20 rfl hl0 (by decide) rfl (fun ls15 hl15 => ?_)
  have lp16 : ∀ (n16 : Nat) (q216 : Nat), ∀ (Fl16 : Nat → va_E) (Hl16 : Heap) (lol16 : List Loc), q216 ≤ 240 → 240 - q216 < n16 → WT cA ad Fl16 → rFr [1, rc, rc + 1, rc + 2, rc + 3, rc + 4, rc + 5] F Fl16 → va_P D vwCl (rW ad Fl16) Hl16 → va_S (rA ad) s.heap Hl16 lol16 → M = m_X5_readInto_L21_16 n16 (AB ad Fl16) (nI q216) rc → ∀ (ls : Array Slot), lv_has ls 3 [(2, .int (nI q216)), (0, .ref (ad 1)), (1, .ref (ad rc))] → W p l e { frames := 4, cells := 0, slots := 0, locals := 92 } s m args below meth c Hl16 lol16 0 0 Q (F0 m 21 ls []) := by
    intro n16
    induction n16 with
    | zero =>
      intro q216 Fl16 Hl16 lol16 iv16_0 hm16 hWl16 hFl16 hPl16 hSl16 hEl16 ls16 hl16
      exact absurd hm16 (Nat.not_lt_zero _)
    | succ n16 ih16 =>
      intro q216 Fl16 Hl16 lol16 iv16_0 hm16 hWl16 hFl16 hPl16 hSl16 hEl16 ls16 hl16
      have hE17 : M = m_X5_readInto_L21_16_b (m_X5_readInto_L21_16 n16) (AB ad Fl16) (nI q216) rc := hEl16
      refine lv_iload_n S.1 S.2.1 dX5_readInto_21 rfl (lv_at hl16 0 rfl) ?_
      refine lv_sipush (v := (nI 240)) S.1 S.2.1 dX5_readInto_22 (by decide +kernel) ?_
      refine lv_icmp_ge (tgt := 53) S.1 S.2.1 dX5_readInto_25 (by decide) (fun c18 => ?_) (fun c18 => ?_)
      · skip
        have k19 := ci_le (nI_toInt (n := 240) (by decide)) (nI_toInt (n := q216) (by omega)) c18
        refine lv_aload_n S.1 S.2.1 dX5_readInto_53 rfl (lv_at hl16 1 rfl) ?_
        refine lv_iconst (v := (nI 0)) S.1 S.2.1 dX5_readInto_54 (by decide +kernel) ?_
        obtain ⟨n20, a20, f20, fa20, nu20, hF20, hn20, ha20⟩ := wt_text hWl16
        refine r_put S hI hK hPl16 hSl16 1 (by decide) hF20 (C := RX5) (T := TX5) (N := 6) hiX5 tyX5_ok nmX5 rfl 1 (by decide) (am_at in_wsX5_readInto_0 3 rfl) rfl rfl rfl (Nat.le_of_ble_eq_true rfl) dX5_readInto_55 (fun F21 H21 locs21 eF21 hP21 hS21 => ?_)
        have hF21 : F21 1 = .inr (5, [.ref (ad 2), .int (nI 0), .int f20, .int fa20, .int (nI a20), .int nu20]) := by rw [eF21]; exact va_up_self _ _ _
        have hW21 := hWl16.up eF21 (ok_text ⟨0, a20, f20, fa20, nu20, rfl, by omega, by omega⟩)
        have hFr21 := hFl16.up eF21 (by simp <;> first | omega | (simp only [isC, isJ] at *; omega))
        have hE23 : M = m_X5_readInto_22 (m_X5_readInto_L21_16 n16) (AB ad F21) (nI q216) rc := hE17.trans ((show m_X5_readInto_L21_16_b (m_X5_readInto_L21_16 n16) (AB ad Fl16) (nI q216) rc = m_X5_readInto_22 (m_X5_readInto_L21_16 n16) (st (AB ad Fl16) 1 1 (nI 0)) (nI q216) rc from by unfold m_X5_readInto_L21_16_b; rw [if_pos (le_cg rfl rfl c18)]).trans (congr (congr (congrArg (m_X5_readInto_22 (m_X5_readInto_L21_16 n16)) ((st_cg rfl rfl rfl).trans (AB_put hF20 (Nat.le_of_ble_eq_true rfl) eF21).symm)) (Eq.refl ((nI q216) : Int32))) (Eq.refl rc)))
        have hA24 := fN_of (k := 4) (a := a20) hF21 rfl (by omega)
        have hL24 := fN_of (k := 1) (a := 0) hF21 rfl (by omega)
        have hE25 : M = AB ad F21 := hE23.trans ((show m_X5_readInto_22 (m_X5_readInto_L21_16 n16) (AB ad F21) (nI q216) rc = (AB ad F21) from rfl).trans rfl)
        exact hret 58 _ _ _ _ dX5_readInto_58 hP21 hS21 ⟨hW21, hFr21, ⟨by omega, hM.symm.trans hE25⟩⟩
      have k26 := ci_nle (nI_toInt (n := 240) (by decide)) (nI_toInt (n := q216) (by omega)) c18
      refine lv_aload_n S.1 S.2.1 dX5_readInto_28 rfl (lv_at hl16 1 rfl) ?_
      obtain ⟨n27, a27, f27, fa27, nu27, hF27, hn27, ha27⟩ := wt_text hWl16
      refine r_get S hK hPl16 1 (by decide) hF27 (C := RX5) (T := TX5) (N := 6) hiX5 rfl 2 (by decide) (am_at in_wsX5_readInto_0 1 rfl) (v := .int f27) rfl dX5_readInto_29 ?_
      have m28 : ((AB ad Fl16) 1 2) = f27 := AB_f hF27 rfl
      refine lv_if_ne (tgt := 53) S.1 S.2.1 dX5_readInto_32 (by decide) (fun c29 => ?_) (fun c29 => ?_)
      · skip
        have k30 := ci_ne rfl z_ti c29
        refine lv_aload_n S.1 S.2.1 dX5_readInto_53 rfl (lv_at hl16 1 rfl) ?_
        refine lv_iconst (v := (nI 0)) S.1 S.2.1 dX5_readInto_54 (by decide +kernel) ?_
        refine r_put S hI hK hPl16 hSl16 1 (by decide) hF27 (C := RX5) (T := TX5) (N := 6) hiX5 tyX5_ok nmX5 rfl 1 (by decide) (am_at in_wsX5_readInto_0 3 rfl) rfl rfl rfl (Nat.le_of_ble_eq_true rfl) dX5_readInto_55 (fun F31 H31 locs31 eF31 hP31 hS31 => ?_)
        have hF31 : F31 1 = .inr (5, [.ref (ad 2), .int (nI 0), .int f27, .int fa27, .int (nI a27), .int nu27]) := by rw [eF31]; exact va_up_self _ _ _
        have hW31 := hWl16.up eF31 (ok_text ⟨0, a27, f27, fa27, nu27, rfl, by omega, by omega⟩)
        have hFr31 := hFl16.up eF31 (by simp <;> first | omega | (simp only [isC, isJ] at *; omega))
        have hE33 : M = m_X5_readInto_32 (m_X5_readInto_L21_16 n16) (AB ad F31) (nI q216) rc := hE17.trans ((show m_X5_readInto_L21_16_b (m_X5_readInto_L21_16 n16) (AB ad Fl16) (nI q216) rc = m_X5_readInto_32 (m_X5_readInto_L21_16 n16) (st (AB ad Fl16) 1 1 (nI 0)) (nI q216) rc from by unfold m_X5_readInto_L21_16_b; rw [if_neg (nle_cg rfl rfl c18), if_neg (neq_cg m28 rfl c29)]).trans (congr (congr (congrArg (m_X5_readInto_32 (m_X5_readInto_L21_16 n16)) ((st_cg rfl rfl rfl).trans (AB_put hF27 (Nat.le_of_ble_eq_true rfl) eF31).symm)) (Eq.refl ((nI q216) : Int32))) (Eq.refl rc)))
        have hA34 := fN_of (k := 4) (a := a27) hF31 rfl (by omega)
        have hL34 := fN_of (k := 1) (a := 0) hF31 rfl (by omega)
        have hE35 : M = AB ad F31 := hE33.trans ((show m_X5_readInto_32 (m_X5_readInto_L21_16 n16) (AB ad F31) (nI q216) rc = (AB ad F31) from rfl).trans rfl)
        exact hret 58 _ _ _ _ dX5_readInto_58 hP31 hS31 ⟨hW31, hFr31, ⟨by omega, hM.symm.trans hE35⟩⟩
      have k36 := ci_eq rfl z_ti c29
      refine lv_aload_n S.1 S.2.1 dX5_readInto_35 rfl (lv_at hl16 1 rfl) ?_
      refine r_cVi (As := []) (rest := []) S hK hZ hPl16 hSl16 hl16.1 1 (by decide) hF27 (C := RX5) rfl (c_X5_skipBlanks l D cA ad t hI Fl16 hWl16 ) (cwV 0 S.2.2.2.2 gX5_readInto_X5_skipBlanks rfl rfl rfl (by decide +kernel) ⟨Nat.le_of_ble_eq_true rfl, Nat.le_of_ble_eq_true rfl⟩) rfl rfl (Nat.le_of_ble_eq_true rfl) ⟨Nat.zero_le _, Nat.zero_le _⟩ dX5_readInto_36 (fun r37 F37 H37 locs37 hr37 hP37 hS37 => ?_)
      obtain ⟨hW37, hFc37, hr37⟩ := hr37
      obtain ⟨hr37, hm37⟩ := hr37
      have hFr37 := hFl16.tr hFc37 (by simp <;> first | omega | (simp only [isC, isJ] at *; omega))
      obtain ⟨⟨b38, hb38, rfl⟩, hx38⟩ := hr37
      obtain ⟨n39, a39, f39, fa39, nu39, hF39, hn39, ha39⟩ := wt_text hW37
      have hA40 := fN_of (k := 4) (a := a39) hF39 rfl (by omega)
      have hL40 := fN_of (k := 1) (a := n39) hF39 rfl (by omega)
      have hy38 : b38 ≠ 0 → a39 < n39 := fun q => by have := hx38 (nI_ne0 (by omega) (by omega)); omega
      have mc41 : (m_X5_skipBlanks (AB ad Fl16)) = ((nI b38), AB ad F37) := (Eq.refl (m_X5_skipBlanks (AB ad Fl16))).trans hm37
      have hE43 : M = m_X5_readInto_42 (m_X5_readInto_L21_16 n16) (AB ad F37) (nI q216) rc (nI b38) := hE17.trans ((show m_X5_readInto_L21_16_b (m_X5_readInto_L21_16 n16) (AB ad Fl16) (nI q216) rc = m_X5_readInto_42 (m_X5_readInto_L21_16 n16) ((m_X5_skipBlanks (AB ad Fl16))).2 (nI q216) rc ((m_X5_skipBlanks (AB ad Fl16))).1 from by unfold m_X5_readInto_L21_16_b; rw [if_neg (nle_cg rfl rfl c18), if_pos (eq_cg m28 rfl c29)]).trans (congr (congr (congr (congrArg (m_X5_readInto_42 (m_X5_readInto_L21_16 n16)) (congrArg Prod.snd mc41)) (Eq.refl ((nI q216) : Int32))) (Eq.refl rc)) (congrArg Prod.fst mc41)))
      refine lv_if_eq (tgt := 53) S.1 S.2.1 dX5_readInto_39 (by decide) (fun c44 => ?_) (fun c44 => ?_)
      · skip
        have k45 := ci_eq (nI_toInt (n := b38) (Nat.lt_of_le_of_lt hb38 (by decide))) z_ti c44
        refine lv_aload_n S.1 S.2.1 dX5_readInto_53 rfl (lv_at hl16 1 rfl) ?_
        refine lv_iconst (v := (nI 0)) S.1 S.2.1 dX5_readInto_54 (by decide +kernel) ?_
        refine r_put S hI hK hP37 hS37 1 (by decide) hF39 (C := RX5) (T := TX5) (N := 6) hiX5 tyX5_ok nmX5 rfl 1 (by decide) (am_at in_wsX5_readInto_0 3 rfl) rfl rfl rfl (Nat.le_of_ble_eq_true rfl) dX5_readInto_55 (fun F46 H46 locs46 eF46 hP46 hS46 => ?_)
        have hF46 : F46 1 = .inr (5, [.ref (ad 2), .int (nI 0), .int f39, .int fa39, .int (nI a39), .int nu39]) := by rw [eF46]; exact va_up_self _ _ _
        have hW46 := hW37.up eF46 (ok_text ⟨0, a39, f39, fa39, nu39, rfl, by omega, by omega⟩)
        have hFr46 := hFr37.up eF46 (by simp <;> first | omega | (simp only [isC, isJ] at *; omega))
        have hE48 : M = m_X5_readInto_47 (m_X5_readInto_L21_16 n16) (AB ad F46) (nI q216) rc := hE43.trans ((show m_X5_readInto_42 (m_X5_readInto_L21_16 n16) (AB ad F37) (nI q216) rc (nI b38) = m_X5_readInto_47 (m_X5_readInto_L21_16 n16) (st (AB ad F37) 1 1 (nI 0)) (nI q216) rc from by unfold m_X5_readInto_42; rw [if_pos (eq_cg rfl rfl c44)]).trans (congr (congr (congrArg (m_X5_readInto_47 (m_X5_readInto_L21_16 n16)) ((st_cg rfl rfl rfl).trans (AB_put hF39 (Nat.le_of_ble_eq_true rfl) eF46).symm)) (Eq.refl ((nI q216) : Int32))) (Eq.refl rc)))
        have hA49 := fN_of (k := 4) (a := a39) hF46 rfl (by omega)
        have hL49 := fN_of (k := 1) (a := 0) hF46 rfl (by omega)
        have hE50 : M = AB ad F46 := hE48.trans ((show m_X5_readInto_47 (m_X5_readInto_L21_16 n16) (AB ad F46) (nI q216) rc = (AB ad F46) from rfl).trans rfl)
        exact hret 58 _ _ _ _ dX5_readInto_58 hP46 hS46 ⟨hW46, hFr46, ⟨by omega, hM.symm.trans hE50⟩⟩
      have k51 := ci_ne (nI_toInt (n := b38) (Nat.lt_of_le_of_lt hb38 (by decide))) z_ti c44
      refine lv_aload_n S.1 S.2.1 dX5_readInto_42 rfl (lv_at hl16 1 rfl) ?_
      refine lv_aload_n S.1 S.2.1 dX5_readInto_43 rfl (lv_at hl16 2 rfl) ?_
      refine r_cVv (As := [.ref (ad rc)]) (rest := []) S hK hZ hP37 hS37 hl16.1 1 (by decide) hF39 (C := RX5) rfl (c_X5_readClause l D cA ad t hI F37 hW37 rc hrc (hx38 (nI_ne0 (by omega) (by omega)))) (cwV 1 S.2.2.2.2 gX5_readInto_X5_readClause rfl rfl rfl (by decide +kernel) ⟨Nat.le_of_ble_eq_true rfl, Nat.le_of_ble_eq_true rfl⟩) rfl rfl (Nat.le_of_ble_eq_true rfl) ⟨Nat.zero_le _, Nat.zero_le _⟩ dX5_readInto_44 (fun F52 H52 locs52 hr52 hP52 hS52 => ?_)
      obtain ⟨hW52, hFc52, hr52⟩ := hr52
      obtain ⟨hr52, hm52⟩ := hr52
      have hFr52 := hFr37.tr hFc52 (by simp <;> first | omega | (simp only [isC, isJ] at *; omega))
      have hE54 : M = m_X5_readInto_53 (m_X5_readInto_L21_16 n16) (AB ad F52) (nI q216) rc := hE43.trans ((show m_X5_readInto_42 (m_X5_readInto_L21_16 n16) (AB ad F37) (nI q216) rc (nI b38) = m_X5_readInto_53 (m_X5_readInto_L21_16 n16) (m_X5_readClause (AB ad F37) rc) (nI q216) rc from by unfold m_X5_readInto_42; rw [if_neg (neq_cg rfl rfl c44)]).trans (congr (congr (congrArg (m_X5_readInto_53 (m_X5_readInto_L21_16 n16)) ((congr (Eq.refl (m_X5_readClause (AB ad F37))) (Eq.refl rc)).trans hm52)) (Eq.refl ((nI q216) : Int32))) (Eq.refl rc)))
      have m56 : ((nI q216) + Int32.ofInt (1)) = (nI (q216 + 1)) := (congrArg (fun q : Int32 => q + Int32.ofInt (1)) rfl).trans (nI_add _ 1)
      refine lv_iinc (v := (nI (q216 + 1))) (lv' := [(2, .int (nI (q216 + 1))), (0, .ref (ad 1)), (1, .ref (ad rc))]) S.1 S.2.1 dX5_readInto_47 hl16 (k := 0) rfl (nI_add _ 1) (by decide) rfl (fun ls55 hl55 => ?_)
      refine lv_goto (tgt := 21) S.1 S.2.1 dX5_readInto_50 (by decide) ?_
      have hE57 : M = (m_X5_readInto_L21_16 n16) (AB ad F52) (nI (q216 + 1)) rc := hE54.trans ((show m_X5_readInto_53 (m_X5_readInto_L21_16 n16) (AB ad F52) (nI q216) rc = (m_X5_readInto_L21_16 n16) (AB ad F52) ((nI q216) + Int32.ofInt (1)) rc from rfl).trans (congr (congr (congrArg ((m_X5_readInto_L21_16 n16)) (rfl : AB ad F52 = AB ad F52)) m56) (Eq.refl rc)))
      exact ih16 (q216 + 1) F52 H52 locs52 (by omega) (by omega) hW52 hFr52 hP52 hS52 hE57 ls55 (lv_sub hl55 [0, 1, 2] rfl)
  have hE58 : M = m_X5_readInto_L21_16 2000 (AB ad F12) (nI 0) rc := hE14.trans ((show m_X5_readInto_13 (AB ad F12) rc = m_X5_readInto_L21_16 2000 (AB ad F12) (nI 0) rc from rfl).trans (congr (congr (congrArg (m_X5_readInto_L21_16 2000) (rfl : AB ad F12 = AB ad F12)) (Eq.refl ((nI 0) : Int32))) (Eq.refl rc)))
  exact lp16 2000 (0) F12 H12 locs12 (by omega) (by omega) hW12 hFr12 hP12 hS12 hE58 ls15 (lv_sub hl15 [0, 1, 2] rfl)
