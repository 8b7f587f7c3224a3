noncomputable def m_X7_cannotGoOn (σ : SS) : Int32 :=
  if (σ (rl (σ 0 11)) 2) = (0 : Int32) then
    (nI 1)
  else
    if (σ 3 6) = (0 : Int32) then
      (nI 0)
    else
      (nI 1)
set_option maxHeartbeats 4000000 in
set_option maxRecDepth 100000 in
theorem c_X7_cannotGoOn (l : Launch) (D : va_G) (cA ad : Nat → Nat) (t : Nat) (hI : rI ad) (F : Nat → va_E) (hW : WT cA ad F) : MP l D cA ad t yX7_cannotGoOn wsX7_cannotGoOn { frames := 0, cells := 0, slots := 0, locals := 0 } [.ref (ad 0)] F (fun r => (le32 1 r) ∧ m_X7_cannotGoOn (AB ad F) = r) := by
  refine en_P rfl (by decide +kernel) (Nat.le_of_ble_eq_true rfl) ?_
  intro p e s m args below meth c ls0 Q S hK hZ hP hS hl0 hret
  have hl0 : lv_has ls0 1 [(0, .ref (ad 0))] := hl0
  have hiX0 : ∀ w ∈ u_ws RX0 TX0 10, w ∈ wsX7_cannotGoOn := in_wsX7_cannotGoOn_2
  have hiX1 : ∀ w ∈ u_ws RX1 TX1 7, w ∈ wsX7_cannotGoOn := in_wsX7_cannotGoOn_3
  have hiX7 : ∀ w ∈ u_ws RX7 TX7 15, w ∈ wsX7_cannotGoOn := in_wsX7_cannotGoOn_1
  obtain ⟨M, hM⟩ : ∃ M, M = m_X7_cannotGoOn (AB ad F) := ⟨_, rfl⟩
  refine lv_aload_n S.1 S.2.1 dX7_cannotGoOn_0 rfl (lv_at hl0 0 rfl) ?_
  obtain ⟨c1, d1, k1, dr1, hF1, hc1, hd1, hk1⟩ := wt_main hW
  refine r_get S hK hP 0 (by decide) hF1 (C := RX7) (T := TX7) (N := 15) hiX7 rfl 11 (by decide) (am_at in_wsX7_cannotGoOn_0 0 rfl) (v := .ref (ad c1)) rfl dX7_cannotGoOn_1 ?_
  have m2 : (rl ((AB ad F) 0 11)) = c1 := AB_r hI (lt_C hc1) hF1 rfl
  obtain ⟨sl3, fm3, tn3, rn3, bn3, hF3, hb3_1, hb3_2, hb3_3⟩ := wt_C hW hc1
  refine r_get S hK hP c1 (lt_C hc1) hF3 (C := RX0) (T := TX0) (N := 10) hiX0 rfl 2 (by decide) (am_at in_wsX7_cannotGoOn_0 1 rfl) (v := .int (nI tn3)) rfl dX7_cannotGoOn_4 ?_
  have m4 : ((AB ad F) (rl ((AB ad F) 0 11)) 2) = (nI tn3) := (congrArg (fun q => AB ad F q 2) m2).trans (AB_f hF3 rfl)
  refine lv_if_eq (tgt := 20) S.1 S.2.1 dX7_cannotGoOn_7 (by decide) (fun c5 => ?_) (fun c5 => ?_)
  · skip
    have k6 := ci_eq (nI_toInt (n := tn3) (by omega)) z_ti c5
    refine lv_iconst (v := (nI 1)) S.1 S.2.1 dX7_cannotGoOn_20 (by decide +kernel) ?_
    refine lv_goto (tgt := 25) S.1 S.2.1 dX7_cannotGoOn_21 (by decide) ?_
    have hE7 : M = (nI 1) := hM.trans ((show m_X7_cannotGoOn (AB ad F) = (nI 1) from by unfold m_X7_cannotGoOn; rw [if_pos (eq_cg m4 rfl c5)]).trans rfl)
    exact hret 25 _ _ dX7_cannotGoOn_25 rfl (⟨⟨1, by omega, rfl⟩, hM.symm.trans hE7⟩)
  have k8 := ci_ne (nI_toInt (n := tn3) (by omega)) z_ti c5
  refine lv_aload_n S.1 S.2.1 dX7_cannotGoOn_10 rfl (lv_at hl0 0 rfl) ?_
  refine r_get S hK hP 0 (by decide) hF1 (C := RX7) (T := TX7) (N := 15) hiX7 rfl 1 (by decide) (am_at in_wsX7_cannotGoOn_0 2 rfl) (v := .ref (ad 3)) rfl dX7_cannotGoOn_11 ?_
  obtain ⟨ja9, jb9, jc9, jd9, jx9, jy9, jk9, hF9, hk9⟩ := wt_J hW (show isJ 3 from Or.inl rfl)
  refine r_get S hK hP 3 (by decide) hF9 (C := RX1) (T := TX1) (N := 7) hiX1 rfl 6 (by decide) (am_at in_wsX7_cannotGoOn_0 3 rfl) (v := .int (nI jk9)) rfl dX7_cannotGoOn_14 ?_
  have m10 : ((AB ad F) 3 6) = (nI jk9) := AB_f hF9 rfl
  refine lv_if_eq (tgt := 24) S.1 S.2.1 dX7_cannotGoOn_17 (by decide) (fun c11 => ?_) (fun c11 => ?_)
  · skip
    have k12 := ci_eq (nI_toInt (n := jk9) (by omega)) z_ti c11
    refine lv_iconst (v := (nI 0)) S.1 S.2.1 dX7_cannotGoOn_24 (by decide +kernel) ?_
    have hE13 : M = (nI 0) := hM.trans ((show m_X7_cannotGoOn (AB ad F) = (nI 0) from by unfold m_X7_cannotGoOn; rw [if_neg (neq_cg m4 rfl c5), if_pos (eq_cg m10 rfl c11)]).trans rfl)
    exact hret 25 _ _ dX7_cannotGoOn_25 rfl (⟨⟨0, by omega, rfl⟩, hM.symm.trans hE13⟩)
  have k14 := ci_ne (nI_toInt (n := jk9) (by omega)) z_ti c11
  refine lv_iconst (v := (nI 1)) S.1 S.2.1 dX7_cannotGoOn_20 (by decide +kernel) ?_
  refine lv_goto (tgt := 25) S.1 S.2.1 dX7_cannotGoOn_21 (by decide) ?_
  have hE15 : M = (nI 1) := hM.trans ((show m_X7_cannotGoOn (AB ad F) = (nI 1) from by unfold m_X7_cannotGoOn; rw [if_neg (neq_cg m4 rfl c5), if_neg (neq_cg m10 rfl c11)]).trans rfl)
  exact hret 25 _ _ dX7_cannotGoOn_25 rfl (⟨⟨1, by omega, rfl⟩, hM.symm.trans hE15⟩)
noncomputable def m_X7_draw_14 (σ : SS) (a0 : Int32) : Int32 × SS :=
  if a0 ≤ (0 : Int32) then
    ((nI 0), σ)
  else
    ((irm ((σ 0 14) / (65536)) a0), σ)
noncomputable def m_X7_draw (σ : SS) (a0 : Int32) : Int32 × SS :=
  m_X7_draw_14 (st σ 0 14 ((((((σ 0 14).toInt64) * ((1103515245) : Int64)) + ((12345) : Int64)) &&& ((2147483647) : Int64)).toInt32)) a0
set_option maxHeartbeats 4000000 in
set_option maxRecDepth 100000 in
theorem c_X7_draw (l : Launch) (D : va_G) (cA ad : Nat → Nat) (t : Nat) (hI : rI ad) (F : Nat → va_E) (hW : WT cA ad F) (p1 : Int32) : MI l D cA ad t yX7_draw wsX7_draw { frames := 0, cells := 0, slots := 0, locals := 0 } [.ref (ad 0), .int p1] F (fun r F' => WT cA ad F' ∧ rFr [0] F F' ∧ ((True) ∧ m_X7_draw (AB ad F) p1 = (r, AB ad F'))) := by
  refine en_I rfl (by decide +kernel) (Nat.le_of_ble_eq_true rfl) ?_
  intro p e s m args below meth c ls0 Q S hK hZ hP hS hl0 hret
  have hl0 : lv_has ls0 2 [(0, .ref (ad 0)), (1, .int p1)] := hl0
  have hFr : rFr [0] F F := rFr.rf
  have hiX7 : ∀ w ∈ u_ws RX7 TX7 15, w ∈ wsX7_draw := in_wsX7_draw_1
  obtain ⟨M, hM⟩ : ∃ M, M = m_X7_draw (AB ad F) p1 := ⟨_, rfl⟩
  refine lv_aload_n S.1 S.2.1 dX7_draw_0 rfl (lv_at hl0 0 rfl) ?_
  refine lv_aload_n S.1 S.2.1 dX7_draw_1 rfl (lv_at hl0 0 rfl) ?_
  obtain ⟨c1, d1, k1, dr1, hF1, hc1, hd1, hk1⟩ := wt_main hW
  refine r_get S hK hP 0 (by decide) hF1 (C := RX7) (T := TX7) (N := 15) hiX7 rfl 14 (by decide) (am_at in_wsX7_draw_0 0 rfl) (v := .int dr1) rfl dX7_draw_2 ?_
  have m2 : ((AB ad F) 0 14) = dr1 := AB_f hF1 rfl
  refine lv_i2l S.1 S.2.1 dX7_draw_5 rfl ?_
  refine lv_topl (fun v3 e3 => ?_)
  have m4 : (((AB ad F) 0 14).toInt64) = v3 := cg1 (fun x : Int32 => x.toInt64) m2 e3
  refine lv_ldc2 (v := 1103515245) S.1 S.2.1 S.2.2.2.1 (S.2.2.2.2 (.constantLong RX7 264 (1103515245)) (am_at in_wsX7_draw_0 1 rfl)) dX7_draw_6 ?_
  refine lv_lmul S.1 S.2.1 dX7_draw_9 ?_
  refine lv_topl (fun v5 e5 => ?_)
  have m6 : ((((AB ad F) 0 14).toInt64) * ((1103515245) : Int64)) = v5 := cg2 (fun (x : Int64) (y : Int64) => x * y) m4 (Eq.refl ((1103515245) : Int64)) e5
  refine lv_ldc2 (v := 12345) S.1 S.2.1 S.2.2.2.1 (S.2.2.2.2 (.constantLong RX7 266 (12345)) (am_at in_wsX7_draw_0 2 rfl)) dX7_draw_10 ?_
  refine lv_ladd S.1 S.2.1 dX7_draw_13 ?_
  refine lv_topl (fun v7 e7 => ?_)
  have m8 : (((((AB ad F) 0 14).toInt64) * ((1103515245) : Int64)) + ((12345) : Int64)) = v7 := cg2 (fun (x : Int64) (y : Int64) => x + y) m6 (Eq.refl ((12345) : Int64)) e7
  refine lv_ldc2 (v := 2147483647) S.1 S.2.1 S.2.2.2.1 (S.2.2.2.2 (.constantLong RX7 268 (2147483647)) (am_at in_wsX7_draw_0 3 rfl)) dX7_draw_14 ?_
  refine lv_land S.1 S.2.1 dX7_draw_17 ?_
  refine lv_topl (fun v9 e9 => ?_)
  have m10 : ((((((AB ad F) 0 14).toInt64) * ((1103515245) : Int64)) + ((12345) : Int64)) &&& ((2147483647) : Int64)) = v9 := cg2 (fun (x : Int64) (y : Int64) => x &&& y) m8 (Eq.refl ((2147483647) : Int64)) e9
  refine lv_l2i S.1 S.2.1 dX7_draw_18 rfl ?_
  refine lv_topi (fun v11 e11 => ?_)
  have m12 : (((((((AB ad F) 0 14).toInt64) * ((1103515245) : Int64)) + ((12345) : Int64)) &&& ((2147483647) : Int64)).toInt32) = v11 := cg1 (fun x : Int64 => x.toInt32) m10 e11
  refine r_put S hI hK hP hS 0 (by decide) hF1 (C := RX7) (T := TX7) (N := 15) hiX7 tyX7_ok nmX7 rfl 14 (by decide) (am_at in_wsX7_draw_0 0 rfl) rfl rfl rfl (Nat.le_of_ble_eq_true rfl) dX7_draw_19 (fun F13 H13 locs13 eF13 hP13 hS13 => ?_)
  have hF13 : F13 0 = .inr (7, [.ref (ad 1), .ref (ad 3), .ref (ad 4), .ref (ad 26), .ref (ad 30), .ref (ad 33), .ref (ad 39), .ref (ad 42), .ref (ad 43), .ref (ad 44), .ref (ad 45), .ref (ad c1), .ref (ad d1), .int (nI k1), .int v11]) := by rw [eF13]; exact va_up_self _ _ _
  have hW13 := hW.up eF13 (ok_main ⟨c1, d1, k1, v11, rfl, hc1, hd1, by omega⟩)
  have hFr13 := hFr.up eF13 (by simp <;> first | omega | (simp only [isC, isJ] at *; omega))
  have hE15 : M = m_X7_draw_14 (AB ad F13) p1 := hM.trans ((show m_X7_draw (AB ad F) p1 = m_X7_draw_14 (st (AB ad F) 0 14 (((((((AB ad F) 0 14).toInt64) * ((1103515245) : Int64)) + ((12345) : Int64)) &&& ((2147483647) : Int64)).toInt32)) p1 from rfl).trans (congr (congrArg (m_X7_draw_14) ((st_cg rfl rfl m12).trans (AB_put hF1 (Nat.le_of_ble_eq_true rfl) eF13).symm)) (Eq.refl (p1 : Int32))))
  refine lv_iload_n S.1 S.2.1 dX7_draw_22 rfl (lv_at hl0 1 rfl) ?_
  refine lv_if_le (tgt := 39) S.1 S.2.1 dX7_draw_23 (by decide) (fun c16 => ?_) (fun c16 => ?_)
  · skip
    have k17 := ci_le rfl z_ti c16
    refine lv_iconst (v := (nI 0)) S.1 S.2.1 dX7_draw_39 (by decide +kernel) ?_
    have hE18 : M = ((nI 0), AB ad F13) := hE15.trans ((show m_X7_draw_14 (AB ad F13) p1 = ((nI 0), (AB ad F13)) from by unfold m_X7_draw_14; rw [if_pos (le_cg rfl rfl c16)]).trans (congrArg (fun q => (q, AB ad F13)) rfl))
    exact hret 40 _ _ _ _ _ dX7_draw_40 rfl hP13 hS13 ⟨hW13, hFr13, ⟨trivial, hM.symm.trans hE18⟩⟩
  have k19 := ci_nle rfl z_ti c16
  refine lv_aload_n S.1 S.2.1 dX7_draw_26 rfl (lv_at hl0 0 rfl) ?_
  refine r_get S hK hP13 0 (by decide) hF13 (C := RX7) (T := TX7) (N := 15) hiX7 rfl 14 (by decide) (am_at in_wsX7_draw_0 0 rfl) (v := .int v11) rfl dX7_draw_27 ?_
  have m20 : ((AB ad F13) 0 14) = v11 := AB_f hF13 rfl
  refine lv_ldcw (v := (65536)) S.1 S.2.1 S.2.2.2.1 (S.2.2.2.2 (.constant RX7 270 (65536)) (am_at in_wsX7_draw_0 4 rfl)) dX7_draw_30 ?_
  refine lv_idiv S.1 S.2.1 dX7_draw_33 (by decide +kernel) ?_
  refine lv_topi (fun v21 e21 => ?_)
  have m22 : (((AB ad F13) 0 14) / (65536)) = v21 := cg2 (fun (x : Int32) (y : Int32) => x / y) m20 (Eq.refl ((65536) : Int32)) e21
  refine lv_iload_n S.1 S.2.1 dX7_draw_34 rfl (lv_at hl0 1 rfl) ?_
  refine lv_irem S.1 S.2.1 dX7_draw_35 (ne_of_ti (by omega)) ?_
  refine lv_topi (fun v23 e23 => ?_)
  have m24 : (irm (((AB ad F13) 0 14) / (65536)) p1) = v23 := cg2 (fun (x : Int32) (y : Int32) => irm x y) m22 (Eq.refl (p1 : Int32)) e23
  refine lv_goto (tgt := 40) S.1 S.2.1 dX7_draw_36 (by decide) ?_
  have hE25 : M = (v23, AB ad F13) := hE15.trans ((show m_X7_draw_14 (AB ad F13) p1 = ((irm (((AB ad F13) 0 14) / (65536)) p1), (AB ad F13)) from by unfold m_X7_draw_14; rw [if_neg (nle_cg rfl rfl c16)]).trans (congrArg (fun q => (q, AB ad F13)) m24))
  exact hret 40 _ _ _ _ _ dX7_draw_40 rfl hP13 hS13 ⟨hW13, hFr13, ⟨trivial, hM.symm.trans hE25⟩⟩
noncomputable def m_X7_driftMonth_289 (σ : SS) (a0 : Int32) : SS :=
  σ
noncomputable def m_X7_driftMonth_281 (k0 : SS → Int32 → Int32 → SS) (σ : SS) (a0 : Int32) (a1 : Int32) : SS :=
  σ
noncomputable def m_X7_driftMonth_L92_259_b (k0 : SS → Int32 → Int32 → SS) (σ : SS) (a0 : Int32) (a1 : Int32) : SS :=
  if (σ (rl (σ 0 11)) 2) ≤ a0 then
    σ
  else
    if ((a1 >>> (a0 &&& 31)) &&& (nI 1)) = (0 : Int32) then
      k0 σ (a0 + Int32.ofInt (1)) a1
    else
      m_X7_driftMonth_281 k0 (m_X1_walkMonth σ 3 a0) a0 a1
noncomputable def m_X7_driftMonth_L92_259 : Nat → SS → Int32 → Int32 → SS
  | 0 => fun σ _ _ => σ
  | n + 1 => m_X7_driftMonth_L92_259_b (m_X7_driftMonth_L92_259 n)
noncomputable def m_X7_driftMonth_241 (k0 : SS → Int32 → Int32 → SS) (σ : SS) (a0 : Int32) (a1 : Int32) : SS :=
  σ
noncomputable def m_X7_driftMonth_L92_219_b (k0 : SS → Int32 → Int32 → SS) (σ : SS) (a0 : Int32) (a1 : Int32) : SS :=
  if (σ (rl (σ 0 11)) 2) ≤ a0 then
    σ
  else
    if ((a1 >>> (a0 &&& 31)) &&& (nI 1)) = (0 : Int32) then
      k0 σ (a0 + Int32.ofInt (1)) a1
    else
      m_X7_driftMonth_241 k0 (m_X1_walkMonth σ 3 a0) a0 a1
noncomputable def m_X7_driftMonth_L92_219 : Nat → SS → Int32 → Int32 → SS
  | 0 => fun σ _ _ => σ
  | n + 1 => m_X7_driftMonth_L92_219_b (m_X7_driftMonth_L92_219 n)
noncomputable def m_X7_driftMonth_208 (σ : SS) (a0 : Int32) : SS :=
  if a0 = (0 : Int32) then
    if (m_X1_mayStay σ 3 (rl (σ 0 11))) = (0 : Int32) then
      m_X7_driftMonth_L92_259 2000 σ (nI 0) (m_X1_walks σ 3 (rl (σ 0 11)))
    else
      m_X7_driftMonth_289 ((m_X1_stayMonth σ 3 (rl (σ 0 11)))).2 ((m_X1_stayMonth σ 3 (rl (σ 0 11)))).1
  else
    m_X7_driftMonth_L92_219 2000 σ (nI 0) (m_X1_walks σ 3 (rl (σ 0 11)))
noncomputable def m_X7_driftMonth_203 (σ : SS) : SS :=
  m_X7_driftMonth_208 ((m_X7_draw σ (nI 2))).2 ((m_X7_draw σ (nI 2))).1
noncomputable def m_X7_driftMonth_195 (σ : SS) (a0 : Int32) (a1 : Int32) : SS :=
  m_X7_driftMonth_203 (st σ 3 5 (a0 ^^^ ((nI 1) <<< (a1 &&& 31))))
noncomputable def m_X7_driftMonth_185 (σ : SS) (a0 : Int32) : SS :=
  σ
noncomputable def m_X7_driftMonth_177 (k0 : SS → Int32 → Int32 → SS) (σ : SS) (a0 : Int32) (a1 : Int32) : SS :=
  σ
noncomputable def m_X7_driftMonth_L92_155_b (k0 : SS → Int32 → Int32 → SS) (σ : SS) (a0 : Int32) (a1 : Int32) : SS :=
  if (σ (rl (σ 0 11)) 2) ≤ a0 then
    σ
  else
    if ((a1 >>> (a0 &&& 31)) &&& (nI 1)) = (0 : Int32) then
      k0 σ (a0 + Int32.ofInt (1)) a1
    else
      m_X7_driftMonth_177 k0 (m_X1_walkMonth σ 3 a0) a0 a1
noncomputable def m_X7_driftMonth_L92_155 : Nat → SS → Int32 → Int32 → SS
  | 0 => fun σ _ _ => σ
  | n + 1 => m_X7_driftMonth_L92_155_b (m_X7_driftMonth_L92_155 n)
noncomputable def m_X7_driftMonth_137 (k0 : SS → Int32 → Int32 → SS) (σ : SS) (a0 : Int32) (a1 : Int32) : SS :=
  σ
noncomputable def m_X7_driftMonth_L92_115_b (k0 : SS → Int32 → Int32 → SS) (σ : SS) (a0 : Int32) (a1 : Int32) : SS :=
  if (σ (rl (σ 0 11)) 2) ≤ a0 then
    σ
  else
    if ((a1 >>> (a0 &&& 31)) &&& (nI 1)) = (0 : Int32) then
      k0 σ (a0 + Int32.ofInt (1)) a1
    else
      m_X7_driftMonth_137 k0 (m_X1_walkMonth σ 3 a0) a0 a1
noncomputable def m_X7_driftMonth_L92_115 : Nat → SS → Int32 → Int32 → SS
  | 0 => fun σ _ _ => σ
  | n + 1 => m_X7_driftMonth_L92_115_b (m_X7_driftMonth_L92_115 n)
noncomputable def m_X7_driftMonth_104 (σ : SS) (a0 : Int32) : SS :=
  if a0 = (0 : Int32) then
    if (m_X1_mayStay σ 3 (rl (σ 0 11))) = (0 : Int32) then
      m_X7_driftMonth_L92_155 2000 σ (nI 0) (m_X1_walks σ 3 (rl (σ 0 11)))
    else
      m_X7_driftMonth_185 ((m_X1_stayMonth σ 3 (rl (σ 0 11)))).2 ((m_X1_stayMonth σ 3 (rl (σ 0 11)))).1
  else
    m_X7_driftMonth_L92_115 2000 σ (nI 0) (m_X1_walks σ 3 (rl (σ 0 11)))
noncomputable def m_X7_driftMonth_92 (σ : SS) (a0 : Int32) : SS :=
  σ
noncomputable def m_X7_driftMonth_84 (k0 : SS → Int32 → Int32 → SS) (σ : SS) (a0 : Int32) (a1 : Int32) : SS :=
  σ
noncomputable def m_X7_driftMonth_L92_62_b (k0 : SS → Int32 → Int32 → SS) (σ : SS) (a0 : Int32) (a1 : Int32) : SS :=
  if (σ (rl (σ 0 11)) 2) ≤ a0 then
    σ
  else
    if ((a1 >>> (a0 &&& 31)) &&& (nI 1)) = (0 : Int32) then
      k0 σ (a0 + Int32.ofInt (1)) a1
    else
      m_X7_driftMonth_84 k0 (m_X1_walkMonth σ 3 a0) a0 a1
noncomputable def m_X7_driftMonth_L92_62 : Nat → SS → Int32 → Int32 → SS
  | 0 => fun σ _ _ => σ
  | n + 1 => m_X7_driftMonth_L92_62_b (m_X7_driftMonth_L92_62 n)
noncomputable def m_X7_driftMonth_44 (k0 : SS → Int32 → Int32 → SS) (σ : SS) (a0 : Int32) (a1 : Int32) : SS :=
  σ
noncomputable def m_X7_driftMonth_L92_22_b (k0 : SS → Int32 → Int32 → SS) (σ : SS) (a0 : Int32) (a1 : Int32) : SS :=
  if (σ (rl (σ 0 11)) 2) ≤ a0 then
    σ
  else
    if ((a1 >>> (a0 &&& 31)) &&& (nI 1)) = (0 : Int32) then
      k0 σ (a0 + Int32.ofInt (1)) a1
    else
      m_X7_driftMonth_44 k0 (m_X1_walkMonth σ 3 a0) a0 a1
noncomputable def m_X7_driftMonth_L92_22 : Nat → SS → Int32 → Int32 → SS
  | 0 => fun σ _ _ => σ
  | n + 1 => m_X7_driftMonth_L92_22_b (m_X7_driftMonth_L92_22 n)
noncomputable def m_X7_driftMonth_11 (σ : SS) (a0 : Int32) : SS :=
  if a0 = (0 : Int32) then
    if (m_X1_mayStay σ 3 (rl (σ 0 11))) = (0 : Int32) then
      m_X7_driftMonth_L92_62 2000 σ (nI 0) (m_X1_walks σ 3 (rl (σ 0 11)))
    else
      m_X7_driftMonth_92 ((m_X1_stayMonth σ 3 (rl (σ 0 11)))).2 ((m_X1_stayMonth σ 3 (rl (σ 0 11)))).1
  else
    m_X7_driftMonth_L92_22 2000 σ (nI 0) (m_X1_walks σ 3 (rl (σ 0 11)))
noncomputable def m_X7_driftMonth_4 (σ : SS) (a0 : Int32) : SS :=
  if a0 = (0 : Int32) then
    if (σ (rl (σ 0 11)) 3) ≤ (0 : Int32) then
      m_X7_driftMonth_104 ((m_X7_draw σ (nI 2))).2 ((m_X7_draw σ (nI 2))).1
    else
      m_X7_driftMonth_195 ((m_X7_draw σ (σ (rl (σ 0 11)) 3))).2 (σ 3 5) ((m_X7_draw σ (σ (rl (σ 0 11)) 3))).1
  else
    m_X7_driftMonth_11 ((m_X7_draw σ (nI 2))).2 ((m_X7_draw σ (nI 2))).1
noncomputable def m_X7_driftMonth (σ : SS) : SS :=
  m_X7_driftMonth_4 ((m_X7_draw σ (nI 4))).2 ((m_X7_draw σ (nI 4))).1
set_option maxHeartbeats 4000000 in
set_option maxRecDepth 100000 in
theorem c_X7_driftMonth (l : Launch) (D : va_G) (cA ad : Nat → Nat) (t : Nat) (hI : rI ad) (F : Nat → va_E) (hW : WT cA ad F) : MV l D cA ad t yX7_driftMonth wsX7_driftMonth { frames := 4, cells := 0, slots := 0, locals := 87 } [.ref (ad 0)] F (fun F' => WT cA ad F' ∧ rFr [0, 3] F F' ∧ ((True) ∧ m_X7_driftMonth (AB ad F) = AB ad F')) := by
  refine en_V rfl (by decide +kernel) (Nat.le_of_ble_eq_true rfl) ?_
  intro p e s m args below meth c ls0 Q S hK hZ hP hS hl0 hret
  have hl0 : lv_has ls0 3 [(0, .ref (ad 0))] := hl0
  have hFr : rFr [0, 3] F F := rFr.rf
  have hiX0 : ∀ w ∈ u_ws RX0 TX0 10, w ∈ wsX7_driftMonth := in_wsX7_driftMonth_4
  have hiX1 : ∀ w ∈ u_ws RX1 TX1 7, w ∈ wsX7_driftMonth := in_wsX7_driftMonth_5
  have hiX7 : ∀ w ∈ u_ws RX7 TX7 15, w ∈ wsX7_driftMonth := in_wsX7_driftMonth_3
  obtain ⟨M, hM⟩ : ∃ M, M = m_X7_driftMonth (AB ad F) := ⟨_, rfl⟩
  refine lv_aload_n S.1 S.2.1 dX7_driftMonth_0 rfl (lv_at hl0 0 rfl) ?_
  refine lv_iconst (v := (nI 4)) S.1 S.2.1 dX7_driftMonth_1 (by decide +kernel) ?_
  obtain ⟨c2, d2, k2, dr2, hF2, hc2, hd2, hk2⟩ := wt_main hW
  refine r_cVi (As := [.int (nI 4)]) (rest := []) S hK hZ hP hS hl0.1 0 (by decide) hF2 (C := RX7) rfl (c_X7_draw l D cA ad t hI F hW (nI 4)) (cwV 1 S.2.2.2.2 gX7_driftMonth_X7_draw rfl rfl rfl (by decide +kernel) ⟨Nat.le_of_ble_eq_true rfl, Nat.le_of_ble_eq_true rfl⟩) rfl rfl (Nat.le_of_ble_eq_true rfl) ⟨Nat.zero_le _, Nat.zero_le _⟩ dX7_driftMonth_2 (fun r1 F1 H1 locs1 hr1 hP1 hS1 => ?_)
  obtain ⟨hW1, hFc1, hr1⟩ := hr1
  obtain ⟨hr1, hm1⟩ := hr1
  have hFr1 := hFr.tr hFc1 (by simp <;> first | omega | (simp only [isC, isJ] at *; omega))
  have mc3 : (m_X7_draw (AB ad F) (nI 4)) = (r1, AB ad F1) := (congr (Eq.refl (m_X7_draw (AB ad F))) (Eq.refl ((nI 4) : Int32))).trans hm1
  have hE5 : M = m_X7_driftMonth_4 (AB ad F1) r1 := hM.trans ((show m_X7_driftMonth (AB ad F) = m_X7_driftMonth_4 ((m_X7_draw (AB ad F) (nI 4))).2 ((m_X7_draw (AB ad F) (nI 4))).1 from rfl).trans (congr (congrArg (m_X7_driftMonth_4) (congrArg Prod.snd mc3)) (congrArg Prod.fst mc3)))
  refine lv_if_ne (tgt := 43) S.1 S.2.1 dX7_driftMonth_5 (by decide) (fun c6 => ?_) (fun c6 => ?_)
  · skip
    have k7 := ci_ne rfl z_ti c6
    refine lv_aload_n S.1 S.2.1 dX7_driftMonth_43 rfl (lv_at hl0 0 rfl) ?_
    refine lv_iconst (v := (nI 2)) S.1 S.2.1 dX7_driftMonth_44 (by decide +kernel) ?_
    obtain ⟨c9, d9, k9, dr9, hF9, hc9, hd9, hk9⟩ := wt_main hW1
    refine r_cVi (As := [.int (nI 2)]) (rest := []) S hK hZ hP1 hS1 hl0.1 0 (by decide) hF9 (C := RX7) rfl (c_X7_draw l D cA ad t hI F1 hW1 (nI 2)) (cwV 1 S.2.2.2.2 gX7_driftMonth_X7_draw rfl rfl rfl (by decide +kernel) ⟨Nat.le_of_ble_eq_true rfl, Nat.le_of_ble_eq_true rfl⟩) rfl rfl (Nat.le_of_ble_eq_true rfl) ⟨Nat.zero_le _, Nat.zero_le _⟩ dX7_driftMonth_45 (fun r8 F8 H8 locs8 hr8 hP8 hS8 => ?_)
    obtain ⟨hW8, hFc8, hr8⟩ := hr8
    obtain ⟨hr8, hm8⟩ := hr8
    have hFr8 := hFr1.tr hFc8 (by simp <;> first | omega | (simp only [isC, isJ] at *; omega))
    have mc10 : (m_X7_draw (AB ad F1) (nI 2)) = (r8, AB ad F8) := (congr (Eq.refl (m_X7_draw (AB ad F1))) (Eq.refl ((nI 2) : Int32))).trans hm8
    have hE12 : M = m_X7_driftMonth_11 (AB ad F8) r8 := hE5.trans ((show m_X7_driftMonth_4 (AB ad F1) r1 = m_X7_driftMonth_11 ((m_X7_draw (AB ad F1) (nI 2))).2 ((m_X7_draw (AB ad F1) (nI 2))).1 from by unfold m_X7_driftMonth_4; rw [if_neg (neq_cg rfl rfl c6)]).trans (congr (congrArg (m_X7_driftMonth_11) (congrArg Prod.snd mc10)) (congrArg Prod.fst mc10)))
    refine lv_if_ne (tgt := 78) S.1 S.2.1 dX7_driftMonth_48 (by decide) (fun c13 => ?_) (fun c13 => ?_)
    · skip
      have k14 := ci_ne rfl z_ti c13
      refine lv_aload_n S.1 S.2.1 dX7_driftMonth_78 rfl (lv_at hl0 0 rfl) ?_
      obtain ⟨c15, d15, k15, dr15, hF15, hc15, hd15, hk15⟩ := wt_main hW8
      refine r_get S hK hP8 0 (by decide) hF15 (C := RX7) (T := TX7) (N := 15) hiX7 rfl 1 (by decide) (am_at in_wsX7_driftMonth_0 2 rfl) (v := .ref (ad 3)) rfl dX7_driftMonth_79 ?_
      refine lv_aload_n S.1 S.2.1 dX7_driftMonth_82 rfl (lv_at hl0 0 rfl) ?_
      refine r_get S hK hP8 0 (by decide) hF15 (C := RX7) (T := TX7) (N := 15) hiX7 rfl 11 (by decide) (am_at in_wsX7_driftMonth_0 0 rfl) (v := .ref (ad c15)) rfl dX7_driftMonth_83 ?_
      have m16 : (rl ((AB ad F8) 0 11)) = c15 := AB_r hI (lt_C hc15) hF15 rfl
      obtain ⟨ja18, jb18, jc18, jd18, jx18, jy18, jk18, hF18, hk18⟩ := wt_J hW8 (show isJ 3 from Or.inl rfl)
      refine r_cVp (As := [.ref (ad c15)]) (rest := []) S hK hZ hP8 hS8 hl0.1 3 (by decide) hF18 (C := RX1) rfl (c_X1_walks l D cA ad t hI F8 hW8 3 (show isJ 3 from Or.inl rfl) c15 hc15) (cwV 1 S.2.2.2.2 gX7_driftMonth_X1_walks rfl rfl rfl (by decide +kernel) ⟨Nat.le_of_ble_eq_true rfl, Nat.le_of_ble_eq_true rfl⟩) rfl rfl (Nat.le_of_ble_eq_true rfl) ⟨Nat.zero_le _, Nat.zero_le _⟩ dX7_driftMonth_86 (fun r17 hr17 => ?_)
      obtain ⟨hr17, hm17⟩ := hr17
      have m19 : (m_X1_walks (AB ad F8) 3 (rl ((AB ad F8) 0 11))) = r17 := (congr (congr (Eq.refl (m_X1_walks (AB ad F8))) (Eq.refl 3)) m16).trans hm17
      refine lv_istore_n (lv' := [(1, .int r17), (0, .ref (ad 0))]) S.1 S.2.1 dX7_driftMonth_89 rfl hl0 (by decide) rfl (fun ls20 hl20 => ?_)
      refine lv_iconst (v := (nI 0)) S.1 S.2.1 dX7_driftMonth_90 (by decide +kernel) ?_
      refine lv_istore_n (lv' := [(2, .int (nI 0)), (1, .int r17), (0, .ref (ad 0))]) S.1 S.2.1 dX7_driftMonth_91 rfl hl20 (by decide) rfl (fun ls21 hl21 => ?_)
      have lp22 : ∀ (n22 : Nat) (q222 : Nat), ∀ (Fl22 : Nat → va_E) (Hl22 : Heap) (lol22 : List Loc), q222 ≤ 8 → 8 - q222 < n22 → WT cA ad Fl22 → rFr [0, 3] F Fl22 → va_P D vwCl (rW ad Fl22) Hl22 → va_S (rA ad) s.heap Hl22 lol22 → M = m_X7_driftMonth_L92_22 n22 (AB ad Fl22) (nI q222) r17 → ∀ (ls : Array Slot), lv_has ls 3 [(2, .int (nI q222)), (1, .int r17), (0, .ref (ad 0))] → W p l e { frames := 4, cells := 0, slots := 0, locals := 87 } s m args below meth c Hl22 lol22 0 0 Q (F0 m 92 ls []) := by
        intro n22
        induction n22 with
        | zero =>
          intro q222 Fl22 Hl22 lol22 iv22_0 hm22 hWl22 hFl22 hPl22 hSl22 hEl22 ls22 hl22
          exact absurd hm22 (Nat.not_lt_zero _)
        | succ n22 ih22 =>
          intro q222 Fl22 Hl22 lol22 iv22_0 hm22 hWl22 hFl22 hPl22 hSl22 hEl22 ls22 hl22
          have hE23 : M = m_X7_driftMonth_L92_22_b (m_X7_driftMonth_L92_22 n22) (AB ad Fl22) (nI q222) r17 := hEl22
          refine lv_iload_n S.1 S.2.1 dX7_driftMonth_92 rfl (lv_at hl22 0 rfl) ?_
          refine lv_aload_n S.1 S.2.1 dX7_driftMonth_93 rfl (lv_at hl22 2 rfl) ?_
          obtain ⟨c24, d24, k24, dr24, hF24, hc24, hd24, hk24⟩ := wt_main hWl22
          refine r_get S hK hPl22 0 (by decide) hF24 (C := RX7) (T := TX7) (N := 15) hiX7 rfl 11 (by decide) (am_at in_wsX7_driftMonth_0 0 rfl) (v := .ref (ad c24)) rfl dX7_driftMonth_94 ?_
          have m25 : (rl ((AB ad Fl22) 0 11)) = c24 := AB_r hI (lt_C hc24) hF24 rfl
          obtain ⟨sl26, fm26, tn26, rn26, bn26, hF26, hb26_1, hb26_2, hb26_3⟩ := wt_C hWl22 hc24
          refine r_get S hK hPl22 c24 (lt_C hc24) hF26 (C := RX0) (T := TX0) (N := 10) hiX0 rfl 2 (by decide) (am_at in_wsX7_driftMonth_0 4 rfl) (v := .int (nI tn26)) rfl dX7_driftMonth_97 ?_
          have m27 : ((AB ad Fl22) (rl ((AB ad Fl22) 0 11)) 2) = (nI tn26) := (congrArg (fun q => AB ad Fl22 q 2) m25).trans (AB_f hF26 rfl)
          refine lv_icmp_ge (tgt := 126) S.1 S.2.1 dX7_driftMonth_100 (by decide) (fun c28 => ?_) (fun c28 => ?_)
          · skip
            have k29 := ci_le (nI_toInt (n := tn26) (by omega)) (nI_toInt (n := q222) (by omega)) c28
            have hE30 : M = AB ad Fl22 := hE23.trans ((show m_X7_driftMonth_L92_22_b (m_X7_driftMonth_L92_22 n22) (AB ad Fl22) (nI q222) r17 = (AB ad Fl22) from by unfold m_X7_driftMonth_L92_22_b; rw [if_pos (le_cg m27 rfl c28)]).trans rfl)
            exact hret 126 _ _ _ _ dX7_driftMonth_126 hPl22 hSl22 ⟨hWl22, hFl22, ⟨trivial, hM.symm.trans hE30⟩⟩
          have k31 := ci_nle (nI_toInt (n := tn26) (by omega)) (nI_toInt (n := q222) (by omega)) c28
          refine lv_iload_n S.1 S.2.1 dX7_driftMonth_103 rfl (lv_at hl22 1 rfl) ?_
          refine lv_iload_n S.1 S.2.1 dX7_driftMonth_104 rfl (lv_at hl22 0 rfl) ?_
          refine lv_ishr S.1 S.2.1 dX7_driftMonth_105 ?_
          refine lv_topi (fun v32 e32 => ?_)
          have m33 : (r17 >>> ((nI q222) &&& 31)) = v32 := cg2 (fun (x : Int32) (y : Int32) => x >>> (y &&& 31)) (Eq.refl (r17 : Int32)) (Eq.refl ((nI q222) : Int32)) e32
          refine lv_iconst (v := (nI 1)) S.1 S.2.1 dX7_driftMonth_106 (by decide +kernel) ?_
          refine lv_iand S.1 S.2.1 dX7_driftMonth_107 ?_
          refine lv_topi (fun v34 e34 => ?_)
          have m35 : ((r17 >>> ((nI q222) &&& 31)) &&& (nI 1)) = v34 := cg2 (fun (x : Int32) (y : Int32) => x &&& y) m33 (Eq.refl ((nI 1) : Int32)) e34
          refine lv_if_eq (tgt := 120) S.1 S.2.1 dX7_driftMonth_108 (by decide) (fun c36 => ?_) (fun c36 => ?_)
          · skip
            have k37 := ci_eq rfl z_ti c36
            have m39 : ((nI q222) + Int32.ofInt (1)) = (nI (q222 + 1)) := (congrArg (fun q : Int32 => q + Int32.ofInt (1)) rfl).trans (nI_add _ 1)
            refine lv_iinc (v := (nI (q222 + 1))) (lv' := [(2, .int (nI (q222 + 1))), (1, .int r17), (0, .ref (ad 0))]) S.1 S.2.1 dX7_driftMonth_120 hl22 (k := 0) rfl (nI_add _ 1) (by decide) rfl (fun ls38 hl38 => ?_)
            refine lv_goto (tgt := 92) S.1 S.2.1 dX7_driftMonth_123 (by decide) ?_
            have hE40 : M = (m_X7_driftMonth_L92_22 n22) (AB ad Fl22) (nI (q222 + 1)) r17 := hE23.trans ((show m_X7_driftMonth_L92_22_b (m_X7_driftMonth_L92_22 n22) (AB ad Fl22) (nI q222) r17 = (m_X7_driftMonth_L92_22 n22) (AB ad Fl22) ((nI q222) + Int32.ofInt (1)) r17 from by unfold m_X7_driftMonth_L92_22_b; rw [if_neg (nle_cg m27 rfl c28), if_pos (eq_cg m35 rfl c36)]).trans (congr (congr (congrArg ((m_X7_driftMonth_L92_22 n22)) (rfl : AB ad Fl22 = AB ad Fl22)) m39) (Eq.refl (r17 : Int32))))
            exact ih22 (q222 + 1) Fl22 Hl22 lol22 (by omega) (by omega) hWl22 hFl22 hPl22 hSl22 hE40 ls38 (lv_sub hl38 [0, 1, 2] rfl)
          have k41 := ci_ne rfl z_ti c36
          refine lv_aload_n S.1 S.2.1 dX7_driftMonth_111 rfl (lv_at hl22 2 rfl) ?_
          refine r_get S hK hPl22 0 (by decide) hF24 (C := RX7) (T := TX7) (N := 15) hiX7 rfl 1 (by decide) (am_at in_wsX7_driftMonth_0 2 rfl) (v := .ref (ad 3)) rfl dX7_driftMonth_112 ?_
          refine lv_iload_n S.1 S.2.1 dX7_driftMonth_115 rfl (lv_at hl22 0 rfl) ?_
          obtain ⟨ja43, jb43, jc43, jd43, jx43, jy43, jk43, hF43, hk43⟩ := wt_J hWl22 (show isJ 3 from Or.inl rfl)
          refine r_cVv (As := [.int (nI q222)]) (rest := []) S hK hZ hPl22 hSl22 hl22.1 3 (by decide) hF43 (C := RX1) rfl (c_X1_walkMonth l D cA ad t hI Fl22 hWl22 3 (show isJ 3 from Or.inl rfl) (nI q222)) (cwV 1 S.2.2.2.2 gX7_driftMonth_X1_walkMonth rfl rfl rfl (by decide +kernel) ⟨Nat.le_of_ble_eq_true rfl, Nat.le_of_ble_eq_true rfl⟩) rfl rfl (Nat.le_of_ble_eq_true rfl) ⟨Nat.zero_le _, Nat.zero_le _⟩ dX7_driftMonth_116 (fun F42 H42 locs42 hr42 hP42 hS42 => ?_)
          obtain ⟨hW42, hFc42, hr42⟩ := hr42
          obtain ⟨hr42, hm42⟩ := hr42
          have hFr42 := hFl22.tr hFc42 (by simp <;> first | omega | (simp only [isC, isJ] at *; omega))
          have hE45 : M = m_X7_driftMonth_44 (m_X7_driftMonth_L92_22 n22) (AB ad F42) (nI q222) r17 := hE23.trans ((show m_X7_driftMonth_L92_22_b (m_X7_driftMonth_L92_22 n22) (AB ad Fl22) (nI q222) r17 = m_X7_driftMonth_44 (m_X7_driftMonth_L92_22 n22) (m_X1_walkMonth (AB ad Fl22) 3 (nI q222)) (nI q222) r17 from by unfold m_X7_driftMonth_L92_22_b; rw [if_neg (nle_cg m27 rfl c28), if_neg (neq_cg m35 rfl c36)]).trans (congr (congr (congrArg (m_X7_driftMonth_44 (m_X7_driftMonth_L92_22 n22)) ((congr (congr (Eq.refl (m_X1_walkMonth (AB ad Fl22))) (Eq.refl 3)) (Eq.refl ((nI q222) : Int32))).trans hm42)) (Eq.refl ((nI q222) : Int32))) (Eq.refl (r17 : Int32))))
          have hE46 : M = AB ad F42 := hE45.trans ((show m_X7_driftMonth_44 (m_X7_driftMonth_L92_22 n22) (AB ad F42) (nI q222) r17 = (AB ad F42) from rfl).trans rfl)
          exact hret 119 _ _ _ _ dX7_driftMonth_119 hP42 hS42 ⟨hW42, hFr42, ⟨trivial, hM.symm.trans hE46⟩⟩
      have hE47 : M = m_X7_driftMonth_L92_22 2000 (AB ad F8) (nI 0) r17 := hE12.trans ((show m_X7_driftMonth_11 (AB ad F8) r8 = m_X7_driftMonth_L92_22 2000 (AB ad F8) (nI 0) (m_X1_walks (AB ad F8) 3 (rl ((AB ad F8) 0 11))) from by unfold m_X7_driftMonth_11; rw [if_neg (neq_cg rfl rfl c13)]).trans (congr (congr (congrArg (m_X7_driftMonth_L92_22 2000) (rfl : AB ad F8 = AB ad F8)) (Eq.refl ((nI 0) : Int32))) m19))
      exact lp22 2000 (0) F8 H8 locs8 (by omega) (by omega) hW8 hFr8 hP8 hS8 hE47 ls21 (lv_sub hl21 [0, 1, 2] rfl)
    have k48 := ci_eq rfl z_ti c13
    refine lv_aload_n S.1 S.2.1 dX7_driftMonth_51 rfl (lv_at hl0 0 rfl) ?_
    obtain ⟨c49, d49, k49, dr49, hF49, hc49, hd49, hk49⟩ := wt_main hW8
    refine r_get S hK hP8 0 (by decide) hF49 (C := RX7) (T := TX7) (N := 15) hiX7 rfl 1 (by decide) (am_at in_wsX7_driftMonth_0 2 rfl) (v := .ref (ad 3)) rfl dX7_driftMonth_52 ?_
    refine lv_aload_n S.1 S.2.1 dX7_driftMonth_55 rfl (lv_at hl0 0 rfl) ?_
    refine r_get S hK hP8 0 (by decide) hF49 (C := RX7) (T := TX7) (N := 15) hiX7 rfl 11 (by decide) (am_at in_wsX7_driftMonth_0 0 rfl) (v := .ref (ad c49)) rfl dX7_driftMonth_56 ?_
    have m50 : (rl ((AB ad F8) 0 11)) = c49 := AB_r hI (lt_C hc49) hF49 rfl
    obtain ⟨ja52, jb52, jc52, jd52, jx52, jy52, jk52, hF52, hk52⟩ := wt_J hW8 (show isJ 3 from Or.inl rfl)
    refine r_cVp (As := [.ref (ad c49)]) (rest := []) S hK hZ hP8 hS8 hl0.1 3 (by decide) hF52 (C := RX1) rfl (c_X1_mayStay l D cA ad t hI F8 hW8 3 (show isJ 3 from Or.inl rfl) c49 hc49) (cwV 1 S.2.2.2.2 gX7_driftMonth_X1_mayStay rfl rfl rfl (by decide +kernel) ⟨Nat.le_of_ble_eq_true rfl, Nat.le_of_ble_eq_true rfl⟩) rfl rfl (Nat.le_of_ble_eq_true rfl) ⟨Nat.zero_le _, Nat.zero_le _⟩ dX7_driftMonth_59 (fun r51 hr51 => ?_)
    obtain ⟨hr51, hm51⟩ := hr51
    obtain ⟨b53, hb53, rfl⟩ := hr51
    have m54 : (m_X1_mayStay (AB ad F8) 3 (rl ((AB ad F8) 0 11))) = (nI b53) := (congr (congr (Eq.refl (m_X1_mayStay (AB ad F8))) (Eq.refl 3)) m50).trans hm51
    refine lv_if_eq (tgt := 78) S.1 S.2.1 dX7_driftMonth_62 (by decide) (fun c55 => ?_) (fun c55 => ?_)
    · skip
      have k56 := ci_eq (nI_toInt (n := b53) (Nat.lt_of_le_of_lt hb53 (by decide))) z_ti c55
      refine lv_aload_n S.1 S.2.1 dX7_driftMonth_78 rfl (lv_at hl0 0 rfl) ?_
      refine r_get S hK hP8 0 (by decide) hF49 (C := RX7) (T := TX7) (N := 15) hiX7 rfl 1 (by decide) (am_at in_wsX7_driftMonth_0 2 rfl) (v := .ref (ad 3)) rfl dX7_driftMonth_79 ?_
      refine lv_aload_n S.1 S.2.1 dX7_driftMonth_82 rfl (lv_at hl0 0 rfl) ?_
      refine r_get S hK hP8 0 (by decide) hF49 (C := RX7) (T := TX7) (N := 15) hiX7 rfl 11 (by decide) (am_at in_wsX7_driftMonth_0 0 rfl) (v := .ref (ad c49)) rfl dX7_driftMonth_83 ?_
      have m57 : (rl ((AB ad F8) 0 11)) = c49 := AB_r hI (lt_C hc49) hF49 rfl
      refine r_cVp (As := [.ref (ad c49)]) (rest := []) S hK hZ hP8 hS8 hl0.1 3 (by decide) hF52 (C := RX1) rfl (c_X1_walks l D cA ad t hI F8 hW8 3 (show isJ 3 from Or.inl rfl) c49 hc49) (cwV 1 S.2.2.2.2 gX7_driftMonth_X1_walks rfl rfl rfl (by decide +kernel) ⟨Nat.le_of_ble_eq_true rfl, Nat.le_of_ble_eq_true rfl⟩) rfl rfl (Nat.le_of_ble_eq_true rfl) ⟨Nat.zero_le _, Nat.zero_le _⟩ dX7_driftMonth_86 (fun r58 hr58 => ?_)
      obtain ⟨hr58, hm58⟩ := hr58
      have m59 : (m_X1_walks (AB ad F8) 3 (rl ((AB ad F8) 0 11))) = r58 := (congr (congr (Eq.refl (m_X1_walks (AB ad F8))) (Eq.refl 3)) m57).trans hm58
      refine lv_istore_n (lv' := [(1, .int r58), (0, .ref (ad 0))]) S.1 S.2.1 dX7_driftMonth_89 rfl hl0 (by decide) rfl (fun ls60 hl60 => ?_)
      refine lv_iconst (v := (nI 0)) S.1 S.2.1 dX7_driftMonth_90 (by decide +kernel) ?_
      refine lv_istore_n (lv' := [(2, .int (nI 0)), (1, .int r58), (0, .ref (ad 0))]) S.1 S.2.1 dX7_driftMonth_91 rfl hl60 (by decide) rfl (fun ls61 hl61 => ?_)
      have lp62 : ∀ (n62 : Nat) (q262 : Nat), ∀ (Fl62 : Nat → va_E) (Hl62 : Heap) (lol62 : List Loc), q262 ≤ 8 → 8 - q262 < n62 → WT cA ad Fl62 → rFr [0, 3] F Fl62 → va_P D vwCl (rW ad Fl62) Hl62 → va_S (rA ad) s.heap Hl62 lol62 → M = m_X7_driftMonth_L92_62 n62 (AB ad Fl62) (nI q262) r58 → ∀ (ls : Array Slot), lv_has ls 3 [(2, .int (nI q262)), (1, .int r58), (0, .ref (ad 0))] → W p l e { frames := 4, cells := 0, slots := 0, locals := 87 } s m args below meth c Hl62 lol62 0 0 Q (F0 m 92 ls []) := by
        intro n62
        induction n62 with
        | zero =>
          intro q262 Fl62 Hl62 lol62 iv62_0 hm62 hWl62 hFl62 hPl62 hSl62 hEl62 ls62 hl62
          exact absurd hm62 (Nat.not_lt_zero _)
        | succ n62 ih62 =>
          intro q262 Fl62 Hl62 lol62 iv62_0 hm62 hWl62 hFl62 hPl62 hSl62 hEl62 ls62 hl62
          have hE63 : M = m_X7_driftMonth_L92_62_b (m_X7_driftMonth_L92_62 n62) (AB ad Fl62) (nI q262) r58 := hEl62
          refine lv_iload_n S.1 S.2.1 dX7_driftMonth_92 rfl (lv_at hl62 0 rfl) ?_
          refine lv_aload_n S.1 S.2.1 dX7_driftMonth_93 rfl (lv_at hl62 2 rfl) ?_
          obtain ⟨c64, d64, k64, dr64, hF64, hc64, hd64, hk64⟩ := wt_main hWl62
          refine r_get S hK hPl62 0 (by decide) hF64 (C := RX7) (T := TX7) (N := 15) hiX7 rfl 11 (by decide) (am_at in_wsX7_driftMonth_0 0 rfl) (v := .ref (ad c64)) rfl dX7_driftMonth_94 ?_
          have m65 : (rl ((AB ad Fl62) 0 11)) = c64 := AB_r hI (lt_C hc64) hF64 rfl
          obtain ⟨sl66, fm66, tn66, rn66, bn66, hF66, hb66_1, hb66_2, hb66_3⟩ := wt_C hWl62 hc64
          refine r_get S hK hPl62 c64 (lt_C hc64) hF66 (C := RX0) (T := TX0) (N := 10) hiX0 rfl 2 (by decide) (am_at in_wsX7_driftMonth_0 4 rfl) (v := .int (nI tn66)) rfl dX7_driftMonth_97 ?_
          have m67 : ((AB ad Fl62) (rl ((AB ad Fl62) 0 11)) 2) = (nI tn66) := (congrArg (fun q => AB ad Fl62 q 2) m65).trans (AB_f hF66 rfl)
          refine lv_icmp_ge (tgt := 126) S.1 S.2.1 dX7_driftMonth_100 (by decide) (fun c68 => ?_) (fun c68 => ?_)
          · skip
            have k69 := ci_le (nI_toInt (n := tn66) (by omega)) (nI_toInt (n := q262) (by omega)) c68
            have hE70 : M = AB ad Fl62 := hE63.trans ((show m_X7_driftMonth_L92_62_b (m_X7_driftMonth_L92_62 n62) (AB ad Fl62) (nI q262) r58 = (AB ad Fl62) from by unfold m_X7_driftMonth_L92_62_b; rw [if_pos (le_cg m67 rfl c68)]).trans rfl)
            exact hret 126 _ _ _ _ dX7_driftMonth_126 hPl62 hSl62 ⟨hWl62, hFl62, ⟨trivial, hM.symm.trans hE70⟩⟩
          have k71 := ci_nle (nI_toInt (n := tn66) (by omega)) (nI_toInt (n := q262) (by omega)) c68
          refine lv_iload_n S.1 S.2.1 dX7_driftMonth_103 rfl (lv_at hl62 1 rfl) ?_
          refine lv_iload_n S.1 S.2.1 dX7_driftMonth_104 rfl (lv_at hl62 0 rfl) ?_
          refine lv_ishr S.1 S.2.1 dX7_driftMonth_105 ?_
          refine lv_topi (fun v72 e72 => ?_)
          have m73 : (r58 >>> ((nI q262) &&& 31)) = v72 := cg2 (fun (x : Int32) (y : Int32) => x >>> (y &&& 31)) (Eq.refl (r58 : Int32)) (Eq.refl ((nI q262) : Int32)) e72
          refine lv_iconst (v := (nI 1)) S.1 S.2.1 dX7_driftMonth_106 (by decide +kernel) ?_
          refine lv_iand S.1 S.2.1 dX7_driftMonth_107 ?_
          refine lv_topi (fun v74 e74 => ?_)
          have m75 : ((r58 >>> ((nI q262) &&& 31)) &&& (nI 1)) = v74 := cg2 (fun (x : Int32) (y : Int32) => x &&& y) m73 (Eq.refl ((nI 1) : Int32)) e74
          refine lv_if_eq (tgt := 120) S.1 S.2.1 dX7_driftMonth_108 (by decide) (fun c76 => ?_) (fun c76 => ?_)
          · skip
            have k77 := ci_eq rfl z_ti c76
            have m79 : ((nI q262) + Int32.ofInt (1)) = (nI (q262 + 1)) := (congrArg (fun q : Int32 => q + Int32.ofInt (1)) rfl).trans (nI_add _ 1)
            refine lv_iinc (v := (nI (q262 + 1))) (lv' := [(2, .int (nI (q262 + 1))), (1, .int r58), (0, .ref (ad 0))]) S.1 S.2.1 dX7_driftMonth_120 hl62 (k := 0) rfl (nI_add _ 1) (by decide) rfl (fun ls78 hl78 => ?_)
            refine lv_goto (tgt := 92) S.1 S.2.1 dX7_driftMonth_123 (by decide) ?_
            have hE80 : M = (m_X7_driftMonth_L92_62 n62) (AB ad Fl62) (nI (q262 + 1)) r58 := hE63.trans ((show m_X7_driftMonth_L92_62_b (m_X7_driftMonth_L92_62 n62) (AB ad Fl62) (nI q262) r58 = (m_X7_driftMonth_L92_62 n62) (AB ad Fl62) ((nI q262) + Int32.ofInt (1)) r58 from by unfold m_X7_driftMonth_L92_62_b; rw [if_neg (nle_cg m67 rfl c68), if_pos (eq_cg m75 rfl c76)]).trans (congr (congr (congrArg ((m_X7_driftMonth_L92_62 n62)) (rfl : AB ad Fl62 = AB ad Fl62)) m79) (Eq.refl (r58 : Int32))))
            exact ih62 (q262 + 1) Fl62 Hl62 lol62 (by omega) (by omega) hWl62 hFl62 hPl62 hSl62 hE80 ls78 (lv_sub hl78 [0, 1, 2] rfl)
          have k81 := ci_ne rfl z_ti c76
          refine lv_aload_n S.1 S.2.1 dX7_driftMonth_111 rfl (lv_at hl62 2 rfl) ?_
          refine r_get S hK hPl62 0 (by decide) hF64 (C := RX7) (T := TX7) (N := 15) hiX7 rfl 1 (by decide) (am_at in_wsX7_driftMonth_0 2 rfl) (v := .ref (ad 3)) rfl dX7_driftMonth_112 ?_
          refine lv_iload_n S.1 S.2.1 dX7_driftMonth_115 rfl (lv_at hl62 0 rfl) ?_
          obtain ⟨ja83, jb83, jc83, jd83, jx83, jy83, jk83, hF83, hk83⟩ := wt_J hWl62 (show isJ 3 from Or.inl rfl)
          refine r_cVv (As := [.int (nI q262)]) (rest := []) S hK hZ hPl62 hSl62 hl62.1 3 (by decide) hF83 (C := RX1) rfl (c_X1_walkMonth l D cA ad t hI Fl62 hWl62 3 (show isJ 3 from Or.inl rfl) (nI q262)) (cwV 1 S.2.2.2.2 gX7_driftMonth_X1_walkMonth rfl rfl rfl (by decide +kernel) ⟨Nat.le_of_ble_eq_true rfl, Nat.le_of_ble_eq_true rfl⟩) rfl rfl (Nat.le_of_ble_eq_true rfl) ⟨Nat.zero_le _, Nat.zero_le _⟩ dX7_driftMonth_116 (fun F82 H82 locs82 hr82 hP82 hS82 => ?_)
          obtain ⟨hW82, hFc82, hr82⟩ := hr82
          obtain ⟨hr82, hm82⟩ := hr82
          have hFr82 := hFl62.tr hFc82 (by simp <;> first | omega | (simp only [isC, isJ] at *; omega))
          have hE85 : M = m_X7_driftMonth_84 (m_X7_driftMonth_L92_62 n62) (AB ad F82) (nI q262) r58 := hE63.trans ((show m_X7_driftMonth_L92_62_b (m_X7_driftMonth_L92_62 n62) (AB ad Fl62) (nI q262) r58 = m_X7_driftMonth_84 (m_X7_driftMonth_L92_62 n62) (m_X1_walkMonth (AB ad Fl62) 3 (nI q262)) (nI q262) r58 from by unfold m_X7_driftMonth_L92_62_b; rw [if_neg (nle_cg m67 rfl c68), if_neg (neq_cg m75 rfl c76)]).trans (congr (congr (congrArg (m_X7_driftMonth_84 (m_X7_driftMonth_L92_62 n62)) ((congr (congr (Eq.refl (m_X1_walkMonth (AB ad Fl62))) (Eq.refl 3)) (Eq.refl ((nI q262) : Int32))).trans hm82)) (Eq.refl ((nI q262) : Int32))) (Eq.refl (r58 : Int32))))
          have hE86 : M = AB ad F82 := hE85.trans ((show m_X7_driftMonth_84 (m_X7_driftMonth_L92_62 n62) (AB ad F82) (nI q262) r58 = (AB ad F82) from rfl).trans rfl)
          exact hret 119 _ _ _ _ dX7_driftMonth_119 hP82 hS82 ⟨hW82, hFr82, ⟨trivial, hM.symm.trans hE86⟩⟩
      have hE87 : M = m_X7_driftMonth_L92_62 2000 (AB ad F8) (nI 0) r58 := hE12.trans ((show m_X7_driftMonth_11 (AB ad F8) r8 = m_X7_driftMonth_L92_62 2000 (AB ad F8) (nI 0) (m_X1_walks (AB ad F8) 3 (rl ((AB ad F8) 0 11))) from by unfold m_X7_driftMonth_11; rw [if_pos (eq_cg rfl rfl c13), if_pos (eq_cg m54 rfl c55)]).trans (congr (congr (congrArg (m_X7_driftMonth_L92_62 2000) (rfl : AB ad F8 = AB ad F8)) (Eq.refl ((nI 0) : Int32))) m59))
      exact lp62 2000 (0) F8 H8 locs8 (by omega) (by omega) hW8 hFr8 hP8 hS8 hE87 ls61 (lv_sub hl61 [0, 1, 2] rfl)
    have k88 := ci_ne (nI_toInt (n := b53) (Nat.lt_of_le_of_lt hb53 (by decide))) z_ti c55
    refine lv_aload_n S.1 S.2.1 dX7_driftMonth_65 rfl (lv_at hl0 0 rfl) ?_
    refine r_get S hK hP8 0 (by decide) hF49 (C := RX7) (T := TX7) (N := 15) hiX7 rfl 1 (by decide) (am_at in_wsX7_driftMonth_0 2 rfl) (v := .ref (ad 3)) rfl dX7_driftMonth_66 ?_
    refine lv_aload_n S.1 S.2.1 dX7_driftMonth_69 rfl (lv_at hl0 0 rfl) ?_
    refine r_get S hK hP8 0 (by decide) hF49 (C := RX7) (T := TX7) (N := 15) hiX7 rfl 11 (by decide) (am_at in_wsX7_driftMonth_0 0 rfl) (v := .ref (ad c49)) rfl dX7_driftMonth_70 ?_
    have m89 : (rl ((AB ad F8) 0 11)) = c49 := AB_r hI (lt_C hc49) hF49 rfl
    refine r_cVi (As := [.ref (ad c49)]) (rest := []) S hK hZ hP8 hS8 hl0.1 3 (by decide) hF52 (C := RX1) rfl (c_X1_stayMonth l D cA ad t hI F8 hW8 3 (show isJ 3 from Or.inl rfl) c49 hc49) (cwV 1 S.2.2.2.2 gX7_driftMonth_X1_stayMonth rfl rfl rfl (by decide +kernel) ⟨Nat.le_of_ble_eq_true rfl, Nat.le_of_ble_eq_true rfl⟩) rfl rfl (Nat.le_of_ble_eq_true rfl) ⟨Nat.zero_le _, Nat.zero_le _⟩ dX7_driftMonth_73 (fun r90 F90 H90 locs90 hr90 hP90 hS90 => ?_)
    obtain ⟨hW90, hFc90, hr90⟩ := hr90
    obtain ⟨hr90, hm90⟩ := hr90
    have hFr90 := hFr8.tr hFc90 (by simp <;> first | omega | (simp only [isC, isJ] at *; omega))
    have mc91 : (m_X1_stayMonth (AB ad F8) 3 (rl ((AB ad F8) 0 11))) = (r90, AB ad F90) := (congr (congr (Eq.refl (m_X1_stayMonth (AB ad F8))) (Eq.refl 3)) m89).trans hm90
    have hE93 : M = m_X7_driftMonth_92 (AB ad F90) r90 := hE12.trans ((show m_X7_driftMonth_11 (AB ad F8) r8 = m_X7_driftMonth_92 ((m_X1_stayMonth (AB ad F8) 3 (rl ((AB ad F8) 0 11)))).2 ((m_X1_stayMonth (AB ad F8) 3 (rl ((AB ad F8) 0 11)))).1 from by unfold m_X7_driftMonth_11; rw [if_pos (eq_cg rfl rfl c13), if_neg (neq_cg m54 rfl c55)]).trans (congr (congrArg (m_X7_driftMonth_92) (congrArg Prod.snd mc91)) (congrArg Prod.fst mc91)))
    refine lv_pop S.1 S.2.1 dX7_driftMonth_76 rfl ?_
    have hE94 : M = AB ad F90 := hE93.trans ((show m_X7_driftMonth_92 (AB ad F90) r90 = (AB ad F90) from rfl).trans rfl)
    exact hret 77 _ _ _ _ dX7_driftMonth_77 hP90 hS90 ⟨hW90, hFr90, ⟨trivial, hM.symm.trans hE94⟩⟩
  have k95 := ci_eq rfl z_ti c6
  refine lv_aload_n S.1 S.2.1 dX7_driftMonth_8 rfl (lv_at hl0 0 rfl) ?_
  obtain ⟨c96, d96, k96, dr96, hF96, hc96, hd96, hk96⟩ := wt_main hW1
  refine r_get S hK hP1 0 (by decide) hF96 (C := RX7) (T := TX7) (N := 15) hiX7 rfl 11 (by decide) (am_at in_wsX7_driftMonth_0 0 rfl) (v := .ref (ad c96)) rfl dX7_driftMonth_9 ?_
  have m97 : (rl ((AB ad F1) 0 11)) = c96 := AB_r hI (lt_C hc96) hF96 rfl
  obtain ⟨sl98, fm98, tn98, rn98, bn98, hF98, hb98_1, hb98_2, hb98_3⟩ := wt_C hW1 hc96
  refine r_get S hK hP1 c96 (lt_C hc96) hF98 (C := RX0) (T := TX0) (N := 10) hiX0 rfl 3 (by decide) (am_at in_wsX7_driftMonth_0 1 rfl) (v := .int (nI rn98)) rfl dX7_driftMonth_12 ?_
  have m99 : ((AB ad F1) (rl ((AB ad F1) 0 11)) 3) = (nI rn98) := (congrArg (fun q => AB ad F1 q 3) m97).trans (AB_f hF98 rfl)
  refine lv_if_le (tgt := 43) S.1 S.2.1 dX7_driftMonth_15 (by decide) (fun c100 => ?_) (fun c100 => ?_)
  · skip
    have k101 := ci_le (nI_toInt (n := rn98) (by omega)) z_ti c100
    refine lv_aload_n S.1 S.2.1 dX7_driftMonth_43 rfl (lv_at hl0 0 rfl) ?_
    refine lv_iconst (v := (nI 2)) S.1 S.2.1 dX7_driftMonth_44 (by decide +kernel) ?_
    refine r_cVi (As := [.int (nI 2)]) (rest := []) S hK hZ hP1 hS1 hl0.1 0 (by decide) hF96 (C := RX7) rfl (c_X7_draw l D cA ad t hI F1 hW1 (nI 2)) (cwV 1 S.2.2.2.2 gX7_driftMonth_X7_draw rfl rfl rfl (by decide +kernel) ⟨Nat.le_of_ble_eq_true rfl, Nat.le_of_ble_eq_true rfl⟩) rfl rfl (Nat.le_of_ble_eq_true rfl) ⟨Nat.zero_le _, Nat.zero_le _⟩ dX7_driftMonth_45 (fun r102 F102 H102 locs102 hr102 hP102 hS102 => ?_)
    obtain ⟨hW102, hFc102, hr102⟩ := hr102
    obtain ⟨hr102, hm102⟩ := hr102
    have hFr102 := hFr1.tr hFc102 (by simp <;> first | omega | (simp only [isC, isJ] at *; omega))
    have mc103 : (m_X7_draw (AB ad F1) (nI 2)) = (r102, AB ad F102) := (congr (Eq.refl (m_X7_draw (AB ad F1))) (Eq.refl ((nI 2) : Int32))).trans hm102
    have hE105 : M = m_X7_driftMonth_104 (AB ad F102) r102 := hE5.trans ((show m_X7_driftMonth_4 (AB ad F1) r1 = m_X7_driftMonth_104 ((m_X7_draw (AB ad F1) (nI 2))).2 ((m_X7_draw (AB ad F1) (nI 2))).1 from by unfold m_X7_driftMonth_4; rw [if_pos (eq_cg rfl rfl c6), if_pos (le_cg m99 rfl c100)]).trans (congr (congrArg (m_X7_driftMonth_104) (congrArg Prod.snd mc103)) (congrArg Prod.fst mc103)))
    refine lv_if_ne (tgt := 78) S.1 S.2.1 dX7_driftMonth_48 (by decide) (fun c106 => ?_) (fun c106 => ?_)
    · skip
      have k107 := ci_ne rfl z_ti c106
      refine lv_aload_n S.1 S.2.1 dX7_driftMonth_78 rfl (lv_at hl0 0 rfl) ?_
      obtain ⟨c108, d108, k108, dr108, hF108, hc108, hd108, hk108⟩ := wt_main hW102
      refine r_get S hK hP102 0 (by decide) hF108 (C := RX7) (T := TX7) (N := 15) hiX7 rfl 1 (by decide) (am_at in_wsX7_driftMonth_0 2 rfl) (v := .ref (ad 3)) rfl dX7_driftMonth_79 ?_
      refine lv_aload_n S.1 S.2.1 dX7_driftMonth_82 rfl (lv_at hl0 0 rfl) ?_
      refine r_get S hK hP102 0 (by decide) hF108 (C := RX7) (T := TX7) (N := 15) hiX7 rfl 11 (by decide) (am_at in_wsX7_driftMonth_0 0 rfl) (v := .ref (ad c108)) rfl dX7_driftMonth_83 ?_
      have m109 : (rl ((AB ad F102) 0 11)) = c108 := AB_r hI (lt_C hc108) hF108 rfl
      obtain ⟨ja111, jb111, jc111, jd111, jx111, jy111, jk111, hF111, hk111⟩ := wt_J hW102 (show isJ 3 from Or.inl rfl)
      refine r_cVp (As := [.ref (ad c108)]) (rest := []) S hK hZ hP102 hS102 hl0.1 3 (by decide) hF111 (C := RX1) rfl (c_X1_walks l D cA ad t hI F102 hW102 3 (show isJ 3 from Or.inl rfl) c108 hc108) (cwV 1 S.2.2.2.2 gX7_driftMonth_X1_walks rfl rfl rfl (by decide +kernel) ⟨Nat.le_of_ble_eq_true rfl, Nat.le_of_ble_eq_true rfl⟩) rfl rfl (Nat.le_of_ble_eq_true rfl) ⟨Nat.zero_le _, Nat.zero_le _⟩ dX7_driftMonth_86 (fun r110 hr110 => ?_)
      obtain ⟨hr110, hm110⟩ := hr110
      have m112 : (m_X1_walks (AB ad F102) 3 (rl ((AB ad F102) 0 11))) = r110 := (congr (congr (Eq.refl (m_X1_walks (AB ad F102))) (Eq.refl 3)) m109).trans hm110
      refine lv_istore_n (lv' := [(1, .int r110), (0, .ref (ad 0))]) S.1 S.2.1 dX7_driftMonth_89 rfl hl0 (by decide) rfl (fun ls113 hl113 => ?_)
      refine lv_iconst (v := (nI 0)) S.1 S.2.1 dX7_driftMonth_90 (by decide +kernel) ?_
      refine lv_istore_n (lv' := [(2, .int (nI 0)), (1, .int r110), (0, .ref (ad 0))]) S.1 S.2.1 dX7_driftMonth_91 rfl hl113 (by decide) rfl (fun ls114 hl114 => ?_)
      have lp115 : ∀ (n115 : Nat) (q2115 : Nat), ∀ (Fl115 : Nat → va_E) (Hl115 : Heap) (lol115 : List Loc), q2115 ≤ 8 → 8 - q2115 < n115 → WT cA ad Fl115 → rFr [0, 3] F Fl115 → va_P D vwCl (rW ad Fl115) Hl115 → va_S (rA ad) s.heap Hl115 lol115 → M = m_X7_driftMonth_L92_115 n115 (AB ad Fl115) (nI q2115) r110 → ∀ (ls : Array Slot), lv_has ls 3 [(2, .int (nI q2115)), (1, .int r110), (0, .ref (ad 0))] → W p l e { frames := 4, cells := 0, slots := 0, locals := 87 } s m args below meth c Hl115 lol115 0 0 Q (F0 m 92 ls []) := by
        intro n115
        induction n115 with
        | zero =>
          intro q2115 Fl115 Hl115 lol115 iv115_0 hm115 hWl115 hFl115 hPl115 hSl115 hEl115 ls115 hl115
          exact absurd hm115 (Nat.not_lt_zero _)
        | succ n115 ih115 =>
          intro q2115 Fl115 Hl115 lol115 iv115_0 hm115 hWl115 hFl115 hPl115 hSl115 hEl115 ls115 hl115
          have hE116 : M = m_X7_driftMonth_L92_115_b (m_X7_driftMonth_L92_115 n115) (AB ad Fl115) (nI q2115) r110 := hEl115
          refine lv_iload_n S.1 S.2.1 dX7_driftMonth_92 rfl (lv_at hl115 0 rfl) ?_
          refine lv_aload_n S.1 S.2.1 dX7_driftMonth_93 rfl (lv_at hl115 2 rfl) ?_
          obtain ⟨c117, d117, k117, dr117, hF117, hc117, hd117, hk117⟩ := wt_main hWl115
          refine r_get S hK hPl115 0 (by decide) hF117 (C := RX7) (T := TX7) (N := 15) hiX7 rfl 11 (by decide) (am_at in_wsX7_driftMonth_0 0 rfl) (v := .ref (ad c117)) rfl dX7_driftMonth_94 ?_
          have m118 : (rl ((AB ad Fl115) 0 11)) = c117 := AB_r hI (lt_C hc117) hF117 rfl
          obtain ⟨sl119, fm119, tn119, rn119, bn119, hF119, hb119_1, hb119_2, hb119_3⟩ := wt_C hWl115 hc117
          refine r_get S hK hPl115 c117 (lt_C hc117) hF119 (C := RX0) (T := TX0) (N := 10) hiX0 rfl 2 (by decide) (am_at in_wsX7_driftMonth_0 4 rfl) (v := .int (nI tn119)) rfl dX7_driftMonth_97 ?_
          have m120 : ((AB ad Fl115) (rl ((AB ad Fl115) 0 11)) 2) = (nI tn119) := (congrArg (fun q => AB ad Fl115 q 2) m118).trans (AB_f hF119 rfl)
          refine lv_icmp_ge (tgt := 126) S.1 S.2.1 dX7_driftMonth_100 (by decide) (fun c121 => ?_) (fun c121 => ?_)
          · skip
            have k122 := ci_le (nI_toInt (n := tn119) (by omega)) (nI_toInt (n := q2115) (by omega)) c121
            have hE123 : M = AB ad Fl115 := hE116.trans ((show m_X7_driftMonth_L92_115_b (m_X7_driftMonth_L92_115 n115) (AB ad Fl115) (nI q2115) r110 = (AB ad Fl115) from by unfold m_X7_driftMonth_L92_115_b; rw [if_pos (le_cg m120 rfl c121)]).trans rfl)
            exact hret 126 _ _ _ _ dX7_driftMonth_126 hPl115 hSl115 ⟨hWl115, hFl115, ⟨trivial, hM.symm.trans hE123⟩⟩
          have k124 := ci_nle (nI_toInt (n := tn119) (by omega)) (nI_toInt (n := q2115) (by omega)) c121
          refine lv_iload_n S.1 S.2.1 dX7_driftMonth_103 rfl (lv_at hl115 1 rfl) ?_
          refine lv_iload_n S.1 S.2.1 dX7_driftMonth_104 rfl (lv_at hl115 0 rfl) ?_
          refine lv_ishr S.1 S.2.1 dX7_driftMonth_105 ?_
          refine lv_topi (fun v125 e125 => ?_)
          have m126 : (r110 >>> ((nI q2115) &&& 31)) = v125 := cg2 (fun (x : Int32) (y : Int32) => x >>> (y &&& 31)) (Eq.refl (r110 : Int32)) (Eq.refl ((nI q2115) : Int32)) e125
          refine lv_iconst (v := (nI 1)) S.1 S.2.1 dX7_driftMonth_106 (by decide +kernel) ?_
          refine lv_iand S.1 S.2.1 dX7_driftMonth_107 ?_
          refine lv_topi (fun v127 e127 => ?_)
          have m128 : ((r110 >>> ((nI q2115) &&& 31)) &&& (nI 1)) = v127 := cg2 (fun (x : Int32) (y : Int32) => x &&& y) m126 (Eq.refl ((nI 1) : Int32)) e127
          refine lv_if_eq (tgt := 120) S.1 S.2.1 dX7_driftMonth_108 (by decide) (fun c129 => ?_) (fun c129 => ?_)
          · skip
            have k130 := ci_eq rfl z_ti c129
            have m132 : ((nI q2115) + Int32.ofInt (1)) = (nI (q2115 + 1)) := (congrArg (fun q : Int32 => q + Int32.ofInt (1)) rfl).trans (nI_add _ 1)
            refine lv_iinc (v := (nI (q2115 + 1))) (lv' := [(2, .int (nI (q2115 + 1))), (1, .int r110), (0, .ref (ad 0))]) S.1 S.2.1 dX7_driftMonth_120 hl115 (k := 0) rfl (nI_add _ 1) (by decide) rfl (fun ls131 hl131 => ?_)
            refine lv_goto (tgt := 92) S.1 S.2.1 dX7_driftMonth_123 (by decide) ?_
            have hE133 : M = (m_X7_driftMonth_L92_115 n115) (AB ad Fl115) (nI (q2115 + 1)) r110 := hE116.trans ((show m_X7_driftMonth_L92_115_b (m_X7_driftMonth_L92_115 n115) (AB ad Fl115) (nI q2115) r110 = (m_X7_driftMonth_L92_115 n115) (AB ad Fl115) ((nI q2115) + Int32.ofInt (1)) r110 from by unfold m_X7_driftMonth_L92_115_b; rw [if_neg (nle_cg m120 rfl c121), if_pos (eq_cg m128 rfl c129)]).trans (congr (congr (congrArg ((m_X7_driftMonth_L92_115 n115)) (rfl : AB ad Fl115 = AB ad Fl115)) m132) (Eq.refl (r110 : Int32))))
            exact ih115 (q2115 + 1) Fl115 Hl115 lol115 (by omega) (by omega) hWl115 hFl115 hPl115 hSl115 hE133 ls131 (lv_sub hl131 [0, 1, 2] rfl)
          have k134 := ci_ne rfl z_ti c129
          refine lv_aload_n S.1 S.2.1 dX7_driftMonth_111 rfl (lv_at hl115 2 rfl) ?_
          refine r_get S hK hPl115 0 (by decide) hF117 (C := RX7) (T := TX7) (N := 15) hiX7 rfl 1 (by decide) (am_at in_wsX7_driftMonth_0 2 rfl) (v := .ref (ad 3)) rfl dX7_driftMonth_112 ?_
          refine lv_iload_n S.1 S.2.1 dX7_driftMonth_115 rfl (lv_at hl115 0 rfl) ?_
          obtain ⟨ja136, jb136, jc136, jd136, jx136, jy136, jk136, hF136, hk136⟩ := wt_J hWl115 (show isJ 3 from Or.inl rfl)
          refine r_cVv (As := [.int (nI q2115)]) (rest := []) S hK hZ hPl115 hSl115 hl115.1 3 (by decide) hF136 (C := RX1) rfl (c_X1_walkMonth l D cA ad t hI Fl115 hWl115 3 (show isJ 3 from Or.inl rfl) (nI q2115)) (cwV 1 S.2.2.2.2 gX7_driftMonth_X1_walkMonth rfl rfl rfl (by decide +kernel) ⟨Nat.le_of_ble_eq_true rfl, Nat.le_of_ble_eq_true rfl⟩) rfl rfl (Nat.le_of_ble_eq_true rfl) ⟨Nat.zero_le _, Nat.zero_le _⟩ dX7_driftMonth_116 (fun F135 H135 locs135 hr135 hP135 hS135 => ?_)
          obtain ⟨hW135, hFc135, hr135⟩ := hr135
          obtain ⟨hr135, hm135⟩ := hr135
          have hFr135 := hFl115.tr hFc135 (by simp <;> first | omega | (simp only [isC, isJ] at *; omega))
          have hE138 : M = m_X7_driftMonth_137 (m_X7_driftMonth_L92_115 n115) (AB ad F135) (nI q2115) r110 := hE116.trans ((show m_X7_driftMonth_L92_115_b (m_X7_driftMonth_L92_115 n115) (AB ad Fl115) (nI q2115) r110 = m_X7_driftMonth_137 (m_X7_driftMonth_L92_115 n115) (m_X1_walkMonth (AB ad Fl115) 3 (nI q2115)) (nI q2115) r110 from by unfold m_X7_driftMonth_L92_115_b; rw [if_neg (nle_cg m120 rfl c121), if_neg (neq_cg m128 rfl c129)]).trans (congr (congr (congrArg (m_X7_driftMonth_137 (m_X7_driftMonth_L92_115 n115)) ((congr (congr (Eq.refl (m_X1_walkMonth (AB ad Fl115))) (Eq.refl 3)) (Eq.refl ((nI q2115) : Int32))).trans hm135)) (Eq.refl ((nI q2115) : Int32))) (Eq.refl (r110 : Int32))))
          have hE139 : M = AB ad F135 := hE138.trans ((show m_X7_driftMonth_137 (m_X7_driftMonth_L92_115 n115) (AB ad F135) (nI q2115) r110 = (AB ad F135) from rfl).trans rfl)
          exact hret 119 _ _ _ _ dX7_driftMonth_119 hP135 hS135 ⟨hW135, hFr135, ⟨trivial, hM.symm.trans hE139⟩⟩
      have hE140 : M = m_X7_driftMonth_L92_115 2000 (AB ad F102) (nI 0) r110 := hE105.trans ((show m_X7_driftMonth_104 (AB ad F102) r102 = m_X7_driftMonth_L92_115 2000 (AB ad F102) (nI 0) (m_X1_walks (AB ad F102) 3 (rl ((AB ad F102) 0 11))) from by unfold m_X7_driftMonth_104; rw [if_neg (neq_cg rfl rfl c106)]).trans (congr (congr (congrArg (m_X7_driftMonth_L92_115 2000) (rfl : AB ad F102 = AB ad F102)) (Eq.refl ((nI 0) : Int32))) m112))
      exact lp115 2000 (0) F102 H102 locs102 (by omega) (by omega) hW102 hFr102 hP102 hS102 hE140 ls114 (lv_sub hl114 [0, 1, 2] rfl)
    have k141 := ci_eq rfl z_ti c106
    refine lv_aload_n S.1 S.2.1 dX7_driftMonth_51 rfl (lv_at hl0 0 rfl) ?_
    obtain ⟨c142, d142, k142, dr142, hF142, hc142, hd142, hk142⟩ := wt_main hW102
    refine r_get S hK hP102 0 (by decide) hF142 (C := RX7) (T := TX7) (N := 15) hiX7 rfl 1 (by decide) (am_at in_wsX7_driftMonth_0 2 rfl) (v := .ref (ad 3)) rfl dX7_driftMonth_52 ?_
    refine lv_aload_n S.1 S.2.1 dX7_driftMonth_55 rfl (lv_at hl0 0 rfl) ?_
    refine r_get S hK hP102 0 (by decide) hF142 (C := RX7) (T := TX7) (N := 15) hiX7 rfl 11 (by decide) (am_at in_wsX7_driftMonth_0 0 rfl) (v := .ref (ad c142)) rfl dX7_driftMonth_56 ?_
    have m143 : (rl ((AB ad F102) 0 11)) = c142 := AB_r hI (lt_C hc142) hF142 rfl
    obtain ⟨ja145, jb145, jc145, jd145, jx145, jy145, jk145, hF145, hk145⟩ := wt_J hW102 (show isJ 3 from Or.inl rfl)
    refine r_cVp (As := [.ref (ad c142)]) (rest := []) S hK hZ hP102 hS102 hl0.1 3 (by decide) hF145 (C := RX1) rfl (c_X1_mayStay l D cA ad t hI F102 hW102 3 (show isJ 3 from Or.inl rfl) c142 hc142) (cwV 1 S.2.2.2.2 gX7_driftMonth_X1_mayStay rfl rfl rfl (by decide +kernel) ⟨Nat.le_of_ble_eq_true rfl, Nat.le_of_ble_eq_true rfl⟩) rfl rfl (Nat.le_of_ble_eq_true rfl) ⟨Nat.zero_le _, Nat.zero_le _⟩ dX7_driftMonth_59 (fun r144 hr144 => ?_)
    obtain ⟨hr144, hm144⟩ := hr144
    obtain ⟨b146, hb146, rfl⟩ := hr144
    have m147 : (m_X1_mayStay (AB ad F102) 3 (rl ((AB ad F102) 0 11))) = (nI b146) := (congr (congr (Eq.refl (m_X1_mayStay (AB ad F102))) (Eq.refl 3)) m143).trans hm144
    refine lv_if_eq (tgt := 78) S.1 S.2.1 dX7_driftMonth_62 (by decide) (fun c148 => ?_) (fun c148 => ?_)
    · skip
      have k149 := ci_eq (nI_toInt (n := b146) (Nat.lt_of_le_of_lt hb146 (by decide))) z_ti c148
      refine lv_aload_n S.1 S.2.1 dX7_driftMonth_78 rfl (lv_at hl0 0 rfl) ?_
      refine r_get S hK hP102 0 (by decide) hF142 (C := RX7) (T := TX7) (N := 15) hiX7 rfl 1 (by decide) (am_at in_wsX7_driftMonth_0 2 rfl) (v := .ref (ad 3)) rfl dX7_driftMonth_79 ?_
      refine lv_aload_n S.1 S.2.1 dX7_driftMonth_82 rfl (lv_at hl0 0 rfl) ?_
      refine r_get S hK hP102 0 (by decide) hF142 (C := RX7) (T := TX7) (N := 15) hiX7 rfl 11 (by decide) (am_at in_wsX7_driftMonth_0 0 rfl) (v := .ref (ad c142)) rfl dX7_driftMonth_83 ?_
      have m150 : (rl ((AB ad F102) 0 11)) = c142 := AB_r hI (lt_C hc142) hF142 rfl
      refine r_cVp (As := [.ref (ad c142)]) (rest := []) S hK hZ hP102 hS102 hl0.1 3 (by decide) hF145 (C := RX1) rfl (c_X1_walks l D cA ad t hI F102 hW102 3 (show isJ 3 from Or.inl rfl) c142 hc142) (cwV 1 S.2.2.2.2 gX7_driftMonth_X1_walks rfl rfl rfl (by decide +kernel) ⟨Nat.le_of_ble_eq_true rfl, Nat.le_of_ble_eq_true rfl⟩) rfl rfl (Nat.le_of_ble_eq_true rfl) ⟨Nat.zero_le _, Nat.zero_le _⟩ dX7_driftMonth_86 (fun r151 hr151 => ?_)
      obtain ⟨hr151, hm151⟩ := hr151
      have m152 : (m_X1_walks (AB ad F102) 3 (rl ((AB ad F102) 0 11))) = r151 := (congr (congr (Eq.refl (m_X1_walks (AB ad F102))) (Eq.refl 3)) m150).trans hm151
      refine lv_istore_n (lv' := [(1, .int r151), (0, .ref (ad 0))]) S.1 S.2.1 dX7_driftMonth_89 rfl hl0 (by decide) rfl (fun ls153 hl153 => ?_)
      refine lv_iconst (v := (nI 0)) S.1 S.2.1 dX7_driftMonth_90 (by decide +kernel) ?_
      refine lv_istore_n (lv' := [(2, .int (nI 0)), (1, .int r151), (0, .ref (ad 0))]) S.1 S.2.1 dX7_driftMonth_91 rfl hl153 (by decide) rfl (fun ls154 hl154 => ?_)
      have lp155 : ∀ (n155 : Nat) (q2155 : Nat), ∀ (Fl155 : Nat → va_E) (Hl155 : Heap) (lol155 : List Loc), q2155 ≤ 8 → 8 - q2155 < n155 → WT cA ad Fl155 → rFr [0, 3] F Fl155 → va_P D vwCl (rW ad Fl155) Hl155 → va_S (rA ad) s.heap Hl155 lol155 → M = m_X7_driftMonth_L92_155 n155 (AB ad Fl155) (nI q2155) r151 → ∀ (ls : Array Slot), lv_has ls 3 [(2, .int (nI q2155)), (1, .int r151), (0, .ref (ad 0))] → W p l e { frames := 4, cells := 0, slots := 0, locals := 87 } s m args below meth c Hl155 lol155 0 0 Q (F0 m 92 ls []) := by
        intro n155
        induction n155 with
        | zero =>
          intro q2155 Fl155 Hl155 lol155 iv155_0 hm155 hWl155 hFl155 hPl155 hSl155 hEl155 ls155 hl155
          exact absurd hm155 (Nat.not_lt_zero _)
        | succ n155 ih155 =>
          intro q2155 Fl155 Hl155 lol155 iv155_0 hm155 hWl155 hFl155 hPl155 hSl155 hEl155 ls155 hl155
          have hE156 : M = m_X7_driftMonth_L92_155_b (m_X7_driftMonth_L92_155 n155) (AB ad Fl155) (nI q2155) r151 := hEl155
          refine lv_iload_n S.1 S.2.1 dX7_driftMonth_92 rfl (lv_at hl155 0 rfl) ?_
          refine lv_aload_n S.1 S.2.1 dX7_driftMonth_93 rfl (lv_at hl155 2 rfl) ?_
          obtain ⟨c157, d157, k157, dr157, hF157, hc157, hd157, hk157⟩ := wt_main hWl155
          refine r_get S hK hPl155 0 (by decide) hF157 (C := RX7) (T := TX7) (N := 15) hiX7 rfl 11 (by decide) (am_at in_wsX7_driftMonth_0 0 rfl) (v := .ref (ad c157)) rfl dX7_driftMonth_94 ?_
          have m158 : (rl ((AB ad Fl155) 0 11)) = c157 := AB_r hI (lt_C hc157) hF157 rfl
          obtain ⟨sl159, fm159, tn159, rn159, bn159, hF159, hb159_1, hb159_2, hb159_3⟩ := wt_C hWl155 hc157
          refine r_get S hK hPl155 c157 (lt_C hc157) hF159 (C := RX0) (T := TX0) (N := 10) hiX0 rfl 2 (by decide) (am_at in_wsX7_driftMonth_0 4 rfl) (v := .int (nI tn159)) rfl dX7_driftMonth_97 ?_
          have m160 : ((AB ad Fl155) (rl ((AB ad Fl155) 0 11)) 2) = (nI tn159) := (congrArg (fun q => AB ad Fl155 q 2) m158).trans (AB_f hF159 rfl)
          refine lv_icmp_ge (tgt := 126) S.1 S.2.1 dX7_driftMonth_100 (by decide) (fun c161 => ?_) (fun c161 => ?_)
          · skip
            have k162 := ci_le (nI_toInt (n := tn159) (by omega)) (nI_toInt (n := q2155) (by omega)) c161
            have hE163 : M = AB ad Fl155 := hE156.trans ((show m_X7_driftMonth_L92_155_b (m_X7_driftMonth_L92_155 n155) (AB ad Fl155) (nI q2155) r151 = (AB ad Fl155) from by unfold m_X7_driftMonth_L92_155_b; rw [if_pos (le_cg m160 rfl c161)]).trans rfl)
            exact hret 126 _ _ _ _ dX7_driftMonth_126 hPl155 hSl155 ⟨hWl155, hFl155, ⟨trivial, hM.symm.trans hE163⟩⟩
          have k164 := ci_nle (nI_toInt (n := tn159) (by omega)) (nI_toInt (n := q2155) (by omega)) c161
          refine lv_iload_n S.1 S.2.1 dX7_driftMonth_103 rfl (lv_at hl155 1 rfl) ?_
          refine lv_iload_n S.1 S.2.1 dX7_driftMonth_104 rfl (lv_at hl155 0 rfl) ?_
          refine lv_ishr S.1 S.2.1 dX7_driftMonth_105 ?_
          refine lv_topi (fun v165 e165 => ?_)
          have m166 : (r151 >>> ((nI q2155) &&& 31)) = v165 := cg2 (fun (x : Int32) (y : Int32) => x >>> (y &&& 31)) (Eq.refl (r151 : Int32)) (Eq.refl ((nI q2155) : Int32)) e165
          refine lv_iconst (v := (nI 1)) S.1 S.2.1 dX7_driftMonth_106 (by decide +kernel) ?_
          refine lv_iand S.1 S.2.1 dX7_driftMonth_107 ?_
          refine lv_topi (fun v167 e167 => ?_)
          have m168 : ((r151 >>> ((nI q2155) &&& 31)) &&& (nI 1)) = v167 := cg2 (fun (x : Int32) (y : Int32) => x &&& y) m166 (Eq.refl ((nI 1) : Int32)) e167
          refine lv_if_eq (tgt := 120) S.1 S.2.1 dX7_driftMonth_108 (by decide) (fun c169 => ?_) (fun c169 => ?_)
          · skip
            have k170 := ci_eq rfl z_ti c169
            have m172 : ((nI q2155) + Int32.ofInt (1)) = (nI (q2155 + 1)) := (congrArg (fun q : Int32 => q + Int32.ofInt (1)) rfl).trans (nI_add _ 1)
            refine lv_iinc (v := (nI (q2155 + 1))) (lv' := [(2, .int (nI (q2155 + 1))), (1, .int r151), (0, .ref (ad 0))]) S.1 S.2.1 dX7_driftMonth_120 hl155 (k := 0) rfl (nI_add _ 1) (by decide) rfl (fun ls171 hl171 => ?_)
            refine lv_goto (tgt := 92) S.1 S.2.1 dX7_driftMonth_123 (by decide) ?_
            have hE173 : M = (m_X7_driftMonth_L92_155 n155) (AB ad Fl155) (nI (q2155 + 1)) r151 := hE156.trans ((show m_X7_driftMonth_L92_155_b (m_X7_driftMonth_L92_155 n155) (AB ad Fl155) (nI q2155) r151 = (m_X7_driftMonth_L92_155 n155) (AB ad Fl155) ((nI q2155) + Int32.ofInt (1)) r151 from by unfold m_X7_driftMonth_L92_155_b; rw [if_neg (nle_cg m160 rfl c161), if_pos (eq_cg m168 rfl c169)]).trans (congr (congr (congrArg ((m_X7_driftMonth_L92_155 n155)) (rfl : AB ad Fl155 = AB ad Fl155)) m172) (Eq.refl (r151 : Int32))))
            exact ih155 (q2155 + 1) Fl155 Hl155 lol155 (by omega) (by omega) hWl155 hFl155 hPl155 hSl155 hE173 ls171 (lv_sub hl171 [0, 1, 2] rfl)
          have k174 := ci_ne rfl z_ti c169
          refine lv_aload_n S.1 S.2.1 dX7_driftMonth_111 rfl (lv_at hl155 2 rfl) ?_
          refine r_get S hK hPl155 0 (by decide) hF157 (C := RX7) (T := TX7) (N := 15) hiX7 rfl 1 (by decide) (am_at in_wsX7_driftMonth_0 2 rfl) (v := .ref (ad 3)) rfl dX7_driftMonth_112 ?_
          refine lv_iload_n S.1 S.2.1 dX7_driftMonth_115 rfl (lv_at hl155 0 rfl) ?_
          obtain ⟨ja176, jb176, jc176, jd176, jx176, jy176, jk176, hF176, hk176⟩ := wt_J hWl155 (show isJ 3 from Or.inl rfl)
          refine r_cVv (As := [.int (nI q2155)]) (rest := []) S hK hZ hPl155 hSl155 hl155.1 3 (by decide) hF176 (C := RX1) rfl (c_X1_walkMonth l D cA ad t hI Fl155 hWl155 3 (show isJ 3 from Or.inl rfl) (nI q2155)) (cwV 1 S.2.2.2.2 gX7_driftMonth_X1_walkMonth rfl rfl rfl (by decide +kernel) ⟨Nat.le_of_ble_eq_true rfl, Nat.le_of_ble_eq_true rfl⟩) rfl rfl (Nat.le_of_ble_eq_true rfl) ⟨Nat.zero_le _, Nat.zero_le _⟩ dX7_driftMonth_116 (fun F175 H175 locs175 hr175 hP175 hS175 => ?_)
          obtain ⟨hW175, hFc175, hr175⟩ := hr175
          obtain ⟨hr175, hm175⟩ := hr175
          have hFr175 := hFl155.tr hFc175 (by simp <;> first | omega | (simp only [isC, isJ] at *; omega))
          have hE178 : M = m_X7_driftMonth_177 (m_X7_driftMonth_L92_155 n155) (AB ad F175) (nI q2155) r151 := hE156.trans ((show m_X7_driftMonth_L92_155_b (m_X7_driftMonth_L92_155 n155) (AB ad Fl155) (nI q2155) r151 = m_X7_driftMonth_177 (m_X7_driftMonth_L92_155 n155) (m_X1_walkMonth (AB ad Fl155) 3 (nI q2155)) (nI q2155) r151 from by unfold m_X7_driftMonth_L92_155_b; rw [if_neg (nle_cg m160 rfl c161), if_neg (neq_cg m168 rfl c169)]).trans (congr (congr (congrArg (m_X7_driftMonth_177 (m_X7_driftMonth_L92_155 n155)) ((congr (congr (Eq.refl (m_X1_walkMonth (AB ad Fl155))) (Eq.refl 3)) (Eq.refl ((nI q2155) : Int32))).trans hm175)) (Eq.refl ((nI q2155) : Int32))) (Eq.refl (r151 : Int32))))
          have hE179 : M = AB ad F175 := hE178.trans ((show m_X7_driftMonth_177 (m_X7_driftMonth_L92_155 n155) (AB ad F175) (nI q2155) r151 = (AB ad F175) from rfl).trans rfl)
          exact hret 119 _ _ _ _ dX7_driftMonth_119 hP175 hS175 ⟨hW175, hFr175, ⟨trivial, hM.symm.trans hE179⟩⟩
      have hE180 : M = m_X7_driftMonth_L92_155 2000 (AB ad F102) (nI 0) r151 := hE105.trans ((show m_X7_driftMonth_104 (AB ad F102) r102 = m_X7_driftMonth_L92_155 2000 (AB ad F102) (nI 0) (m_X1_walks (AB ad F102) 3 (rl ((AB ad F102) 0 11))) from by unfold m_X7_driftMonth_104; rw [if_pos (eq_cg rfl rfl c106), if_pos (eq_cg m147 rfl c148)]).trans (congr (congr (congrArg (m_X7_driftMonth_L92_155 2000) (rfl : AB ad F102 = AB ad F102)) (Eq.refl ((nI 0) : Int32))) m152))
      exact lp155 2000 (0) F102 H102 locs102 (by omega) (by omega) hW102 hFr102 hP102 hS102 hE180 ls154 (lv_sub hl154 [0, 1, 2] rfl)
    have k181 := ci_ne (nI_toInt (n := b146) (Nat.lt_of_le_of_lt hb146 (by decide))) z_ti c148
    refine lv_aload_n S.1 S.2.1 dX7_driftMonth_65 rfl (lv_at hl0 0 rfl) ?_
    refine r_get S hK hP102 0 (by decide) hF142 (C := RX7) (T := TX7) (N := 15) hiX7 rfl 1 (by decide) (am_at in_wsX7_driftMonth_0 2 rfl) (v := .ref (ad 3)) rfl dX7_driftMonth_66 ?_
    refine lv_aload_n S.1 S.2.1 dX7_driftMonth_69 rfl (lv_at hl0 0 rfl) ?_
    refine r_get S hK hP102 0 (by decide) hF142 (C := RX7) (T := TX7) (N := 15) hiX7 rfl 11 (by decide) (am_at in_wsX7_driftMonth_0 0 rfl) (v := .ref (ad c142)) rfl dX7_driftMonth_70 ?_
    have m182 : (rl ((AB ad F102) 0 11)) = c142 := AB_r hI (lt_C hc142) hF142 rfl
    refine r_cVi (As := [.ref (ad c142)]) (rest := []) S hK hZ hP102 hS102 hl0.1 3 (by decide) hF145 (C := RX1) rfl (c_X1_stayMonth l D cA ad t hI F102 hW102 3 (show isJ 3 from Or.inl rfl) c142 hc142) (cwV 1 S.2.2.2.2 gX7_driftMonth_X1_stayMonth rfl rfl rfl (by decide +kernel) ⟨Nat.le_of_ble_eq_true rfl, Nat.le_of_ble_eq_true rfl⟩) rfl rfl (Nat.le_of_ble_eq_true rfl) ⟨Nat.zero_le _, Nat.zero_le _⟩ dX7_driftMonth_73 (fun r183 F183 H183 locs183 hr183 hP183 hS183 => ?_)
    obtain ⟨hW183, hFc183, hr183⟩ := hr183
    obtain ⟨hr183, hm183⟩ := hr183
    have hFr183 := hFr102.tr hFc183 (by simp <;> first | omega | (simp only [isC, isJ] at *; omega))
    have mc184 : (m_X1_stayMonth (AB ad F102) 3 (rl ((AB ad F102) 0 11))) = (r183, AB ad F183) := (congr (congr (Eq.refl (m_X1_stayMonth (AB ad F102))) (Eq.refl 3)) m182).trans hm183
    have hE186 : M = m_X7_driftMonth_185 (AB ad F183) r183 := hE105.trans ((show m_X7_driftMonth_104 (AB ad F102) r102 = m_X7_driftMonth_185 ((m_X1_stayMonth (AB ad F102) 3 (rl ((AB ad F102) 0 11)))).2 ((m_X1_stayMonth (AB ad F102) 3 (rl ((AB ad F102) 0 11)))).1 from by unfold m_X7_driftMonth_104; rw [if_pos (eq_cg rfl rfl c106), if_neg (neq_cg m147 rfl c148)]).trans (congr (congrArg (m_X7_driftMonth_185) (congrArg Prod.snd mc184)) (congrArg Prod.fst mc184)))
    refine lv_pop S.1 S.2.1 dX7_driftMonth_76 rfl ?_
    have hE187 : M = AB ad F183 := hE186.trans ((show m_X7_driftMonth_185 (AB ad F183) r183 = (AB ad F183) from rfl).trans rfl)
    exact hret 77 _ _ _ _ dX7_driftMonth_77 hP183 hS183 ⟨hW183, hFr183, ⟨trivial, hM.symm.trans hE187⟩⟩
  have k188 := ci_nle (nI_toInt (n := rn98) (by omega)) z_ti c100
  refine lv_aload_n S.1 S.2.1 dX7_driftMonth_18 rfl (lv_at hl0 0 rfl) ?_
  refine r_get S hK hP1 0 (by decide) hF96 (C := RX7) (T := TX7) (N := 15) hiX7 rfl 1 (by decide) (am_at in_wsX7_driftMonth_0 2 rfl) (v := .ref (ad 3)) rfl dX7_driftMonth_19 ?_
  refine lv_dup S.1 S.2.1 dX7_driftMonth_22 rfl ?_
  obtain ⟨ja189, jb189, jc189, jd189, jx189, jy189, jk189, hF189, hk189⟩ := wt_J hW1 (show isJ 3 from Or.inl rfl)
  refine r_get S hK hP1 3 (by decide) hF189 (C := RX1) (T := TX1) (N := 7) hiX1 rfl 5 (by decide) (am_at in_wsX7_driftMonth_0 3 rfl) (v := .int jy189) rfl dX7_driftMonth_23 ?_
  have m190 : ((AB ad F1) 3 5) = jy189 := AB_f hF189 rfl
  refine lv_iconst (v := (nI 1)) S.1 S.2.1 dX7_driftMonth_26 (by decide +kernel) ?_
  refine lv_aload_n S.1 S.2.1 dX7_driftMonth_27 rfl (lv_at hl0 0 rfl) ?_
  refine lv_aload_n S.1 S.2.1 dX7_driftMonth_28 rfl (lv_at hl0 0 rfl) ?_
  refine r_get S hK hP1 0 (by decide) hF96 (C := RX7) (T := TX7) (N := 15) hiX7 rfl 11 (by decide) (am_at in_wsX7_driftMonth_0 0 rfl) (v := .ref (ad c96)) rfl dX7_driftMonth_29 ?_
  have m191 : (rl ((AB ad F1) 0 11)) = c96 := AB_r hI (lt_C hc96) hF96 rfl
  refine r_get S hK hP1 c96 (lt_C hc96) hF98 (C := RX0) (T := TX0) (N := 10) hiX0 rfl 3 (by decide) (am_at in_wsX7_driftMonth_0 1 rfl) (v := .int (nI rn98)) rfl dX7_driftMonth_32 ?_
  have m192 : ((AB ad F1) (rl ((AB ad F1) 0 11)) 3) = (nI rn98) := (congrArg (fun q => AB ad F1 q 3) m191).trans (AB_f hF98 rfl)
  refine r_cVi (As := [.int (nI rn98)]) (rest := [.int (nI 1), .int jy189, .ref (ad 3)]) S hK hZ hP1 hS1 hl0.1 0 (by decide) hF96 (C := RX7) rfl (c_X7_draw l D cA ad t hI F1 hW1 (nI rn98)) (cwV 1 S.2.2.2.2 gX7_driftMonth_X7_draw rfl rfl rfl (by decide +kernel) ⟨Nat.le_of_ble_eq_true rfl, Nat.le_of_ble_eq_true rfl⟩) rfl rfl (Nat.le_of_ble_eq_true rfl) ⟨Nat.zero_le _, Nat.zero_le _⟩ dX7_driftMonth_35 (fun r193 F193 H193 locs193 hr193 hP193 hS193 => ?_)
  obtain ⟨hW193, hFc193, hr193⟩ := hr193
  obtain ⟨hr193, hm193⟩ := hr193
  have hFr193 := hFr1.tr hFc193 (by simp <;> first | omega | (simp only [isC, isJ] at *; omega))
  have mc194 : (m_X7_draw (AB ad F1) ((AB ad F1) (rl ((AB ad F1) 0 11)) 3)) = (r193, AB ad F193) := (congr (Eq.refl (m_X7_draw (AB ad F1))) m192).trans hm193
  have hE196 : M = m_X7_driftMonth_195 (AB ad F193) jy189 r193 := hE5.trans ((show m_X7_driftMonth_4 (AB ad F1) r1 = m_X7_driftMonth_195 ((m_X7_draw (AB ad F1) ((AB ad F1) (rl ((AB ad F1) 0 11)) 3))).2 ((AB ad F1) 3 5) ((m_X7_draw (AB ad F1) ((AB ad F1) (rl ((AB ad F1) 0 11)) 3))).1 from by unfold m_X7_driftMonth_4; rw [if_pos (eq_cg rfl rfl c6), if_neg (nle_cg m99 rfl c100)]).trans (congr (congr (congrArg (m_X7_driftMonth_195) (congrArg Prod.snd mc194)) m190) (congrArg Prod.fst mc194)))
  refine lv_ishl S.1 S.2.1 dX7_driftMonth_38 ?_
  refine lv_topi (fun v197 e197 => ?_)
  have m198 : ((nI 1) <<< (r193 &&& 31)) = v197 := cg2 (fun (x : Int32) (y : Int32) => x <<< (y &&& 31)) (Eq.refl ((nI 1) : Int32)) (Eq.refl (r193 : Int32)) e197
  refine lv_ixor S.1 S.2.1 dX7_driftMonth_39 ?_
  refine lv_topi (fun v199 e199 => ?_)
  have m200 : (jy189 ^^^ ((nI 1) <<< (r193 &&& 31))) = v199 := cg2 (fun (x : Int32) (y : Int32) => x ^^^ y) (Eq.refl (jy189 : Int32)) m198 e199
  have hF201 := (hFc193 3 (by decide)).trans hF189
  refine r_put S hI hK hP193 hS193 3 (by decide) hF201 (C := RX1) (T := TX1) (N := 7) hiX1 tyX1_ok nmX1 rfl 5 (by decide) (am_at in_wsX7_driftMonth_0 3 rfl) rfl rfl rfl (Nat.le_of_ble_eq_true rfl) dX7_driftMonth_40 (fun F202 H202 locs202 eF202 hP202 hS202 => ?_)
  have hF202 : F202 3 = .inr (1, [.int ja189, .int jb189, .int jc189, .int jd189, .int jx189, .int v199, .int (nI jk189)]) := by rw [eF202]; exact va_up_self _ _ _
  have hW202 := hW193.up eF202 (ok_J (show isJ 3 from Or.inl rfl) ⟨ja189, jb189, jc189, jd189, jx189, v199, jk189, rfl, by omega⟩)
  have hFr202 := hFr193.up eF202 (by simp <;> first | omega | (simp only [isC, isJ] at *; omega))
  have hE204 : M = m_X7_driftMonth_203 (AB ad F202) := hE196.trans ((show m_X7_driftMonth_195 (AB ad F193) jy189 r193 = m_X7_driftMonth_203 (st (AB ad F193) 3 5 (jy189 ^^^ ((nI 1) <<< (r193 &&& 31)))) from rfl).trans (congrArg (m_X7_driftMonth_203) ((st_cg rfl rfl m200).trans (AB_put hF201 (Nat.le_of_ble_eq_true rfl) eF202).symm)))
  refine lv_aload_n S.1 S.2.1 dX7_driftMonth_43 rfl (lv_at hl0 0 rfl) ?_
  refine lv_iconst (v := (nI 2)) S.1 S.2.1 dX7_driftMonth_44 (by decide +kernel) ?_
  obtain ⟨c206, d206, k206, dr206, hF206, hc206, hd206, hk206⟩ := wt_main hW202
  refine r_cVi (As := [.int (nI 2)]) (rest := []) S hK hZ hP202 hS202 hl0.1 0 (by decide) hF206 (C := RX7) rfl (c_X7_draw l D cA ad t hI F202 hW202 (nI 2)) (cwV 1 S.2.2.2.2 gX7_driftMonth_X7_draw rfl rfl rfl (by decide +kernel) ⟨Nat.le_of_ble_eq_true rfl, Nat.le_of_ble_eq_true rfl⟩) rfl rfl (Nat.le_of_ble_eq_true rfl) ⟨Nat.zero_le _, Nat.zero_le _⟩ dX7_driftMonth_45 (fun r205 F205 H205 locs205 hr205 hP205 hS205 => ?_)
  obtain ⟨hW205, hFc205, hr205⟩ := hr205
  obtain ⟨hr205, hm205⟩ := hr205
  have hFr205 := hFr202.tr hFc205 (by simp <;> first | omega | (simp only [isC, isJ] at *; omega))
  have mc207 : (m_X7_draw (AB ad F202) (nI 2)) = (r205, AB ad F205) := (congr (Eq.refl (m_X7_draw (AB ad F202))) (Eq.refl ((nI 2) : Int32))).trans hm205
  have hE209 : M = m_X7_driftMonth_208 (AB ad F205) r205 := hE204.trans ((show m_X7_driftMonth_203 (AB ad F202) = m_X7_driftMonth_208 ((m_X7_draw (AB ad F202) (nI 2))).2 ((m_X7_draw (AB ad F202) (nI 2))).1 from rfl).trans (congr (congrArg (m_X7_driftMonth_208) (congrArg Prod.snd mc207)) (congrArg Prod.fst mc207)))
  refine lv_if_ne (tgt := 78) S.1 S.2.1 dX7_driftMonth_48 (by decide) (fun c210 => ?_) (fun c210 => ?_)
  · skip
    have k211 := ci_ne rfl z_ti c210
    refine lv_aload_n S.1 S.2.1 dX7_driftMonth_78 rfl (lv_at hl0 0 rfl) ?_
    obtain ⟨c212, d212, k212, dr212, hF212, hc212, hd212, hk212⟩ := wt_main hW205
    refine r_get S hK hP205 0 (by decide) hF212 (C := RX7) (T := TX7) (N := 15) hiX7 rfl 1 (by decide) (am_at in_wsX7_driftMonth_0 2 rfl) (v := .ref (ad 3)) rfl dX7_driftMonth_79 ?_
    refine lv_aload_n S.1 S.2.1 dX7_driftMonth_82 rfl (lv_at hl0 0 rfl) ?_
    refine r_get S hK hP205 0 (by decide) hF212 (C := RX7) (T := TX7) (N := 15) hiX7 rfl 11 (by decide) (am_at in_wsX7_driftMonth_0 0 rfl) (v := .ref (ad c212)) rfl dX7_driftMonth_83 ?_
    have m213 : (rl ((AB ad F205) 0 11)) = c212 := AB_r hI (lt_C hc212) hF212 rfl
    have hF215 := (hFc205 3 (by decide)).trans hF202
    refine r_cVp (As := [.ref (ad c212)]) (rest := []) S hK hZ hP205 hS205 hl0.1 3 (by decide) hF215 (C := RX1) rfl (c_X1_walks l D cA ad t hI F205 hW205 3 (show isJ 3 from Or.inl rfl) c212 hc212) (cwV 1 S.2.2.2.2 gX7_driftMonth_X1_walks rfl rfl rfl (by decide +kernel) ⟨Nat.le_of_ble_eq_true rfl, Nat.le_of_ble_eq_true rfl⟩) rfl rfl (Nat.le_of_ble_eq_true rfl) ⟨Nat.zero_le _, Nat.zero_le _⟩ dX7_driftMonth_86 (fun r214 hr214 => ?_)
    obtain ⟨hr214, hm214⟩ := hr214
    have m216 : (m_X1_walks (AB ad F205) 3 (rl ((AB ad F205) 0 11))) = r214 := (congr (congr (Eq.refl (m_X1_walks (AB ad F205))) (Eq.refl 3)) m213).trans hm214
    refine lv_istore_n (lv' := [(1, .int r214), (0, .ref (ad 0))]) S.1 S.2.1 dX7_driftMonth_89 rfl hl0 (by decide) rfl (fun ls217 hl217 => ?_)
    refine lv_iconst (v := (nI 0)) S.1 S.2.1 dX7_driftMonth_90 (by decide +kernel) ?_
    refine lv_istore_n (lv' := [(2, .int (nI 0)), (1, .int r214), (0, .ref (ad 0))]) S.1 S.2.1 dX7_driftMonth_91 rfl hl217 (by decide) rfl (fun ls218 hl218 => ?_)
    have lp219 : ∀ (n219 : Nat) (q2219 : Nat), ∀ (Fl219 : Nat → va_E) (Hl219 : Heap) (lol219 : List Loc), q2219 ≤ 8 → 8 - q2219 < n219 → WT cA ad Fl219 → rFr [0, 3] F Fl219 → va_P D vwCl (rW ad Fl219) Hl219 → va_S (rA ad) s.heap Hl219 lol219 → M = m_X7_driftMonth_L92_219 n219 (AB ad Fl219) (nI q2219) r214 → ∀ (ls : Array Slot), lv_has ls 3 [(2, .int (nI q2219)), (1, .int r214), (0, .ref (ad 0))] → W p l e { frames := 4, cells := 0, slots := 0, locals := 87 } s m args below meth c Hl219 lol219 0 0 Q (F0 m 92 ls []) := by
      intro n219
      induction n219 with
      | zero =>
        intro q2219 Fl219 Hl219 lol219 iv219_0 hm219 hWl219 hFl219 hPl219 hSl219 hEl219 ls219 hl219
        exact absurd hm219 (Nat.not_lt_zero _)
      | succ n219 ih219 =>
        intro q2219 Fl219 Hl219 lol219 iv219_0 hm219 hWl219 hFl219 hPl219 hSl219 hEl219 ls219 hl219
        have hE220 : M = m_X7_driftMonth_L92_219_b (m_X7_driftMonth_L92_219 n219) (AB ad Fl219) (nI q2219) r214 := hEl219
        refine lv_iload_n S.1 S.2.1 dX7_driftMonth_92 rfl (lv_at hl219 0 rfl) ?_
        refine lv_aload_n S.1 S.2.1 dX7_driftMonth_93 rfl (lv_at hl219 2 rfl) ?_
        obtain ⟨c221, d221, k221, dr221, hF221, hc221, hd221, hk221⟩ := wt_main hWl219
        refine r_get S hK hPl219 0 (by decide) hF221 (C := RX7) (T := TX7) (N := 15) hiX7 rfl 11 (by decide) (am_at in_wsX7_driftMonth_0 0 rfl) (v := .ref (ad c221)) rfl dX7_driftMonth_94 ?_
        have m222 : (rl ((AB ad Fl219) 0 11)) = c221 := AB_r hI (lt_C hc221) hF221 rfl
        obtain ⟨sl223, fm223, tn223, rn223, bn223, hF223, hb223_1, hb223_2, hb223_3⟩ := wt_C hWl219 hc221
        refine r_get S hK hPl219 c221 (lt_C hc221) hF223 (C := RX0) (T := TX0) (N := 10) hiX0 rfl 2 (by decide) (am_at in_wsX7_driftMonth_0 4 rfl) (v := .int (nI tn223)) rfl dX7_driftMonth_97 ?_
        have m224 : ((AB ad Fl219) (rl ((AB ad Fl219) 0 11)) 2) = (nI tn223) := (congrArg (fun q => AB ad Fl219 q 2) m222).trans (AB_f hF223 rfl)
        refine lv_icmp_ge (tgt := 126) S.1 S.2.1 dX7_driftMonth_100 (by decide) (fun c225 => ?_) (fun c225 => ?_)
        · skip
          have k226 := ci_le (nI_toInt (n := tn223) (by omega)) (nI_toInt (n := q2219) (by omega)) c225
          have hE227 : M = AB ad Fl219 := hE220.trans ((show m_X7_driftMonth_L92_219_b (m_X7_driftMonth_L92_219 n219) (AB ad Fl219) (nI q2219) r214 = (AB ad Fl219) from by unfold m_X7_driftMonth_L92_219_b; rw [if_pos (le_cg m224 rfl c225)]).trans rfl)
          exact hret 126 _ _ _ _ dX7_driftMonth_126 hPl219 hSl219 ⟨hWl219, hFl219, ⟨trivial, hM.symm.trans hE227⟩⟩
        have k228 := ci_nle (nI_toInt (n := tn223) (by omega)) (nI_toInt (n := q2219) (by omega)) c225
        refine lv_iload_n S.1 S.2.1 dX7_driftMonth_103 rfl (lv_at hl219 1 rfl) ?_
        refine lv_iload_n S.1 S.2.1 dX7_driftMonth_104 rfl (lv_at hl219 0 rfl) ?_
        refine lv_ishr S.1 S.2.1 dX7_driftMonth_105 ?_
        refine lv_topi (fun v229 e229 => ?_)
        have m230 : (r214 >>> ((nI q2219) &&& 31)) = v229 := cg2 (fun (x : Int32) (y : Int32) => x >>> (y &&& 31)) (Eq.refl (r214 : Int32)) (Eq.refl ((nI q2219) : Int32)) e229
        refine lv_iconst (v := (nI 1)) S.1 S.2.1 dX7_driftMonth_106 (by decide +kernel) ?_
        refine lv_iand S.1 S.2.1 dX7_driftMonth_107 ?_
        refine lv_topi (fun v231 e231 => ?_)
        have m232 : ((r214 >>> ((nI q2219) &&& 31)) &&& (nI 1)) = v231 := cg2 (fun (x : Int32) (y : Int32) => x &&& y) m230 (Eq.refl ((nI 1) : Int32)) e231
        refine lv_if_eq (tgt := 120) S.1 S.2.1 dX7_driftMonth_108 (by decide) (fun c233 => ?_) (fun c233 => ?_)
        · skip
          have k234 := ci_eq rfl z_ti c233
          have m236 : ((nI q2219) + Int32.ofInt (1)) = (nI (q2219 + 1)) := (congrArg (fun q : Int32 => q + Int32.ofInt (1)) rfl).trans (nI_add _ 1)
          refine lv_iinc (v := (nI (q2219 + 1))) (lv' := [(2, .int (nI (q2219 + 1))), (1, .int r214), (0, .ref (ad 0))]) S.1 S.2.1 dX7_driftMonth_120 hl219 (k := 0) rfl (nI_add _ 1) (by decide) rfl (fun ls235 hl235 => ?_)
          refine lv_goto (tgt := 92) S.1 S.2.1 dX7_driftMonth_123 (by decide) ?_
          have hE237 : M = (m_X7_driftMonth_L92_219 n219) (AB ad Fl219) (nI (q2219 + 1)) r214 := hE220.trans ((show m_X7_driftMonth_L92_219_b (m_X7_driftMonth_L92_219 n219) (AB ad Fl219) (nI q2219) r214 = (m_X7_driftMonth_L92_219 n219) (AB ad Fl219) ((nI q2219) + Int32.ofInt (1)) r214 from by unfold m_X7_driftMonth_L92_219_b; rw [if_neg (nle_cg m224 rfl c225), if_pos (eq_cg m232 rfl c233)]).trans (congr (congr (congrArg ((m_X7_driftMonth_L92_219 n219)) (rfl : AB ad Fl219 = AB ad Fl219)) m236) (Eq.refl (r214 : Int32))))
          exact ih219 (q2219 + 1) Fl219 Hl219 lol219 (by omega) (by omega) hWl219 hFl219 hPl219 hSl219 hE237 ls235 (lv_sub hl235 [0, 1, 2] rfl)
        have k238 := ci_ne rfl z_ti c233
        refine lv_aload_n S.1 S.2.1 dX7_driftMonth_111 rfl (lv_at hl219 2 rfl) ?_
        refine r_get S hK hPl219 0 (by decide) hF221 (C := RX7) (T := TX7) (N := 15) hiX7 rfl 1 (by decide) (am_at in_wsX7_driftMonth_0 2 rfl) (v := .ref (ad 3)) rfl dX7_driftMonth_112 ?_
        refine lv_iload_n S.1 S.2.1 dX7_driftMonth_115 rfl (lv_at hl219 0 rfl) ?_
        obtain ⟨ja240, jb240, jc240, jd240, jx240, jy240, jk240, hF240, hk240⟩ := wt_J hWl219 (show isJ 3 from Or.inl rfl)
        refine r_cVv (As := [.int (nI q2219)]) (rest := []) S hK hZ hPl219 hSl219 hl219.1 3 (by decide) hF240 (C := RX1) rfl (c_X1_walkMonth l D cA ad t hI Fl219 hWl219 3 (show isJ 3 from Or.inl rfl) (nI q2219)) (cwV 1 S.2.2.2.2 gX7_driftMonth_X1_walkMonth rfl rfl rfl (by decide +kernel) ⟨Nat.le_of_ble_eq_true rfl, Nat.le_of_ble_eq_true rfl⟩) rfl rfl (Nat.le_of_ble_eq_true rfl) ⟨Nat.zero_le _, Nat.zero_le _⟩ dX7_driftMonth_116 (fun F239 H239 locs239 hr239 hP239 hS239 => ?_)
        obtain ⟨hW239, hFc239, hr239⟩ := hr239
        obtain ⟨hr239, hm239⟩ := hr239
        have hFr239 := hFl219.tr hFc239 (by simp <;> first | omega | (simp only [isC, isJ] at *; omega))
        have hE242 : M = m_X7_driftMonth_241 (m_X7_driftMonth_L92_219 n219) (AB ad F239) (nI q2219) r214 := hE220.trans ((show m_X7_driftMonth_L92_219_b (m_X7_driftMonth_L92_219 n219) (AB ad Fl219) (nI q2219) r214 = m_X7_driftMonth_241 (m_X7_driftMonth_L92_219 n219) (m_X1_walkMonth (AB ad Fl219) 3 (nI q2219)) (nI q2219) r214 from by unfold m_X7_driftMonth_L92_219_b; rw [if_neg (nle_cg m224 rfl c225), if_neg (neq_cg m232 rfl c233)]).trans (congr (congr (congrArg (m_X7_driftMonth_241 (m_X7_driftMonth_L92_219 n219)) ((congr (congr (Eq.refl (m_X1_walkMonth (AB ad Fl219))) (Eq.refl 3)) (Eq.refl ((nI q2219) : Int32))).trans hm239)) (Eq.refl ((nI q2219) : Int32))) (Eq.refl (r214 : Int32))))
        have hE243 : M = AB ad F239 := hE242.trans ((show m_X7_driftMonth_241 (m_X7_driftMonth_L92_219 n219) (AB ad F239) (nI q2219) r214 = (AB ad F239) from rfl).trans rfl)
        exact hret 119 _ _ _ _ dX7_driftMonth_119 hP239 hS239 ⟨hW239, hFr239, ⟨trivial, hM.symm.trans hE243⟩⟩
    have hE244 : M = m_X7_driftMonth_L92_219 2000 (AB ad F205) (nI 0) r214 := hE209.trans ((show m_X7_driftMonth_208 (AB ad F205) r205 = m_X7_driftMonth_L92_219 2000 (AB ad F205) (nI 0) (m_X1_walks (AB ad F205) 3 (rl ((AB ad F205) 0 11))) from by unfold m_X7_driftMonth_208; rw [if_neg (neq_cg rfl rfl c210)]).trans (congr (congr (congrArg (m_X7_driftMonth_L92_219 2000) (rfl : AB ad F205 = AB ad F205)) (Eq.refl ((nI 0) : Int32))) m216))
    exact lp219 2000 (0) F205 H205 locs205 (by omega) (by omega) hW205 hFr205 hP205 hS205 hE244 ls218 (lv_sub hl218 [0, 1, 2] rfl)
  have k245 := ci_eq rfl z_ti c210
  refine lv_aload_n S.1 S.2.1 dX7_driftMonth_51 rfl (lv_at hl0 0 rfl) ?_
  obtain ⟨c246, d246, k246, dr246, hF246, hc246, hd246, hk246⟩ := wt_main hW205
  refine r_get S hK hP205 0 (by decide) hF246 (C := RX7) (T := TX7) (N := 15) hiX7 rfl 1 (by decide) (am_at in_wsX7_driftMonth_0 2 rfl) (v := .ref (ad 3)) rfl dX7_driftMonth_52 ?_
  refine lv_aload_n S.1 S.2.1 dX7_driftMonth_55 rfl (lv_at hl0 0 rfl) ?_
  refine r_get S hK hP205 0 (by decide) hF246 (C := RX7) (T := TX7) (N := 15) hiX7 rfl 11 (by decide) (am_at in_wsX7_driftMonth_0 0 rfl) (v := .ref (ad c246)) rfl dX7_driftMonth_56 ?_
  have m247 : (rl ((AB ad F205) 0 11)) = c246 := AB_r hI (lt_C hc246) hF246 rfl
  have hF249 := (hFc205 3 (by decide)).trans hF202
  refine r_cVp (As := [.ref (ad c246)]) (rest := []) S hK hZ hP205 hS205 hl0.1 3 (by decide) hF249 (C := RX1) rfl (c_X1_mayStay l D cA ad t hI F205 hW205 3 (show isJ 3 from Or.inl rfl) c246 hc246) (cwV 1 S.2.2.2.2 gX7_driftMonth_X1_mayStay rfl rfl rfl (by decide +kernel) ⟨Nat.le_of_ble_eq_true rfl, Nat.le_of_ble_eq_true rfl⟩) rfl rfl (Nat.le_of_ble_eq_true rfl) ⟨Nat.zero_le _, Nat.zero_le _⟩ dX7_driftMonth_59 (fun r248 hr248 => ?_)
  obtain ⟨hr248, hm248⟩ := hr248
  obtain ⟨b250, hb250, rfl⟩ := hr248
  have m251 : (m_X1_mayStay (AB ad F205) 3 (rl ((AB ad F205) 0 11))) = (nI b250) := (congr (congr (Eq.refl (m_X1_mayStay (AB ad F205))) (Eq.refl 3)) m247).trans hm248
  refine lv_if_eq (tgt := 78) S.1 S.2.1 dX7_driftMonth_62 (by decide) (fun c252 => ?_) (fun c252 => ?_)
  · skip
    have k253 := ci_eq (nI_toInt (n := b250) (Nat.lt_of_le_of_lt hb250 (by decide))) z_ti c252
    refine lv_aload_n S.1 S.2.1 dX7_driftMonth_78 rfl (lv_at hl0 0 rfl) ?_
    refine r_get S hK hP205 0 (by decide) hF246 (C := RX7) (T := TX7) (N := 15) hiX7 rfl 1 (by decide) (am_at in_wsX7_driftMonth_0 2 rfl) (v := .ref (ad 3)) rfl dX7_driftMonth_79 ?_
    refine lv_aload_n S.1 S.2.1 dX7_driftMonth_82 rfl (lv_at hl0 0 rfl) ?_
    refine r_get S hK hP205 0 (by decide) hF246 (C := RX7) (T := TX7) (N := 15) hiX7 rfl 11 (by decide) (am_at in_wsX7_driftMonth_0 0 rfl) (v := .ref (ad c246)) rfl dX7_driftMonth_83 ?_
    have m254 : (rl ((AB ad F205) 0 11)) = c246 := AB_r hI (lt_C hc246) hF246 rfl
    refine r_cVp (As := [.ref (ad c246)]) (rest := []) S hK hZ hP205 hS205 hl0.1 3 (by decide) hF249 (C := RX1) rfl (c_X1_walks l D cA ad t hI F205 hW205 3 (show isJ 3 from Or.inl rfl) c246 hc246) (cwV 1 S.2.2.2.2 gX7_driftMonth_X1_walks rfl rfl rfl (by decide +kernel) ⟨Nat.le_of_ble_eq_true rfl, Nat.le_of_ble_eq_true rfl⟩) rfl rfl (Nat.le_of_ble_eq_true rfl) ⟨Nat.zero_le _, Nat.zero_le _⟩ dX7_driftMonth_86 (fun r255 hr255 => ?_)
    obtain ⟨hr255, hm255⟩ := hr255
    have m256 : (m_X1_walks (AB ad F205) 3 (rl ((AB ad F205) 0 11))) = r255 := (congr (congr (Eq.refl (m_X1_walks (AB ad F205))) (Eq.refl 3)) m254).trans hm255
    refine lv_istore_n (lv' := [(1, .int r255), (0, .ref (ad 0))]) S.1 S.2.1 dX7_driftMonth_89 rfl hl0 (by decide) rfl (fun ls257 hl257 => ?_)
    refine lv_iconst (v := (nI 0)) S.1 S.2.1 dX7_driftMonth_90 (by decide +kernel) ?_
    refine lv_istore_n (lv' := [(2, .int (nI 0)), (1, .int r255), (0, .ref (ad 0))]) S.1 S.2.1 dX7_driftMonth_91 rfl hl257 (by decide) rfl (fun ls258 hl258 => ?_)
    have lp259 : ∀ (n259 : Nat) (q2259 : Nat), ∀ (Fl259 : Nat → va_E) (Hl259 : Heap) (lol259 : List Loc), q2259 ≤ 8 → 8 - q2259 < n259 → WT cA ad Fl259 → rFr [0, 3] F Fl259 → va_P D vwCl (rW ad Fl259) Hl259 → va_S (rA ad) s.heap Hl259 lol259 → M = m_X7_driftMonth_L92_259 n259 (AB ad Fl259) (nI q2259) r255 → ∀ (ls : Array Slot), lv_has ls 3 [(2, .int (nI q2259)), (1, .int r255), (0, .ref (ad 0))] → W p l e { frames := 4, cells := 0, slots := 0, locals := 87 } s m args below meth c Hl259 lol259 0 0 Q (F0 m 92 ls []) := by
      intro n259
      induction n259 with
      | zero =>
        intro q2259 Fl259 Hl259 lol259 iv259_0 hm259 hWl259 hFl259 hPl259 hSl259 hEl259 ls259 hl259
        exact absurd hm259 (Nat.not_lt_zero _)
      | succ n259 ih259 =>
        intro q2259 Fl259 Hl259 lol259 iv259_0 hm259 hWl259 hFl259 hPl259 hSl259 hEl259 ls259 hl259
        have hE260 : M = m_X7_driftMonth_L92_259_b (m_X7_driftMonth_L92_259 n259) (AB ad Fl259) (nI q2259) r255 := hEl259
        refine lv_iload_n S.1 S.2.1 dX7_driftMonth_92 rfl (lv_at hl259 0 rfl) ?_
        refine lv_aload_n S.1 S.2.1 dX7_driftMonth_93 rfl (lv_at hl259 2 rfl) ?_
        obtain ⟨c261, d261, k261, dr261, hF261, hc261, hd261, hk261⟩ := wt_main hWl259
        refine r_get S hK hPl259 0 (by decide) hF261 (C := RX7) (T := TX7) (N := 15) hiX7 rfl 11 (by decide) (am_at in_wsX7_driftMonth_0 0 rfl) (v := .ref (ad c261)) rfl dX7_driftMonth_94 ?_
        have m262 : (rl ((AB ad Fl259) 0 11)) = c261 := AB_r hI (lt_C hc261) hF261 rfl
        obtain ⟨sl263, fm263, tn263, rn263, bn263, hF263, hb263_1, hb263_2, hb263_3⟩ := wt_C hWl259 hc261
        refine r_get S hK hPl259 c261 (lt_C hc261) hF263 (C := RX0) (T := TX0) (N := 10) hiX0 rfl 2 (by decide) (am_at in_wsX7_driftMonth_0 4 rfl) (v := .int (nI tn263)) rfl dX7_driftMonth_97 ?_
        have m264 : ((AB ad Fl259) (rl ((AB ad Fl259) 0 11)) 2) = (nI tn263) := (congrArg (fun q => AB ad Fl259 q 2) m262).trans (AB_f hF263 rfl)
        refine lv_icmp_ge (tgt := 126) S.1 S.2.1 dX7_driftMonth_100 (by decide) (fun c265 => ?_) (fun c265 => ?_)
        · skip
          have k266 := ci_le (nI_toInt (n := tn263) (by omega)) (nI_toInt (n := q2259) (by omega)) c265
          have hE267 : M = AB ad Fl259 := hE260.trans ((show m_X7_driftMonth_L92_259_b (m_X7_driftMonth_L92_259 n259) (AB ad Fl259) (nI q2259) r255 = (AB ad Fl259) from by unfold m_X7_driftMonth_L92_259_b; rw [if_pos (le_cg m264 rfl c265)]).trans rfl)
          exact hret 126 _ _ _ _ dX7_driftMonth_126 hPl259 hSl259 ⟨hWl259, hFl259, ⟨trivial, hM.symm.trans hE267⟩⟩
        have k268 := ci_nle (nI_toInt (n := tn263) (by omega)) (nI_toInt (n := q2259) (by omega)) c265
        refine lv_iload_n S.1 S.2.1 dX7_driftMonth_103 rfl (lv_at hl259 1 rfl) ?_
        refine lv_iload_n S.1 S.2.1 dX7_driftMonth_104 rfl (lv_at hl259 0 rfl) ?_
        refine lv_ishr S.1 S.2.1 dX7_driftMonth_105 ?_
        refine lv_topi (fun v269 e269 => ?_)
        have m270 : (r255 >>> ((nI q2259) &&& 31)) = v269 := cg2 (fun (x : Int32) (y : Int32) => x >>> (y &&& 31)) (Eq.refl (r255 : Int32)) (Eq.refl ((nI q2259) : Int32)) e269
        refine lv_iconst (v := (nI 1)) S.1 S.2.1 dX7_driftMonth_106 (by decide +kernel) ?_
        refine lv_iand S.1 S.2.1 dX7_driftMonth_107 ?_
        refine lv_topi (fun v271 e271 => ?_)
        have m272 : ((r255 >>> ((nI q2259) &&& 31)) &&& (nI 1)) = v271 := cg2 (fun (x : Int32) (y : Int32) => x &&& y) m270 (Eq.refl ((nI 1) : Int32)) e271
        refine lv_if_eq (tgt := 120) S.1 S.2.1 dX7_driftMonth_108 (by decide) (fun c273 => ?_) (fun c273 => ?_)
        · skip
          have k274 := ci_eq rfl z_ti c273
          have m276 : ((nI q2259) + Int32.ofInt (1)) = (nI (q2259 + 1)) := (congrArg (fun q : Int32 => q + Int32.ofInt (1)) rfl).trans (nI_add _ 1)
          refine lv_iinc (v := (nI (q2259 + 1))) (lv' := [(2, .int (nI (q2259 + 1))), (1, .int r255), (0, .ref (ad 0))]) S.1 S.2.1 dX7_driftMonth_120 hl259 (k := 0) rfl (nI_add _ 1) (by decide) rfl (fun ls275 hl275 => ?_)
          refine lv_goto (tgt := 92) S.1 S.2.1 dX7_driftMonth_123 (by decide) ?_
          have hE277 : M = (m_X7_driftMonth_L92_259 n259) (AB ad Fl259) (nI (q2259 + 1)) r255 := hE260.trans ((show m_X7_driftMonth_L92_259_b (m_X7_driftMonth_L92_259 n259) (AB ad Fl259) (nI q2259) r255 = (m_X7_driftMonth_L92_259 n259) (AB ad Fl259) ((nI q2259) + Int32.ofInt (1)) r255 from by unfold m_X7_driftMonth_L92_259_b; rw [if_neg (nle_cg m264 rfl c265), if_pos (eq_cg m272 rfl c273)]).trans (congr (congr (congrArg ((m_X7_driftMonth_L92_259 n259)) (rfl : AB ad Fl259 = AB ad Fl259)) m276) (Eq.refl (r255 : Int32))))
          exact ih259 (q2259 + 1) Fl259 Hl259 lol259 (by omega) (by omega) hWl259 hFl259 hPl259 hSl259 hE277 ls275 (lv_sub hl275 [0, 1, 2] rfl)
        have k278 := ci_ne rfl z_ti c273
        refine lv_aload_n S.1 S.2.1 dX7_driftMonth_111 rfl (lv_at hl259 2 rfl) ?_
        refine r_get S hK hPl259 0 (by decide) hF261 (C := RX7) (T := TX7) (N := 15) hiX7 rfl 1 (by decide) (am_at in_wsX7_driftMonth_0 2 rfl) (v := .ref (ad 3)) rfl dX7_driftMonth_112 ?_
        refine lv_iload_n S.1 S.2.1 dX7_driftMonth_115 rfl (lv_at hl259 0 rfl) ?_
        obtain ⟨ja280, jb280, jc280, jd280, jx280, jy280, jk280, hF280, hk280⟩ := wt_J hWl259 (show isJ 3 from Or.inl rfl)
        refine r_cVv (As := [.int (nI q2259)]) (rest := []) S hK hZ hPl259 hSl259 hl259.1 3 (by decide) hF280 (C := RX1) rfl (c_X1_walkMonth l D cA ad t hI Fl259 hWl259 3 (show isJ 3 from Or.inl rfl) (nI q2259)) (cwV 1 S.2.2.2.2 gX7_driftMonth_X1_walkMonth rfl rfl rfl (by decide +kernel) ⟨Nat.le_of_ble_eq_true rfl, Nat.le_of_ble_eq_true rfl⟩) rfl rfl (Nat.le_of_ble_eq_true rfl) ⟨Nat.zero_le _, Nat.zero_le _⟩ dX7_driftMonth_116 (fun F279 H279 locs279 hr279 hP279 hS279 => ?_)
        obtain ⟨hW279, hFc279, hr279⟩ := hr279
        obtain ⟨hr279, hm279⟩ := hr279
        have hFr279 := hFl259.tr hFc279 (by simp <;> first | omega | (simp only [isC, isJ] at *; omega))
        have hE282 : M = m_X7_driftMonth_281 (m_X7_driftMonth_L92_259 n259) (AB ad F279) (nI q2259) r255 := hE260.trans ((show m_X7_driftMonth_L92_259_b (m_X7_driftMonth_L92_259 n259) (AB ad Fl259) (nI q2259) r255 = m_X7_driftMonth_281 (m_X7_driftMonth_L92_259 n259) (m_X1_walkMonth (AB ad Fl259) 3 (nI q2259)) (nI q2259) r255 from by unfold m_X7_driftMonth_L92_259_b; rw [if_neg (nle_cg m264 rfl c265), if_neg (neq_cg m272 rfl c273)]).trans (congr (congr (congrArg (m_X7_driftMonth_281 (m_X7_driftMonth_L92_259 n259)) ((congr (congr (Eq.refl (m_X1_walkMonth (AB ad Fl259))) (Eq.refl 3)) (Eq.refl ((nI q2259) : Int32))).trans hm279)) (Eq.refl ((nI q2259) : Int32))) (Eq.refl (r255 : Int32))))
        have hE283 : M = AB ad F279 := hE282.trans ((show m_X7_driftMonth_281 (m_X7_driftMonth_L92_259 n259) (AB ad F279) (nI q2259) r255 = (AB ad F279) from rfl).trans rfl)
        exact hret 119 _ _ _ _ dX7_driftMonth_119 hP279 hS279 ⟨hW279, hFr279, ⟨trivial, hM.symm.trans hE283⟩⟩
    have hE284 : M = m_X7_driftMonth_L92_259 2000 (AB ad F205) (nI 0) r255 := hE209.trans ((show m_X7_driftMonth_208 (AB ad F205) r205 = m_X7_driftMonth_L92_259 2000 (AB ad F205) (nI 0) (m_X1_walks (AB ad F205) 3 (rl ((AB ad F205) 0 11))) from by unfold m_X7_driftMonth_208; rw [if_pos (eq_cg rfl rfl c210), if_pos (eq_cg m251 rfl c252)]).trans (congr (congr (congrArg (m_X7_driftMonth_L92_259 2000) (rfl : AB ad F205 = AB ad F205)) (Eq.refl ((nI 0) : Int32))) m256))
    exact lp259 2000 (0) F205 H205 locs205 (by omega) (by omega) hW205 hFr205 hP205 hS205 hE284 ls258 (lv_sub hl258 [0, 1, 2] rfl)
  have k285 := ci_ne (nI_toInt (n := b250) (Nat.lt_of_le_of_lt hb250 (by decide))) z_ti c252
  refine lv_aload_n S.1 S.2.1 dX7_driftMonth_65 rfl (lv_at hl0 0 rfl) ?_
  refine r_get S hK hP205 0 (by decide) hF246 (C := RX7) (T := TX7) (N := 15) hiX7 rfl 1 (by decide) (am_at in_wsX7_driftMonth_0 2 rfl) (v := .ref (ad 3)) rfl dX7_driftMonth_66 ?_
  refine lv_aload_n S.1 S.2.1 dX7_driftMonth_69 rfl (lv_at hl0 0 rfl) ?_
  refine r_get S hK hP205 0 (by decide) hF246 (C := RX7) (T := TX7) (N := 15) hiX7 rfl 11 (by decide) (am_at in_wsX7_driftMonth_0 0 rfl) (v := .ref (ad c246)) rfl dX7_driftMonth_70 ?_
  have m286 : (rl ((AB ad F205) 0 11)) = c246 := AB_r hI (lt_C hc246) hF246 rfl
  refine r_cVi (As := [.ref (ad c246)]) (rest := []) S hK hZ hP205 hS205 hl0.1 3 (by decide) hF249 (C := RX1) rfl (c_X1_stayMonth l D cA ad t hI F205 hW205 3 (show isJ 3 from Or.inl rfl) c246 hc246) (cwV 1 S.2.2.2.2 gX7_driftMonth_X1_stayMonth rfl rfl rfl (by decide +kernel) ⟨Nat.le_of_ble_eq_true rfl, Nat.le_of_ble_eq_true rfl⟩) rfl rfl (Nat.le_of_ble_eq_true rfl) ⟨Nat.zero_le _, Nat.zero_le _⟩ dX7_driftMonth_73 (fun r287 F287 H287 locs287 hr287 hP287 hS287 => ?_)
  obtain ⟨hW287, hFc287, hr287⟩ := hr287
  obtain ⟨hr287, hm287⟩ := hr287
  have hFr287 := hFr205.tr hFc287 (by simp <;> first | omega | (simp only [isC, isJ] at *; omega))
  have mc288 : (m_X1_stayMonth (AB ad F205) 3 (rl ((AB ad F205) 0 11))) = (r287, AB ad F287) := (congr (congr (Eq.refl (m_X1_stayMonth (AB ad F205))) (Eq.refl 3)) m286).trans hm287
  have hE290 : M = m_X7_driftMonth_289 (AB ad F287) r287 := hE209.trans ((show m_X7_driftMonth_208 (AB ad F205) r205 = m_X7_driftMonth_289 ((m_X1_stayMonth (AB ad F205) 3 (rl ((AB ad F205) 0 11)))).2 ((m_X1_stayMonth (AB ad F205) 3 (rl ((AB ad F205) 0 11)))).1 from by unfold m_X7_driftMonth_208; rw [if_pos (eq_cg rfl rfl c210), if_neg (neq_cg m251 rfl c252)]).trans (congr (congrArg (m_X7_driftMonth_289) (congrArg Prod.snd mc288)) (congrArg Prod.fst mc288)))
  refine lv_pop S.1 S.2.1 dX7_driftMonth_76 rfl ?_
  have hE291 : M = AB ad F287 := hE290.trans ((show m_X7_driftMonth_289 (AB ad F287) r287 = (AB ad F287) from rfl).trans rfl)
  exact hret 77 _ _ _ _ dX7_driftMonth_77 hP287 hS287 ⟨hW287, hFr287, ⟨trivial, hM.symm.trans hE291⟩⟩
noncomputable def m_X7_feed_27 (σ : SS) (a0 : Int32) : Int32 × SS :=
  ((σ 1 1), σ)
noncomputable def m_X7_feed_19 (σ : SS) (a0 : Int32) : Int32 × SS :=
  m_X7_feed_27 (st σ 1 1 ((σ 1 1) + (nI 1))) a0
noncomputable def m_X7_feed (σ : SS) (a0 : Int32) : Int32 × SS :=
  if a0 < (0 : Int32) then
    (((-1000000002) : Int32), σ)
  else
    if a0 ≤ (nI 255) then
      if (σ 1 1) < (nI 240) then
        m_X7_feed_19 (st σ 2 (rl (σ 1 1)) (vp_nar .char (i2c a0))) a0
      else
        (((-1000000004) : Int32), σ)
    else
      (((-1000000002) : Int32), σ)
set_option maxHeartbeats 4000000 in
set_option maxRecDepth 100000 in
theorem c_X7_feed (l : Launch) (D : va_G) (cA ad : Nat → Nat) (t : Nat) (hI : rI ad) (F : Nat → va_E) (hW : WT cA ad F) (p1 : Int32) : MI l D cA ad t yX7_feed wsX7_feed { frames := 0, cells := 0, slots := 0, locals := 0 } [.ref (ad 0), .int p1] F (fun r F' => WT cA ad F' ∧ rFr [1, 2] F F' ∧ ((r = fdR p1 (fN (F 1) 1) ∧ fN (F' 1) 1 = fdN p1 (fN (F 1) 1)) ∧ m_X7_feed (AB ad F) p1 = (r, AB ad F'))) := by
  refine en_I rfl (by decide +kernel) (Nat.le_of_ble_eq_true rfl) ?_
  intro p e s m args below meth c ls0 Q S hK hZ hP hS hl0 hret
  have hl0 : lv_has ls0 2 [(0, .ref (ad 0)), (1, .int p1)] := hl0
  have hFr : rFr [1, 2] F F := rFr.rf
  have hiX5 : ∀ w ∈ u_ws RX5 TX5 6, w ∈ wsX7_feed := in_wsX7_feed_2
  have hiX7 : ∀ w ∈ u_ws RX7 TX7 15, w ∈ wsX7_feed := in_wsX7_feed_1
  obtain ⟨M, hM⟩ : ∃ M, M = m_X7_feed (AB ad F) p1 := ⟨_, rfl⟩
  obtain ⟨n1, a1, f1, fa1, nu1, hF1, hn1, ha1⟩ := wt_text hW
  have hA2 := fN_of (k := 4) (a := a1) hF1 rfl (by omega)
  have hL2 := fN_of (k := 1) (a := n1) hF1 rfl (by omega)
  refine lv_iload_n S.1 S.2.1 dX7_feed_0 rfl (lv_at hl0 1 rfl) ?_
  refine lv_if_lt (tgt := 11) S.1 S.2.1 dX7_feed_1 (by decide) (fun c3 => ?_) (fun c3 => ?_)
  · skip
    have k4 := ci_lt rfl z_ti c3
    refine lv_ldc (v := (-1000000002)) S.1 S.2.1 S.2.2.2.1 (S.2.2.2.2 (.constant RX7 79 (-1000000002)) (am_at in_wsX7_feed_0 0 rfl)) dX7_feed_11 ?_
    have hA5 := fN_of (k := 4) (a := a1) hF1 rfl (by omega)
    have hL5 := fN_of (k := 1) (a := n1) hF1 rfl (by omega)
    have hE6 : M = ((-1000000002), AB ad F) := hM.trans ((show m_X7_feed (AB ad F) p1 = (((-1000000002) : Int32), (AB ad F)) from by unfold m_X7_feed; rw [if_pos (lt_cg rfl rfl c3)]).trans (congrArg (fun q => (q, AB ad F)) rfl))
    exact hret 13 _ _ _ _ _ dX7_feed_13 rfl hP hS ⟨hW, hFr, ⟨⟨by unfold fdR; rw [if_pos (by omega)], by unfold fdN; rw [if_pos (by omega)] <;> omega⟩, hM.symm.trans hE6⟩⟩
  have k7 := ci_nlt rfl z_ti c3
  refine lv_iload_n S.1 S.2.1 dX7_feed_4 rfl (lv_at hl0 1 rfl) ?_
  refine lv_sipush (v := (nI 255)) S.1 S.2.1 dX7_feed_5 (by decide +kernel) ?_
  refine lv_icmp_le (tgt := 14) S.1 S.2.1 dX7_feed_8 (by decide) (fun c8 => ?_) (fun c8 => ?_)
  · skip
    have k9 := ci_le rfl (nI_toInt (n := 255) (by decide)) c8
    refine lv_aload_n S.1 S.2.1 dX7_feed_14 rfl (lv_at hl0 0 rfl) ?_
    obtain ⟨c10, d10, k10, dr10, hF10, hc10, hd10, hk10⟩ := wt_main hW
    refine r_get S hK hP 0 (by decide) hF10 (C := RX7) (T := TX7) (N := 15) hiX7 rfl 0 (by decide) (am_at in_wsX7_feed_0 1 rfl) (v := .ref (ad 1)) rfl dX7_feed_15 ?_
    refine r_get S hK hP 1 (by decide) hF1 (C := RX5) (T := TX5) (N := 6) hiX5 rfl 1 (by decide) (am_at in_wsX7_feed_0 2 rfl) (v := .int (nI n1)) rfl dX7_feed_18 ?_
    have m11 : ((AB ad F) 1 1) = (nI n1) := AB_f hF1 rfl
    refine lv_sipush (v := (nI 240)) S.1 S.2.1 dX7_feed_21 (by decide +kernel) ?_
    refine lv_icmp_lt (tgt := 30) S.1 S.2.1 dX7_feed_24 (by decide) (fun c12 => ?_) (fun c12 => ?_)
    · skip
      have k13 := ci_lt (nI_toInt (n := n1) (by omega)) (nI_toInt (n := 240) (by decide)) c12
      refine lv_aload_n S.1 S.2.1 dX7_feed_30 rfl (lv_at hl0 0 rfl) ?_
      refine r_get S hK hP 0 (by decide) hF10 (C := RX7) (T := TX7) (N := 15) hiX7 rfl 0 (by decide) (am_at in_wsX7_feed_0 1 rfl) (v := .ref (ad 1)) rfl dX7_feed_31 ?_
      refine r_get S hK hP 1 (by decide) hF1 (C := RX5) (T := TX5) (N := 6) hiX5 rfl 0 (by decide) (am_at in_wsX7_feed_0 4 rfl) (v := .ref (ad 2)) rfl dX7_feed_34 ?_
      refine lv_aload_n S.1 S.2.1 dX7_feed_37 rfl (lv_at hl0 0 rfl) ?_
      refine r_get S hK hP 0 (by decide) hF10 (C := RX7) (T := TX7) (N := 15) hiX7 rfl 0 (by decide) (am_at in_wsX7_feed_0 1 rfl) (v := .ref (ad 1)) rfl dX7_feed_38 ?_
      refine r_get S hK hP 1 (by decide) hF1 (C := RX5) (T := TX5) (N := 6) hiX5 rfl 1 (by decide) (am_at in_wsX7_feed_0 2 rfl) (v := .int (nI n1)) rfl dX7_feed_41 ?_
      have m14 : ((AB ad F) 1 1) = (nI n1) := AB_f hF1 rfl
      refine lv_iload_n S.1 S.2.1 dX7_feed_44 rfl (lv_at hl0 1 rfl) ?_
      refine lv_i2c S.1 S.2.1 dX7_feed_45 rfl ?_
      refine lv_topi (fun v15 e15 => ?_)
      have m16 : (i2c p1) = v15 := cg1 (fun x : Int32 => i2c x) (Eq.refl (p1 : Int32)) e15
      obtain ⟨g17, hF17⟩ := wt_let hW
      refine r_cast S hI hK hP hS 2 (by decide) hF17 (vp_in_nI (show n1 < 240 by omega) (by omega)) dX7_feed_46 (fun F18 H18 locs18 eF18 hP18 hS18 => ?_)
      have hW18 := hW.up eF18 (ok_let ⟨_, rfl⟩)
      have hFr18 := hFr.up eF18 (by simp <;> first | omega | (simp only [isC, isJ] at *; omega))
      have hE20 : M = m_X7_feed_19 (AB ad F18) p1 := hM.trans ((show m_X7_feed (AB ad F) p1 = m_X7_feed_19 (st (AB ad F) 2 (rl ((AB ad F) 1 1)) (vp_nar .char (i2c p1))) p1 from by unfold m_X7_feed; rw [if_neg (nlt_cg rfl rfl c3), if_pos (le_cg rfl rfl c8), if_pos (lt_cg m11 rfl c12)]).trans (congr (congrArg (m_X7_feed_19) ((st_cg rfl (congrArg rl m14) (congrArg (vp_nar .char) m16)).trans (AB_ast hF17 eF18).symm)) (Eq.refl (p1 : Int32))))
      refine lv_aload_n S.1 S.2.1 dX7_feed_47 rfl (lv_at hl0 0 rfl) ?_
      have hF21 := (show F18 0 = F 0 by rw [eF18]; exact va_up_ne _ _ (by decide)).trans hF10
      refine r_get S hK hP18 0 (by decide) hF21 (C := RX7) (T := TX7) (N := 15) hiX7 rfl 0 (by decide) (am_at in_wsX7_feed_0 1 rfl) (v := .ref (ad 1)) rfl dX7_feed_48 ?_
      refine lv_dup S.1 S.2.1 dX7_feed_51 rfl ?_
      have hF22 := (show F18 1 = F 1 by rw [eF18]; exact va_up_ne _ _ (by decide)).trans hF1
      refine r_get S hK hP18 1 (by decide) hF22 (C := RX5) (T := TX5) (N := 6) hiX5 rfl 1 (by decide) (am_at in_wsX7_feed_0 2 rfl) (v := .int (nI n1)) rfl dX7_feed_52 ?_
      have m23 : ((AB ad F18) 1 1) = (nI n1) := AB_f hF22 rfl
      refine lv_iconst (v := (nI 1)) S.1 S.2.1 dX7_feed_55 (by decide +kernel) ?_
      refine lv_iadd S.1 S.2.1 dX7_feed_56 ?_
      refine lv_topi (fun v24 e24 => ?_)
      obtain rfl : v24 = nI (n1 + 1) := e24.trans (nI_add _ _)
      have m25 : (((AB ad F18) 1 1) + (nI 1)) = (nI (n1 + 1)) := cg2 (fun (x : Int32) (y : Int32) => x + y) m23 (Eq.refl ((nI 1) : Int32)) e24
      refine r_put S hI hK hP18 hS18 1 (by decide) hF22 (C := RX5) (T := TX5) (N := 6) hiX5 tyX5_ok nmX5 rfl 1 (by decide) (am_at in_wsX7_feed_0 2 rfl) rfl rfl rfl (Nat.le_of_ble_eq_true rfl) dX7_feed_57 (fun F26 H26 locs26 eF26 hP26 hS26 => ?_)
      have hF26 : F26 1 = .inr (5, [.ref (ad 2), .int (nI (n1 + 1)), .int f1, .int fa1, .int (nI a1), .int nu1]) := by rw [eF26]; exact va_up_self _ _ _
      have hW26 := hW18.up eF26 (ok_text ⟨n1 + 1, a1, f1, fa1, nu1, rfl, by omega, by omega⟩)
      have hFr26 := hFr18.up eF26 (by simp <;> first | omega | (simp only [isC, isJ] at *; omega))
      have hE28 : M = m_X7_feed_27 (AB ad F26) p1 := hE20.trans ((show m_X7_feed_19 (AB ad F18) p1 = m_X7_feed_27 (st (AB ad F18) 1 1 (((AB ad F18) 1 1) + (nI 1))) p1 from rfl).trans (congr (congrArg (m_X7_feed_27) ((st_cg rfl rfl m25).trans (AB_put hF22 (Nat.le_of_ble_eq_true rfl) eF26).symm)) (Eq.refl (p1 : Int32))))
      refine lv_aload_n S.1 S.2.1 dX7_feed_60 rfl (lv_at hl0 0 rfl) ?_
      have hF29 := (show F26 0 = F18 0 by rw [eF26]; exact va_up_ne _ _ (by decide)).trans hF21
      refine r_get S hK hP26 0 (by decide) hF29 (C := RX7) (T := TX7) (N := 15) hiX7 rfl 0 (by decide) (am_at in_wsX7_feed_0 1 rfl) (v := .ref (ad 1)) rfl dX7_feed_61 ?_
      refine r_get S hK hP26 1 (by decide) hF26 (C := RX5) (T := TX5) (N := 6) hiX5 rfl 1 (by decide) (am_at in_wsX7_feed_0 2 rfl) (v := .int (nI (n1 + 1))) rfl dX7_feed_64 ?_
      have m30 : ((AB ad F26) 1 1) = (nI (n1 + 1)) := AB_f hF26 rfl
      have hA31 := fN_of (k := 4) (a := a1) hF26 rfl (by omega)
      have hL31 := fN_of (k := 1) (a := n1 + 1) hF26 rfl (by omega)
      have hE32 : M = ((nI (n1 + 1)), AB ad F26) := hE28.trans ((show m_X7_feed_27 (AB ad F26) p1 = (((AB ad F26) 1 1), (AB ad F26)) from rfl).trans (congrArg (fun q => (q, AB ad F26)) m30))
      exact hret 67 _ _ _ _ _ dX7_feed_67 rfl hP26 hS26 ⟨hW26, hFr26, ⟨⟨by unfold fdR; rw [if_neg (by omega), if_neg (by omega), show fN (F 1) 1 + 1 = n1 + 1 by omega], by unfold fdN; rw [if_neg (by omega), if_neg (by omega)] <;> omega⟩, hM.symm.trans hE32⟩⟩
    have k33 := ci_nlt (nI_toInt (n := n1) (by omega)) (nI_toInt (n := 240) (by decide)) c12
    refine lv_ldc (v := (-1000000004)) S.1 S.2.1 S.2.2.2.1 (S.2.2.2.2 (.constant RX7 84 (-1000000004)) (am_at in_wsX7_feed_0 3 rfl)) dX7_feed_27 ?_
    have hA34 := fN_of (k := 4) (a := a1) hF1 rfl (by omega)
    have hL34 := fN_of (k := 1) (a := n1) hF1 rfl (by omega)
    have hE35 : M = ((-1000000004), AB ad F) := hM.trans ((show m_X7_feed (AB ad F) p1 = (((-1000000004) : Int32), (AB ad F)) from by unfold m_X7_feed; rw [if_neg (nlt_cg rfl rfl c3), if_pos (le_cg rfl rfl c8), if_neg (nlt_cg m11 rfl c12)]).trans (congrArg (fun q => (q, AB ad F)) rfl))
    exact hret 29 _ _ _ _ _ dX7_feed_29 rfl hP hS ⟨hW, hFr, ⟨⟨by unfold fdR; rw [if_neg (by omega), if_pos (by omega)], by unfold fdN; rw [if_neg (by omega), if_pos (by omega)] <;> omega⟩, hM.symm.trans hE35⟩⟩
  have k36 := ci_nle rfl (nI_toInt (n := 255) (by decide)) c8
  refine lv_ldc (v := (-1000000002)) S.1 S.2.1 S.2.2.2.1 (S.2.2.2.2 (.constant RX7 79 (-1000000002)) (am_at in_wsX7_feed_0 0 rfl)) dX7_feed_11 ?_
  have hA37 := fN_of (k := 4) (a := a1) hF1 rfl (by omega)
  have hL37 := fN_of (k := 1) (a := n1) hF1 rfl (by omega)
  have hE38 : M = ((-1000000002), AB ad F) := hM.trans ((show m_X7_feed (AB ad F) p1 = (((-1000000002) : Int32), (AB ad F)) from by unfold m_X7_feed; rw [if_neg (nlt_cg rfl rfl c3), if_neg (nle_cg rfl rfl c8)]).trans (congrArg (fun q => (q, AB ad F)) rfl))
  exact hret 13 _ _ _ _ _ dX7_feed_13 rfl hP hS ⟨hW, hFr, ⟨⟨by unfold fdR; rw [if_pos (by omega)], by unfold fdN; rw [if_pos (by omega)] <;> omega⟩, hM.symm.trans hE38⟩⟩
noncomputable def m_X7_land_57 (k0 : SS → Int32 → Nat → Int32 × SS) (σ : SS) (a0 : Int32) (a1 : Nat) : Int32 × SS :=
  k0 σ (a0 + Int32.ofInt (1)) a1
noncomputable def m_X7_land_L80_41_b (k0 : SS → Int32 → Nat → Int32 × SS) (σ : SS) (a0 : Int32) (a1 : Nat) : Int32 × SS :=
  if (nI 2) ≤ a0 then
    ((σ (rl (σ 0 11)) 2), σ)
  else
    m_X7_land_57 k0 (st σ 43 (rl a0) (vp_nar .boolean (nI 0))) a0 a1
noncomputable def m_X7_land_L80_41 : Nat → SS → Int32 → Nat → Int32 × SS
  | 0 => fun σ _ _ => (0, σ)
  | n + 1 => m_X7_land_L80_41_b (m_X7_land_L80_41 n)
noncomputable def m_X7_land_38 (σ : SS) (a0 : Nat) : Int32 × SS :=
  m_X7_land_L80_41 2000 σ (nI 0) a0
noncomputable def m_X7_land_34 (σ : SS) (a0 : Nat) : Int32 × SS :=
  m_X7_land_38 (st σ 0 13 (nI 0)) a0
noncomputable def m_X7_land_29 (σ : SS) (a0 : Nat) : Int32 × SS :=
  m_X7_land_34 (st σ 33 0 (nI 0)) a0
noncomputable def m_X7_land_24 (σ : SS) (a0 : Nat) : Int32 × SS :=
  m_X7_land_29 (st σ 4 1 (nI 0)) a0
noncomputable def m_X7_land_20 (σ : SS) (a0 : Nat) : Int32 × SS :=
  m_X7_land_24 (m_X1_clear σ 3) a0
noncomputable def m_X7_land_17 (σ : SS) (a0 : Nat) : Int32 × SS :=
  m_X7_land_20 (st σ 0 11 (nI a0)) a0
noncomputable def m_X7_land_7 (σ : SS) : Int32 × SS :=
  if (σ 1 2) = (0 : Int32) then
    m_X7_land_17 (st σ 0 12 (nI (rl (σ 0 11)))) (rl (σ 0 12))
  else
    ((((-10) : Int32) - (σ 1 2)), σ)
noncomputable def m_X7_land (σ : SS) : Int32 × SS :=
  m_X7_land_7 (m_X5_readInto σ (rl (σ 0 12)))
set_option maxHeartbeats 4000000 in
set_option maxRecDepth 100000 in
theorem c_X7_land (l : Launch) (D : va_G) (cA ad : Nat → Nat) (t : Nat) (hI : rI ad) (F : Nat → va_E) (hW : WT cA ad F) : MI l D cA ad t yX7_land wsX7_land { frames := 5, cells := 0, slots := 0, locals := 114 } [.ref (ad 0)] F (fun r F' => WT cA ad F' ∧ rFr [0, 1, 3, 4, 33, 43, 46, 47, 48, 49, 50, 51, 52, 53, 54, 55, 56, 57] F F' ∧ ((fN (F' 1) 1 = 0) ∧ m_X7_land (AB ad F) = (r, AB ad F'))) := by
  refine en_I rfl (by decide +kernel) (Nat.le_of_ble_eq_true rfl) ?_
  intro p e s m args below meth c ls0 Q S hK hZ hP hS hl0 hret
  have hl0 : lv_has ls0 3 [(0, .ref (ad 0))] := hl0
  have hFr : rFr [0, 1, 3, 4, 33, 43, 46, 47, 48, 49, 50, 51, 52, 53, 54, 55, 56, 57] F F := rFr.rf
  have hiX0 : ∀ w ∈ u_ws RX0 TX0 10, w ∈ wsX7_land := in_wsX7_land_9
  have hiX2 : ∀ w ∈ u_ws RX2 TX2 2, w ∈ wsX7_land := in_wsX7_land_7
  have hiX5 : ∀ w ∈ u_ws RX5 TX5 6, w ∈ wsX7_land := in_wsX7_land_6
  have hiX6 : ∀ w ∈ u_ws RX6 TX6 6, w ∈ wsX7_land := in_wsX7_land_8
  have hiX7 : ∀ w ∈ u_ws RX7 TX7 15, w ∈ wsX7_land := in_wsX7_land_5
  obtain ⟨M, hM⟩ : ∃ M, M = m_X7_land (AB ad F) := ⟨_, rfl⟩
  refine lv_aload_n S.1 S.2.1 dX7_land_0 rfl (lv_at hl0 0 rfl) ?_
  obtain ⟨c1, d1, k1, dr1, hF1, hc1, hd1, hk1⟩ := wt_main hW
  refine r_get S hK hP 0 (by decide) hF1 (C := RX7) (T := TX7) (N := 15) hiX7 rfl 0 (by decide) (am_at in_wsX7_land_0 0 rfl) (v := .ref (ad 1)) rfl dX7_land_1 ?_
  refine lv_aload_n S.1 S.2.1 dX7_land_4 rfl (lv_at hl0 0 rfl) ?_
  refine r_get S hK hP 0 (by decide) hF1 (C := RX7) (T := TX7) (N := 15) hiX7 rfl 12 (by decide) (am_at in_wsX7_land_0 1 rfl) (v := .ref (ad d1)) rfl dX7_land_5 ?_
  have m2 : (rl ((AB ad F) 0 12)) = d1 := AB_r hI (lt_C hd1) hF1 rfl
  obtain ⟨n4, a4, f4, fa4, nu4, hF4, hn4, ha4⟩ := wt_text hW
  refine r_cVv (As := [.ref (ad d1)]) (rest := []) S hK hZ hP hS hl0.1 1 (by decide) hF4 (C := RX5) rfl (c_X5_readInto l D cA ad t hI F hW d1 hd1) (cwV 1 S.2.2.2.2 gX7_land_X5_readInto rfl rfl rfl (by decide +kernel) ⟨Nat.le_of_ble_eq_true rfl, Nat.le_of_ble_eq_true rfl⟩) rfl rfl (Nat.le_of_ble_eq_true rfl) ⟨Nat.zero_le _, Nat.zero_le _⟩ dX7_land_8 (fun F3 H3 locs3 hr3 hP3 hS3 => ?_)
  obtain ⟨hW3, hFc3, hr3⟩ := hr3
  obtain ⟨hr3, hm3⟩ := hr3
  have hFr3 := hFr.tr hFc3 (by simp <;> first | omega | (simp only [isC, isJ] at *; omega))
  obtain ⟨n5, a5, f5, fa5, nu5, hF5, hn5, ha5⟩ := wt_text hW3
  have hA6 := fN_of (k := 4) (a := a5) hF5 rfl (by omega)
  have hL6 := fN_of (k := 1) (a := n5) hF5 rfl (by omega)
  have hE8 : M = m_X7_land_7 (AB ad F3) := hM.trans ((show m_X7_land (AB ad F) = m_X7_land_7 (m_X5_readInto (AB ad F) (rl ((AB ad F) 0 12))) from rfl).trans (congrArg (m_X7_land_7) ((congr (Eq.refl (m_X5_readInto (AB ad F))) m2).trans hm3)))
  refine lv_aload_n S.1 S.2.1 dX7_land_11 rfl (lv_at hl0 0 rfl) ?_
  obtain ⟨c9, d9, k9, dr9, hF9, hc9, hd9, hk9⟩ := wt_main hW3
  refine r_get S hK hP3 0 (by decide) hF9 (C := RX7) (T := TX7) (N := 15) hiX7 rfl 0 (by decide) (am_at in_wsX7_land_0 0 rfl) (v := .ref (ad 1)) rfl dX7_land_12 ?_
  refine r_get S hK hP3 1 (by decide) hF5 (C := RX5) (T := TX5) (N := 6) hiX5 rfl 2 (by decide) (am_at in_wsX7_land_0 2 rfl) (v := .int f5) rfl dX7_land_15 ?_
  have m10 : ((AB ad F3) 1 2) = f5 := AB_f hF5 rfl
  refine lv_if_eq (tgt := 32) S.1 S.2.1 dX7_land_18 (by decide) (fun c11 => ?_) (fun c11 => ?_)
  · skip
    have k12 := ci_eq rfl z_ti c11
    refine lv_aload_n S.1 S.2.1 dX7_land_32 rfl (lv_at hl0 0 rfl) ?_
    refine r_get S hK hP3 0 (by decide) hF9 (C := RX7) (T := TX7) (N := 15) hiX7 rfl 12 (by decide) (am_at in_wsX7_land_0 1 rfl) (v := .ref (ad d9)) rfl dX7_land_33 ?_
    have m13 : (rl ((AB ad F3) 0 12)) = d9 := AB_r hI (lt_C hd9) hF9 rfl
    refine lv_astore_n (lv' := [(1, .ref (ad d9)), (0, .ref (ad 0))]) S.1 S.2.1 dX7_land_36 rfl hl0 (by decide) rfl (fun ls14 hl14 => ?_)
    refine lv_aload_n S.1 S.2.1 dX7_land_37 rfl (lv_at hl14 1 rfl) ?_
    refine lv_aload_n S.1 S.2.1 dX7_land_38 rfl (lv_at hl14 1 rfl) ?_
    refine r_get S hK hP3 0 (by decide) hF9 (C := RX7) (T := TX7) (N := 15) hiX7 rfl 11 (by decide) (am_at in_wsX7_land_0 3 rfl) (v := .ref (ad c9)) rfl dX7_land_39 ?_
    have m15 : (rl ((AB ad F3) 0 11)) = c9 := AB_r hI (lt_C hc9) hF9 rfl
    refine r_put S hI hK hP3 hS3 0 (by decide) hF9 (C := RX7) (T := TX7) (N := 15) hiX7 tyX7_ok nmX7 rfl 12 (by decide) (am_at in_wsX7_land_0 1 rfl) rfl rfl rfl (Nat.le_of_ble_eq_true rfl) dX7_land_42 (fun F16 H16 locs16 eF16 hP16 hS16 => ?_)
    have hF16 : F16 0 = .inr (7, [.ref (ad 1), .ref (ad 3), .ref (ad 4), .ref (ad 26), .ref (ad 30), .ref (ad 33), .ref (ad 39), .ref (ad 42), .ref (ad 43), .ref (ad 44), .ref (ad 45), .ref (ad c9), .ref (ad c9), .int (nI k9), .int dr9]) := by rw [eF16]; exact va_up_self _ _ _
    have hW16 := hW3.up eF16 (ok_main ⟨c9, c9, k9, dr9, rfl, hc9, hc9, by omega⟩)
    have hFr16 := hFr3.up eF16 (by simp <;> first | omega | (simp only [isC, isJ] at *; omega))
    have hE18 : M = m_X7_land_17 (AB ad F16) d9 := hE8.trans ((show m_X7_land_7 (AB ad F3) = m_X7_land_17 (st (AB ad F3) 0 12 (nI (rl ((AB ad F3) 0 11)))) (rl ((AB ad F3) 0 12)) from by unfold m_X7_land_7; rw [if_pos (eq_cg m10 rfl c11)]).trans (congr (congrArg (m_X7_land_17) ((st_cg rfl rfl (congrArg nI m15)).trans (AB_putr hI (lt_C hc9) hF9 (Nat.le_of_ble_eq_true rfl) eF16).symm)) m13))
    refine lv_aload_n S.1 S.2.1 dX7_land_45 rfl (lv_at hl14 1 rfl) ?_
    refine lv_aload_n S.1 S.2.1 dX7_land_46 rfl (lv_at hl14 0 rfl) ?_
    refine r_put S hI hK hP16 hS16 0 (by decide) hF16 (C := RX7) (T := TX7) (N := 15) hiX7 tyX7_ok nmX7 rfl 11 (by decide) (am_at in_wsX7_land_0 3 rfl) rfl rfl rfl (Nat.le_of_ble_eq_true rfl) dX7_land_47 (fun F19 H19 locs19 eF19 hP19 hS19 => ?_)
    have hF19 : F19 0 = .inr (7, [.ref (ad 1), .ref (ad 3), .ref (ad 4), .ref (ad 26), .ref (ad 30), .ref (ad 33), .ref (ad 39), .ref (ad 42), .ref (ad 43), .ref (ad 44), .ref (ad 45), .ref (ad d9), .ref (ad c9), .int (nI k9), .int dr9]) := by rw [eF19]; exact va_up_self _ _ _
    have hW19 := hW16.up eF19 (ok_main ⟨d9, c9, k9, dr9, rfl, hd9, hc9, by omega⟩)
    have hFr19 := hFr16.up eF19 (by simp <;> first | omega | (simp only [isC, isJ] at *; omega))
    have hE21 : M = m_X7_land_20 (AB ad F19) d9 := hE18.trans ((show m_X7_land_17 (AB ad F16) d9 = m_X7_land_20 (st (AB ad F16) 0 11 (nI d9)) d9 from rfl).trans (congr (congrArg (m_X7_land_20) ((st_cg rfl rfl (congrArg nI rfl)).trans (AB_putr hI (lt_C hd9) hF16 (Nat.le_of_ble_eq_true rfl) eF19).symm)) (Eq.refl d9)))
    refine lv_aload_n S.1 S.2.1 dX7_land_50 rfl (lv_at hl14 1 rfl) ?_
    refine r_get S hK hP19 0 (by decide) hF19 (C := RX7) (T := TX7) (N := 15) hiX7 rfl 1 (by decide) (am_at in_wsX7_land_0 4 rfl) (v := .ref (ad 3)) rfl dX7_land_51 ?_
    obtain ⟨ja23, jb23, jc23, jd23, jx23, jy23, jk23, hF23, hk23⟩ := wt_J hW19 (show isJ 3 from Or.inl rfl)
    refine r_cVv (As := []) (rest := []) S hK hZ hP19 hS19 hl14.1 3 (by decide) hF23 (C := RX1) rfl (c_X1_clear l D cA ad t hI F19 hW19 3 (show isJ 3 from Or.inl rfl)) (cwV 0 S.2.2.2.2 gX7_land_X1_clear rfl rfl rfl (by decide +kernel) ⟨Nat.le_of_ble_eq_true rfl, Nat.le_of_ble_eq_true rfl⟩) rfl rfl (Nat.le_of_ble_eq_true rfl) ⟨Nat.zero_le _, Nat.zero_le _⟩ dX7_land_54 (fun F22 H22 locs22 hr22 hP22 hS22 => ?_)
    obtain ⟨hW22, hFc22, hr22⟩ := hr22
    obtain ⟨hr22, hm22⟩ := hr22
    have hFr22 := hFr19.tr hFc22 (by simp <;> first | omega | (simp only [isC, isJ] at *; omega))
    have hE25 : M = m_X7_land_24 (AB ad F22) d9 := hE21.trans ((show m_X7_land_20 (AB ad F19) d9 = m_X7_land_24 (m_X1_clear (AB ad F19) 3) d9 from rfl).trans (congr (congrArg (m_X7_land_24) ((congr (Eq.refl (m_X1_clear (AB ad F19))) (Eq.refl 3)).trans hm22)) (Eq.refl d9)))
    refine lv_aload_n S.1 S.2.1 dX7_land_57 rfl (lv_at hl14 1 rfl) ?_
    have hF26 := (hFc22 0 (by decide)).trans hF19
    refine r_get S hK hP22 0 (by decide) hF26 (C := RX7) (T := TX7) (N := 15) hiX7 rfl 2 (by decide) (am_at in_wsX7_land_0 5 rfl) (v := .ref (ad 4)) rfl dX7_land_58 ?_
    refine lv_iconst (v := (nI 0)) S.1 S.2.1 dX7_land_61 (by decide +kernel) ?_
    obtain ⟨k27, hF27, hk27⟩ := wt_past hW22
    refine r_put S hI hK hP22 hS22 4 (by decide) hF27 (C := RX2) (T := TX2) (N := 2) hiX2 tyX2_ok nmX2 rfl 1 (by decide) (am_at in_wsX7_land_0 6 rfl) rfl rfl rfl (Nat.le_of_ble_eq_true rfl) dX7_land_62 (fun F28 H28 locs28 eF28 hP28 hS28 => ?_)
    have hF28 : F28 4 = .inr (2, [.ref (ad 5), .int (nI 0)]) := by rw [eF28]; exact va_up_self _ _ _
    have hW28 := hW22.up eF28 (ok_past ⟨0, rfl, by omega⟩)
    have hFr28 := hFr22.up eF28 (by simp <;> first | omega | (simp only [isC, isJ] at *; omega))
    have hE30 : M = m_X7_land_29 (AB ad F28) d9 := hE25.trans ((show m_X7_land_24 (AB ad F22) d9 = m_X7_land_29 (st (AB ad F22) 4 1 (nI 0)) d9 from rfl).trans (congr (congrArg (m_X7_land_29) ((st_cg rfl rfl rfl).trans (AB_put hF27 (Nat.le_of_ble_eq_true rfl) eF28).symm)) (Eq.refl d9)))
    refine lv_aload_n S.1 S.2.1 dX7_land_65 rfl (lv_at hl14 1 rfl) ?_
    have hF31 := (show F28 0 = F22 0 by rw [eF28]; exact va_up_ne _ _ (by decide)).trans hF26
    refine r_get S hK hP28 0 (by decide) hF31 (C := RX7) (T := TX7) (N := 15) hiX7 rfl 5 (by decide) (am_at in_wsX7_land_0 7 rfl) (v := .ref (ad 33)) rfl dX7_land_66 ?_
    refine lv_iconst (v := (nI 0)) S.1 S.2.1 dX7_land_69 (by decide +kernel) ?_
    obtain ⟨k32, hF32, hk32⟩ := wt_ways hW28
    refine r_put S hI hK hP28 hS28 33 (by decide) hF32 (C := RX6) (T := TX6) (N := 6) hiX6 tyX6_ok nmX6 rfl 0 (by decide) (am_at in_wsX7_land_0 8 rfl) rfl rfl rfl (Nat.le_of_ble_eq_true rfl) dX7_land_70 (fun F33 H33 locs33 eF33 hP33 hS33 => ?_)
    have hF33 : F33 33 = .inr (6, [.int (nI 0), .ref (ad 34), .ref (ad 35), .ref (ad 36), .ref (ad 37), .ref (ad 38)]) := by rw [eF33]; exact va_up_self _ _ _
    have hW33 := hW28.up eF33 (ok_ways ⟨0, rfl, by omega⟩)
    have hFr33 := hFr28.up eF33 (by simp <;> first | omega | (simp only [isC, isJ] at *; omega))
    have hE35 : M = m_X7_land_34 (AB ad F33) d9 := hE30.trans ((show m_X7_land_29 (AB ad F28) d9 = m_X7_land_34 (st (AB ad F28) 33 0 (nI 0)) d9 from rfl).trans (congr (congrArg (m_X7_land_34) ((st_cg rfl rfl rfl).trans (AB_put hF32 (Nat.le_of_ble_eq_true rfl) eF33).symm)) (Eq.refl d9)))
    refine lv_aload_n S.1 S.2.1 dX7_land_73 rfl (lv_at hl14 1 rfl) ?_
    refine lv_iconst (v := (nI 0)) S.1 S.2.1 dX7_land_74 (by decide +kernel) ?_
    have hF36 := (show F33 0 = F28 0 by rw [eF33]; exact va_up_ne _ _ (by decide)).trans hF31
    refine r_put S hI hK hP33 hS33 0 (by decide) hF36 (C := RX7) (T := TX7) (N := 15) hiX7 tyX7_ok nmX7 rfl 13 (by decide) (am_at in_wsX7_land_0 9 rfl) rfl rfl rfl (Nat.le_of_ble_eq_true rfl) dX7_land_75 (fun F37 H37 locs37 eF37 hP37 hS37 => ?_)
    have hF37 : F37 0 = .inr (7, [.ref (ad 1), .ref (ad 3), .ref (ad 4), .ref (ad 26), .ref (ad 30), .ref (ad 33), .ref (ad 39), .ref (ad 42), .ref (ad 43), .ref (ad 44), .ref (ad 45), .ref (ad d9), .ref (ad c9), .int (nI 0), .int dr9]) := by rw [eF37]; exact va_up_self _ _ _
    have hW37 := hW33.up eF37 (ok_main ⟨d9, c9, 0, dr9, rfl, hd9, hc9, by omega⟩)
    have hFr37 := hFr33.up eF37 (by simp <;> first | omega | (simp only [isC, isJ] at *; omega))
    have hE39 : M = m_X7_land_38 (AB ad F37) d9 := hE35.trans ((show m_X7_land_34 (AB ad F33) d9 = m_X7_land_38 (st (AB ad F33) 0 13 (nI 0)) d9 from rfl).trans (congr (congrArg (m_X7_land_38) ((st_cg rfl rfl rfl).trans (AB_put hF36 (Nat.le_of_ble_eq_true rfl) eF37).symm)) (Eq.refl d9)))
    refine lv_iconst (v := (nI 0)) S.1 S.2.1 dX7_land_78 (by decide +kernel) ?_
    refine lv_istore_n (lv' := [(2, .int (nI 0)), (1, .ref (ad d9)), (0, .ref (ad 0))]) S.1 S.2.1 dX7_land_79 rfl hl14 (by decide) rfl (fun ls40 hl40 => ?_)
    have lp41 : ∀ (n41 : Nat) (q241 : Nat), ∀ (Fl41 : Nat → va_E) (Hl41 : Heap) (lol41 : List Loc), q241 ≤ 2 → fN (Fl41 1) 1 = 0 → 2 - q241 < n41 → WT cA ad Fl41 → rFr [0, 1, 3, 4, 33, 43, 46, 47, 48, 49, 50, 51, 52, 53, 54, 55, 56, 57] F Fl41 → va_P D vwCl (rW ad Fl41) Hl41 → va_S (rA ad) s.heap Hl41 lol41 → M = m_X7_land_L80_41 n41 (AB ad Fl41) (nI q241) d9 → ∀ (ls : Array Slot), lv_has ls 3 [(2, .int (nI q241)), (1, .ref (ad d9)), (0, .ref (ad 0))] → W p l e { frames := 5, cells := 0, slots := 0, locals := 114 } s m args below meth c Hl41 lol41 0 0 Q (F0 m 80 ls []) := by
      intro n41
      induction n41 with
      | zero =>
        intro q241 Fl41 Hl41 lol41 iv41_0 ix41_li hm41 hWl41 hFl41 hPl41 hSl41 hEl41 ls41 hl41
        exact absurd hm41 (Nat.not_lt_zero _)
      | succ n41 ih41 =>
        intro q241 Fl41 Hl41 lol41 iv41_0 ix41_li hm41 hWl41 hFl41 hPl41 hSl41 hEl41 ls41 hl41
        have hE42 : M = m_X7_land_L80_41_b (m_X7_land_L80_41 n41) (AB ad Fl41) (nI q241) d9 := hEl41
        obtain ⟨n43, a43, f43, fa43, nu43, hF43, hn43, ha43⟩ := wt_text hWl41
        have hA44 := fN_of (k := 4) (a := a43) hF43 rfl (by omega)
        have hL44 := fN_of (k := 1) (a := n43) hF43 rfl (by omega)
        refine lv_iload_n S.1 S.2.1 dX7_land_80 rfl (lv_at hl41 0 rfl) ?_
        refine lv_iconst (v := (nI 2)) S.1 S.2.1 dX7_land_81 (by decide +kernel) ?_
        refine lv_icmp_ge (tgt := 98) S.1 S.2.1 dX7_land_82 (by decide) (fun c45 => ?_) (fun c45 => ?_)
        · skip
          have k46 := ci_le (nI_toInt (n := 2) (by decide)) (nI_toInt (n := q241) (by omega)) c45
          refine lv_aload_n S.1 S.2.1 dX7_land_98 rfl (lv_at hl41 2 rfl) ?_
          obtain ⟨c47, d47, k47, dr47, hF47, hc47, hd47, hk47⟩ := wt_main hWl41
          refine r_get S hK hPl41 0 (by decide) hF47 (C := RX7) (T := TX7) (N := 15) hiX7 rfl 11 (by decide) (am_at in_wsX7_land_0 3 rfl) (v := .ref (ad c47)) rfl dX7_land_99 ?_
          have m48 : (rl ((AB ad Fl41) 0 11)) = c47 := AB_r hI (lt_C hc47) hF47 rfl
          obtain ⟨sl49, fm49, tn49, rn49, bn49, hF49, hb49_1, hb49_2, hb49_3⟩ := wt_C hWl41 hc47
          refine r_get S hK hPl41 c47 (lt_C hc47) hF49 (C := RX0) (T := TX0) (N := 10) hiX0 rfl 2 (by decide) (am_at in_wsX7_land_0 11 rfl) (v := .int (nI tn49)) rfl dX7_land_102 ?_
          have m50 : ((AB ad Fl41) (rl ((AB ad Fl41) 0 11)) 2) = (nI tn49) := (congrArg (fun q => AB ad Fl41 q 2) m48).trans (AB_f hF49 rfl)
          have hA51 := fN_of (k := 4) (a := a43) hF43 rfl (by omega)
          have hL51 := fN_of (k := 1) (a := n43) hF43 rfl (by omega)
          have hE52 : M = ((nI tn49), AB ad Fl41) := hE42.trans ((show m_X7_land_L80_41_b (m_X7_land_L80_41 n41) (AB ad Fl41) (nI q241) d9 = (((AB ad Fl41) (rl ((AB ad Fl41) 0 11)) 2), (AB ad Fl41)) from by unfold m_X7_land_L80_41_b; rw [if_pos (le_cg rfl rfl c45)]).trans (congrArg (fun q => (q, AB ad Fl41)) m50))
          exact hret 105 _ _ _ _ _ dX7_land_105 rfl hPl41 hSl41 ⟨hWl41, hFl41, ⟨by omega, hM.symm.trans hE52⟩⟩
        have k53 := ci_nle (nI_toInt (n := 2) (by decide)) (nI_toInt (n := q241) (by omega)) c45
        refine lv_aload_n S.1 S.2.1 dX7_land_85 rfl (lv_at hl41 2 rfl) ?_
        obtain ⟨c54, d54, k54, dr54, hF54, hc54, hd54, hk54⟩ := wt_main hWl41
        refine r_get S hK hPl41 0 (by decide) hF54 (C := RX7) (T := TX7) (N := 15) hiX7 rfl 8 (by decide) (am_at in_wsX7_land_0 10 rfl) (v := .ref (ad 43)) rfl dX7_land_86 ?_
        refine lv_iload_n S.1 S.2.1 dX7_land_89 rfl (lv_at hl41 0 rfl) ?_
        refine lv_iconst (v := (nI 0)) S.1 S.2.1 dX7_land_90 (by decide +kernel) ?_
        obtain ⟨g55, hF55⟩ := wt_Z hWl41 (show (43, 2) ∈ rLZ by decide)
        refine r_zast S hI hK hPl41 hSl41 43 (by decide) hF55 (vp_in_nI (show q241 < 2 by omega) (by omega)) dX7_land_91 (fun F56 H56 locs56 eF56 hP56 hS56 => ?_)
        have hW56 := hWl41.up eF56 (ok_Z (show (43, 2) ∈ rLZ by decide) ⟨_, rfl⟩)
        have hFr56 := hFl41.up eF56 (by simp <;> first | omega | (simp only [isC, isJ] at *; omega))
        have hE58 : M = m_X7_land_57 (m_X7_land_L80_41 n41) (AB ad F56) (nI q241) d9 := hE42.trans ((show m_X7_land_L80_41_b (m_X7_land_L80_41 n41) (AB ad Fl41) (nI q241) d9 = m_X7_land_57 (m_X7_land_L80_41 n41) (st (AB ad Fl41) 43 (rl (nI q241)) (vp_nar .boolean (nI 0))) (nI q241) d9 from by unfold m_X7_land_L80_41_b; rw [if_neg (nle_cg rfl rfl c45)]).trans (congr (congr (congrArg (m_X7_land_57 (m_X7_land_L80_41 n41)) ((st_cg rfl (congrArg rl rfl) (congrArg (vp_nar .boolean) rfl)).trans (AB_ast hF55 eF56).symm)) (Eq.refl ((nI q241) : Int32))) (Eq.refl d9)))
        have m60 : ((nI q241) + Int32.ofInt (1)) = (nI (q241 + 1)) := (congrArg (fun q : Int32 => q + Int32.ofInt (1)) rfl).trans (nI_add _ 1)
        refine lv_iinc (v := (nI (q241 + 1))) (lv' := [(2, .int (nI (q241 + 1))), (1, .ref (ad d9)), (0, .ref (ad 0))]) S.1 S.2.1 dX7_land_92 hl41 (k := 0) rfl (nI_add _ 1) (by decide) rfl (fun ls59 hl59 => ?_)
        refine lv_goto (tgt := 80) S.1 S.2.1 dX7_land_95 (by decide) ?_
        have hF61 := (show F56 1 = Fl41 1 by rw [eF56]; exact va_up_ne _ _ (by decide)).trans hF43
        have hA62 := fN_of (k := 4) (a := a43) hF61 rfl (by omega)
        have hL62 := fN_of (k := 1) (a := n43) hF61 rfl (by omega)
        have hE63 : M = (m_X7_land_L80_41 n41) (AB ad F56) (nI (q241 + 1)) d9 := hE58.trans ((show m_X7_land_57 (m_X7_land_L80_41 n41) (AB ad F56) (nI q241) d9 = (m_X7_land_L80_41 n41) (AB ad F56) ((nI q241) + Int32.ofInt (1)) d9 from rfl).trans (congr (congr (congrArg ((m_X7_land_L80_41 n41)) (rfl : AB ad F56 = AB ad F56)) m60) (Eq.refl d9)))
        exact ih41 (q241 + 1) F56 H56 locs56 (by omega) (by omega) (by omega) hW56 hFr56 hP56 hS56 hE63 ls59 (lv_sub hl59 [0, 1, 2] rfl)
    have hF64 := (show F16 1 = F3 1 by rw [eF16]; exact va_up_ne _ _ (by decide)).trans hF5
    have hF65 := (show F19 1 = F16 1 by rw [eF19]; exact va_up_ne _ _ (by decide)).trans hF64
    have hF66 := (hFc22 1 (by decide)).trans hF65
    have hF67 := (show F28 1 = F22 1 by rw [eF28]; exact va_up_ne _ _ (by decide)).trans hF66
    have hF68 := (show F33 1 = F28 1 by rw [eF33]; exact va_up_ne _ _ (by decide)).trans hF67
    have hF69 := (show F37 1 = F33 1 by rw [eF37]; exact va_up_ne _ _ (by decide)).trans hF68
    have hA70 := fN_of (k := 4) (a := a5) hF69 rfl (by omega)
    have hL70 := fN_of (k := 1) (a := n5) hF69 rfl (by omega)
    have hE71 : M = m_X7_land_L80_41 2000 (AB ad F37) (nI 0) d9 := hE39.trans ((show m_X7_land_38 (AB ad F37) d9 = m_X7_land_L80_41 2000 (AB ad F37) (nI 0) d9 from rfl).trans (congr (congr (congrArg (m_X7_land_L80_41 2000) (rfl : AB ad F37 = AB ad F37)) (Eq.refl ((nI 0) : Int32))) (Eq.refl d9)))
    exact lp41 2000 (0) F37 H37 locs37 (by omega) (by omega) (by omega) hW37 hFr37 hP37 hS37 hE71 ls40 (lv_sub hl40 [0, 1, 2] rfl)
  have k72 := ci_ne rfl z_ti c11
  refine lv_bipush (v := (-10)) S.1 S.2.1 dX7_land_21 (by decide +kernel) ?_
  refine lv_aload_n S.1 S.2.1 dX7_land_23 rfl (lv_at hl0 0 rfl) ?_
  refine r_get S hK hP3 0 (by decide) hF9 (C := RX7) (T := TX7) (N := 15) hiX7 rfl 0 (by decide) (am_at in_wsX7_land_0 0 rfl) (v := .ref (ad 1)) rfl dX7_land_24 ?_
  refine r_get S hK hP3 1 (by decide) hF5 (C := RX5) (T := TX5) (N := 6) hiX5 rfl 2 (by decide) (am_at in_wsX7_land_0 2 rfl) (v := .int f5) rfl dX7_land_27 ?_
  have m73 : ((AB ad F3) 1 2) = f5 := AB_f hF5 rfl
  refine lv_isub S.1 S.2.1 dX7_land_30 ?_
  refine lv_topi (fun v74 e74 => ?_)
  have m75 : (((-10) : Int32) - ((AB ad F3) 1 2)) = v74 := cg2 (fun (x : Int32) (y : Int32) => x - y) (Eq.refl ((-10) : Int32)) m73 e74
  have hA76 := fN_of (k := 4) (a := a5) hF5 rfl (by omega)
  have hL76 := fN_of (k := 1) (a := n5) hF5 rfl (by omega)
  have hE77 : M = (v74, AB ad F3) := hE8.trans ((show m_X7_land_7 (AB ad F3) = ((((-10) : Int32) - ((AB ad F3) 1 2)), (AB ad F3)) from by unfold m_X7_land_7; rw [if_neg (neq_cg m10 rfl c11)]).trans (congrArg (fun q => (q, AB ad F3)) m75))
  exact hret 31 _ _ _ _ _ dX7_land_31 rfl hP3 hS3 ⟨hW3, hFr3, ⟨by omega, hM.symm.trans hE77⟩⟩
noncomputable def m_X7_fault (σ : SS) : Int32 :=
  (σ 1 3)
set_option maxHeartbeats 4000000 in
set_option maxRecDepth 100000 in
theorem c_X7_fault (l : Launch) (D : va_G) (cA ad : Nat → Nat) (t : Nat) (hI : rI ad) (F : Nat → va_E) (hW : WT cA ad F) : MP l D cA ad t yX7_fault wsX7_fault { frames := 0, cells := 0, slots := 0, locals := 0 } [.ref (ad 0)] F (fun r => (True) ∧ m_X7_fault (AB ad F) = r) := by
  refine en_P rfl (by decide +kernel) (Nat.le_of_ble_eq_true rfl) ?_
  intro p e s m args below meth c ls0 Q S hK hZ hP hS hl0 hret
  have hl0 : lv_has ls0 1 [(0, .ref (ad 0))] := hl0
  have hiX5 : ∀ w ∈ u_ws RX5 TX5 6, w ∈ wsX7_fault := in_wsX7_fault_2
  have hiX7 : ∀ w ∈ u_ws RX7 TX7 15, w ∈ wsX7_fault := in_wsX7_fault_1
  obtain ⟨M, hM⟩ : ∃ M, M = m_X7_fault (AB ad F) := ⟨_, rfl⟩
  refine lv_aload_n S.1 S.2.1 dX7_fault_0 rfl (lv_at hl0 0 rfl) ?_
  obtain ⟨c1, d1, k1, dr1, hF1, hc1, hd1, hk1⟩ := wt_main hW
  refine r_get S hK hP 0 (by decide) hF1 (C := RX7) (T := TX7) (N := 15) hiX7 rfl 0 (by decide) (am_at in_wsX7_fault_0 0 rfl) (v := .ref (ad 1)) rfl dX7_fault_1 ?_
  obtain ⟨n2, a2, f2, fa2, nu2, hF2, hn2, ha2⟩ := wt_text hW
  refine r_get S hK hP 1 (by decide) hF2 (C := RX5) (T := TX5) (N := 6) hiX5 rfl 3 (by decide) (am_at in_wsX7_fault_0 1 rfl) (v := .int fa2) rfl dX7_fault_4 ?_
  have m3 : ((AB ad F) 1 3) = fa2 := AB_f hF2 rfl
  have hE4 : M = fa2 := hM.trans ((show m_X7_fault (AB ad F) = ((AB ad F) 1 3) from rfl).trans m3)
  exact hret 7 _ _ dX7_fault_7 rfl (⟨trivial, hM.symm.trans hE4⟩)
noncomputable def m_X7_told (σ : SS) (a0 : Int32) : Int32 :=
  if a0.toInt = 0 then
    (σ (rl (σ 0 11)) 0)
  else
    if a0.toInt = 1 then
      (σ (rl (σ 0 11)) 1)
    else
      if a0.toInt = 2 then
        (σ (rl (σ 0 11)) 2)
      else
        if a0.toInt = 3 then
          (σ (rl (σ 0 11)) 3)
        else
          if a0.toInt = 4 then
            (σ 1 1)
          else
            if a0.toInt = 5 then
              (σ 3 1)
            else
              if a0.toInt = 6 then
                (σ 3 0)
              else
                if a0.toInt = 7 then
                  (σ 3 2)
                else
                  if a0.toInt = 8 then
                    (σ 3 3)
                  else
                    if a0.toInt = 9 then
                      (σ 3 4)
                    else
                      if a0.toInt = 10 then
                        (σ 3 5)
                      else
                        if a0.toInt = 11 then
                          if (σ 3 6) = (0 : Int32) then
                            (nI 0)
                          else
                            (nI 1)
                        else
                          if a0.toInt = 12 then
                            (σ 33 0)
                          else
                            if a0.toInt = 13 then
                              (σ 0 13)
                            else
                              if a0.toInt = 14 then
                                (σ 4 1)
                              else
                                ((-1000000002) : Int32)
set_option maxHeartbeats 4000000 in
set_option maxRecDepth 100000 in
theorem c_X7_told (l : Launch) (D : va_G) (cA ad : Nat → Nat) (t : Nat) (hI : rI ad) (F : Nat → va_E) (hW : WT cA ad F) (p1 : Int32) : MP l D cA ad t yX7_told wsX7_told { frames := 0, cells := 0, slots := 0, locals := 0 } [.ref (ad 0), .int p1] F (fun r => (True) ∧ m_X7_told (AB ad F) p1 = r) := by
  refine en_P rfl (by decide +kernel) (Nat.le_of_ble_eq_true rfl) ?_
  intro p e s m args below meth c ls0 Q S hK hZ hP hS hl0 hret
  have hl0 : lv_has ls0 2 [(0, .ref (ad 0)), (1, .int p1)] := hl0
  have hiX0 : ∀ w ∈ u_ws RX0 TX0 10, w ∈ wsX7_told := in_wsX7_told_2
  have hiX1 : ∀ w ∈ u_ws RX1 TX1 7, w ∈ wsX7_told := in_wsX7_told_4
  have hiX2 : ∀ w ∈ u_ws RX2 TX2 2, w ∈ wsX7_told := in_wsX7_told_6
  have hiX5 : ∀ w ∈ u_ws RX5 TX5 6, w ∈ wsX7_told := in_wsX7_told_3
  have hiX6 : ∀ w ∈ u_ws RX6 TX6 6, w ∈ wsX7_told := in_wsX7_told_5
  have hiX7 : ∀ w ∈ u_ws RX7 TX7 15, w ∈ wsX7_told := in_wsX7_told_1
  obtain ⟨M, hM⟩ : ∃ M, M = m_X7_told (AB ad F) p1 := ⟨_, rfl⟩
  refine lv_iload_n S.1 S.2.1 dX7_told_0 rfl (lv_at hl0 1 rfl) ?_
  by_cases hs1_0 : p1.toInt = 0
  · refine lv_tableIn (off := 75) (tgt := 76) S.1 S.2.1 dX7_told_1 (by omega) (by omega) (by rw [hs1_0]; rfl) (by decide) ?_
    refine lv_aload_n S.1 S.2.1 dX7_told_76 rfl (lv_at hl0 0 rfl) ?_
    obtain ⟨c2, d2, k2, dr2, hF2, hc2, hd2, hk2⟩ := wt_main hW
    refine r_get S hK hP 0 (by decide) hF2 (C := RX7) (T := TX7) (N := 15) hiX7 rfl 11 (by decide) (am_at in_wsX7_told_0 0 rfl) (v := .ref (ad c2)) rfl dX7_told_77 ?_
    have m3 : (rl ((AB ad F) 0 11)) = c2 := AB_r hI (lt_C hc2) hF2 rfl
    obtain ⟨sl4, fm4, tn4, rn4, bn4, hF4, hb4_1, hb4_2, hb4_3⟩ := wt_C hW hc2
    refine r_get S hK hP c2 (lt_C hc2) hF4 (C := RX0) (T := TX0) (N := 10) hiX0 rfl 0 (by decide) (am_at in_wsX7_told_0 1 rfl) (v := .int (nI sl4)) rfl dX7_told_80 ?_
    have m5 : ((AB ad F) (rl ((AB ad F) 0 11)) 0) = (nI sl4) := (congrArg (fun q => AB ad F q 0) m3).trans (AB_f hF4 rfl)
    have hE6 : M = (nI sl4) := hM.trans ((show m_X7_told (AB ad F) p1 = ((AB ad F) (rl ((AB ad F) 0 11)) 0) from by unfold m_X7_told; rw [if_pos (ti_cg rfl hs1_0)]).trans m5)
    exact hret 83 _ _ dX7_told_83 rfl (⟨trivial, hM.symm.trans hE6⟩)
  by_cases hs1_1 : p1.toInt = 1
  · refine lv_tableIn (off := 83) (tgt := 84) S.1 S.2.1 dX7_told_1 (by omega) (by omega) (by rw [hs1_1]; rfl) (by decide) ?_
    refine lv_aload_n S.1 S.2.1 dX7_told_84 rfl (lv_at hl0 0 rfl) ?_
    obtain ⟨c7, d7, k7, dr7, hF7, hc7, hd7, hk7⟩ := wt_main hW
    refine r_get S hK hP 0 (by decide) hF7 (C := RX7) (T := TX7) (N := 15) hiX7 rfl 11 (by decide) (am_at in_wsX7_told_0 0 rfl) (v := .ref (ad c7)) rfl dX7_told_85 ?_
    have m8 : (rl ((AB ad F) 0 11)) = c7 := AB_r hI (lt_C hc7) hF7 rfl
    obtain ⟨sl9, fm9, tn9, rn9, bn9, hF9, hb9_1, hb9_2, hb9_3⟩ := wt_C hW hc7
    refine r_get S hK hP c7 (lt_C hc7) hF9 (C := RX0) (T := TX0) (N := 10) hiX0 rfl 1 (by decide) (am_at in_wsX7_told_0 2 rfl) (v := .int fm9) rfl dX7_told_88 ?_
    have m10 : ((AB ad F) (rl ((AB ad F) 0 11)) 1) = fm9 := (congrArg (fun q => AB ad F q 1) m8).trans (AB_f hF9 rfl)
    have hE11 : M = fm9 := hM.trans ((show m_X7_told (AB ad F) p1 = ((AB ad F) (rl ((AB ad F) 0 11)) 1) from by unfold m_X7_told; rw [if_neg (nti_cg rfl hs1_0), if_pos (ti_cg rfl hs1_1)]).trans m10)
    exact hret 91 _ _ dX7_told_91 rfl (⟨trivial, hM.symm.trans hE11⟩)
  by_cases hs1_2 : p1.toInt = 2
  · refine lv_tableIn (off := 91) (tgt := 92) S.1 S.2.1 dX7_told_1 (by omega) (by omega) (by rw [hs1_2]; rfl) (by decide) ?_
    refine lv_aload_n S.1 S.2.1 dX7_told_92 rfl (lv_at hl0 0 rfl) ?_
    obtain ⟨c12, d12, k12, dr12, hF12, hc12, hd12, hk12⟩ := wt_main hW
    refine r_get S hK hP 0 (by decide) hF12 (C := RX7) (T := TX7) (N := 15) hiX7 rfl 11 (by decide) (am_at in_wsX7_told_0 0 rfl) (v := .ref (ad c12)) rfl dX7_told_93 ?_
    have m13 : (rl ((AB ad F) 0 11)) = c12 := AB_r hI (lt_C hc12) hF12 rfl
    obtain ⟨sl14, fm14, tn14, rn14, bn14, hF14, hb14_1, hb14_2, hb14_3⟩ := wt_C hW hc12
    refine r_get S hK hP c12 (lt_C hc12) hF14 (C := RX0) (T := TX0) (N := 10) hiX0 rfl 2 (by decide) (am_at in_wsX7_told_0 3 rfl) (v := .int (nI tn14)) rfl dX7_told_96 ?_
    have m15 : ((AB ad F) (rl ((AB ad F) 0 11)) 2) = (nI tn14) := (congrArg (fun q => AB ad F q 2) m13).trans (AB_f hF14 rfl)
    have hE16 : M = (nI tn14) := hM.trans ((show m_X7_told (AB ad F) p1 = ((AB ad F) (rl ((AB ad F) 0 11)) 2) from by unfold m_X7_told; rw [if_neg (nti_cg rfl hs1_0), if_neg (nti_cg rfl hs1_1), if_pos (ti_cg rfl hs1_2)]).trans m15)
    exact hret 99 _ _ dX7_told_99 rfl (⟨trivial, hM.symm.trans hE16⟩)
  by_cases hs1_3 : p1.toInt = 3
  · refine lv_tableIn (off := 99) (tgt := 100) S.1 S.2.1 dX7_told_1 (by omega) (by omega) (by rw [hs1_3]; rfl) (by decide) ?_
    refine lv_aload_n S.1 S.2.1 dX7_told_100 rfl (lv_at hl0 0 rfl) ?_
    obtain ⟨c17, d17, k17, dr17, hF17, hc17, hd17, hk17⟩ := wt_main hW
    refine r_get S hK hP 0 (by decide) hF17 (C := RX7) (T := TX7) (N := 15) hiX7 rfl 11 (by decide) (am_at in_wsX7_told_0 0 rfl) (v := .ref (ad c17)) rfl dX7_told_101 ?_
    have m18 : (rl ((AB ad F) 0 11)) = c17 := AB_r hI (lt_C hc17) hF17 rfl
    obtain ⟨sl19, fm19, tn19, rn19, bn19, hF19, hb19_1, hb19_2, hb19_3⟩ := wt_C hW hc17
    refine r_get S hK hP c17 (lt_C hc17) hF19 (C := RX0) (T := TX0) (N := 10) hiX0 rfl 3 (by decide) (am_at in_wsX7_told_0 4 rfl) (v := .int (nI rn19)) rfl dX7_told_104 ?_
    have m20 : ((AB ad F) (rl ((AB ad F) 0 11)) 3) = (nI rn19) := (congrArg (fun q => AB ad F q 3) m18).trans (AB_f hF19 rfl)
    have hE21 : M = (nI rn19) := hM.trans ((show m_X7_told (AB ad F) p1 = ((AB ad F) (rl ((AB ad F) 0 11)) 3) from by unfold m_X7_told; rw [if_neg (nti_cg rfl hs1_0), if_neg (nti_cg rfl hs1_1), if_neg (nti_cg rfl hs1_2), if_pos (ti_cg rfl hs1_3)]).trans m20)
    exact hret 107 _ _ dX7_told_107 rfl (⟨trivial, hM.symm.trans hE21⟩)
  by_cases hs1_4 : p1.toInt = 4
  · refine lv_tableIn (off := 107) (tgt := 108) S.1 S.2.1 dX7_told_1 (by omega) (by omega) (by rw [hs1_4]; rfl) (by decide) ?_
    refine lv_aload_n S.1 S.2.1 dX7_told_108 rfl (lv_at hl0 0 rfl) ?_
    obtain ⟨c22, d22, k22, dr22, hF22, hc22, hd22, hk22⟩ := wt_main hW
    refine r_get S hK hP 0 (by decide) hF22 (C := RX7) (T := TX7) (N := 15) hiX7 rfl 0 (by decide) (am_at in_wsX7_told_0 5 rfl) (v := .ref (ad 1)) rfl dX7_told_109 ?_
    obtain ⟨n23, a23, f23, fa23, nu23, hF23, hn23, ha23⟩ := wt_text hW
    refine r_get S hK hP 1 (by decide) hF23 (C := RX5) (T := TX5) (N := 6) hiX5 rfl 1 (by decide) (am_at in_wsX7_told_0 6 rfl) (v := .int (nI n23)) rfl dX7_told_112 ?_
    have m24 : ((AB ad F) 1 1) = (nI n23) := AB_f hF23 rfl
    have hE25 : M = (nI n23) := hM.trans ((show m_X7_told (AB ad F) p1 = ((AB ad F) 1 1) from by unfold m_X7_told; rw [if_neg (nti_cg rfl hs1_0), if_neg (nti_cg rfl hs1_1), if_neg (nti_cg rfl hs1_2), if_neg (nti_cg rfl hs1_3), if_pos (ti_cg rfl hs1_4)]).trans m24)
    exact hret 115 _ _ dX7_told_115 rfl (⟨trivial, hM.symm.trans hE25⟩)
  by_cases hs1_5 : p1.toInt = 5
  · refine lv_tableIn (off := 115) (tgt := 116) S.1 S.2.1 dX7_told_1 (by omega) (by omega) (by rw [hs1_5]; rfl) (by decide) ?_
    refine lv_aload_n S.1 S.2.1 dX7_told_116 rfl (lv_at hl0 0 rfl) ?_
    obtain ⟨c26, d26, k26, dr26, hF26, hc26, hd26, hk26⟩ := wt_main hW
    refine r_get S hK hP 0 (by decide) hF26 (C := RX7) (T := TX7) (N := 15) hiX7 rfl 1 (by decide) (am_at in_wsX7_told_0 7 rfl) (v := .ref (ad 3)) rfl dX7_told_117 ?_
    obtain ⟨ja27, jb27, jc27, jd27, jx27, jy27, jk27, hF27, hk27⟩ := wt_J hW (show isJ 3 from Or.inl rfl)
    refine r_get S hK hP 3 (by decide) hF27 (C := RX1) (T := TX1) (N := 7) hiX1 rfl 1 (by decide) (am_at in_wsX7_told_0 8 rfl) (v := .int jb27) rfl dX7_told_120 ?_
    have m28 : ((AB ad F) 3 1) = jb27 := AB_f hF27 rfl
    have hE29 : M = jb27 := hM.trans ((show m_X7_told (AB ad F) p1 = ((AB ad F) 3 1) from by unfold m_X7_told; rw [if_neg (nti_cg rfl hs1_0), if_neg (nti_cg rfl hs1_1), if_neg (nti_cg rfl hs1_2), if_neg (nti_cg rfl hs1_3), if_neg (nti_cg rfl hs1_4), if_pos (ti_cg rfl hs1_5)]).trans m28)
    exact hret 123 _ _ dX7_told_123 rfl (⟨trivial, hM.symm.trans hE29⟩)
  by_cases hs1_6 : p1.toInt = 6
  · refine lv_tableIn (off := 123) (tgt := 124) S.1 S.2.1 dX7_told_1 (by omega) (by omega) (by rw [hs1_6]; rfl) (by decide) ?_
    refine lv_aload_n S.1 S.2.1 dX7_told_124 rfl (lv_at hl0 0 rfl) ?_
    obtain ⟨c30, d30, k30, dr30, hF30, hc30, hd30, hk30⟩ := wt_main hW
    refine r_get S hK hP 0 (by decide) hF30 (C := RX7) (T := TX7) (N := 15) hiX7 rfl 1 (by decide) (am_at in_wsX7_told_0 7 rfl) (v := .ref (ad 3)) rfl dX7_told_125 ?_
    obtain ⟨ja31, jb31, jc31, jd31, jx31, jy31, jk31, hF31, hk31⟩ := wt_J hW (show isJ 3 from Or.inl rfl)
    refine r_get S hK hP 3 (by decide) hF31 (C := RX1) (T := TX1) (N := 7) hiX1 rfl 0 (by decide) (am_at in_wsX7_told_0 9 rfl) (v := .int ja31) rfl dX7_told_128 ?_
    have m32 : ((AB ad F) 3 0) = ja31 := AB_f hF31 rfl
    have hE33 : M = ja31 := hM.trans ((show m_X7_told (AB ad F) p1 = ((AB ad F) 3 0) from by unfold m_X7_told; rw [if_neg (nti_cg rfl hs1_0), if_neg (nti_cg rfl hs1_1), if_neg (nti_cg rfl hs1_2), if_neg (nti_cg rfl hs1_3), if_neg (nti_cg rfl hs1_4), if_neg (nti_cg rfl hs1_5), if_pos (ti_cg rfl hs1_6)]).trans m32)
    exact hret 131 _ _ dX7_told_131 rfl (⟨trivial, hM.symm.trans hE33⟩)
  by_cases hs1_7 : p1.toInt = 7
  · refine lv_tableIn (off := 131) (tgt := 132) S.1 S.2.1 dX7_told_1 (by omega) (by omega) (by rw [hs1_7]; rfl) (by decide) ?_
    refine lv_aload_n S.1 S.2.1 dX7_told_132 rfl (lv_at hl0 0 rfl) ?_
    obtain ⟨c34, d34, k34, dr34, hF34, hc34, hd34, hk34⟩ := wt_main hW
    refine r_get S hK hP 0 (by decide) hF34 (C := RX7) (T := TX7) (N := 15) hiX7 rfl 1 (by decide) (am_at in_wsX7_told_0 7 rfl) (v := .ref (ad 3)) rfl dX7_told_133 ?_
    obtain ⟨ja35, jb35, jc35, jd35, jx35, jy35, jk35, hF35, hk35⟩ := wt_J hW (show isJ 3 from Or.inl rfl)
    refine r_get S hK hP 3 (by decide) hF35 (C := RX1) (T := TX1) (N := 7) hiX1 rfl 2 (by decide) (am_at in_wsX7_told_0 10 rfl) (v := .int jc35) rfl dX7_told_136 ?_
    have m36 : ((AB ad F) 3 2) = jc35 := AB_f hF35 rfl
    have hE37 : M = jc35 := hM.trans ((show m_X7_told (AB ad F) p1 = ((AB ad F) 3 2) from by unfold m_X7_told; rw [if_neg (nti_cg rfl hs1_0), if_neg (nti_cg rfl hs1_1), if_neg (nti_cg rfl hs1_2), if_neg (nti_cg rfl hs1_3), if_neg (nti_cg rfl hs1_4), if_neg (nti_cg rfl hs1_5), if_neg (nti_cg rfl hs1_6), if_pos (ti_cg rfl hs1_7)]).trans m36)
    exact hret 139 _ _ dX7_told_139 rfl (⟨trivial, hM.symm.trans hE37⟩)
  by_cases hs1_8 : p1.toInt = 8
  · refine lv_tableIn (off := 139) (tgt := 140) S.1 S.2.1 dX7_told_1 (by omega) (by omega) (by rw [hs1_8]; rfl) (by decide) ?_
    refine lv_aload_n S.1 S.2.1 dX7_told_140 rfl (lv_at hl0 0 rfl) ?_
    obtain ⟨c38, d38, k38, dr38, hF38, hc38, hd38, hk38⟩ := wt_main hW
    refine r_get S hK hP 0 (by decide) hF38 (C := RX7) (T := TX7) (N := 15) hiX7 rfl 1 (by decide) (am_at in_wsX7_told_0 7 rfl) (v := .ref (ad 3)) rfl dX7_told_141 ?_
    obtain ⟨ja39, jb39, jc39, jd39, jx39, jy39, jk39, hF39, hk39⟩ := wt_J hW (show isJ 3 from Or.inl rfl)
    refine r_get S hK hP 3 (by decide) hF39 (C := RX1) (T := TX1) (N := 7) hiX1 rfl 3 (by decide) (am_at in_wsX7_told_0 11 rfl) (v := .int jd39) rfl dX7_told_144 ?_
    have m40 : ((AB ad F) 3 3) = jd39 := AB_f hF39 rfl
    have hE41 : M = jd39 := hM.trans ((show m_X7_told (AB ad F) p1 = ((AB ad F) 3 3) from by unfold m_X7_told; rw [if_neg (nti_cg rfl hs1_0), if_neg (nti_cg rfl hs1_1), if_neg (nti_cg rfl hs1_2), if_neg (nti_cg rfl hs1_3), if_neg (nti_cg rfl hs1_4), if_neg (nti_cg rfl hs1_5), if_neg (nti_cg rfl hs1_6), if_neg (nti_cg rfl hs1_7), if_pos (ti_cg rfl hs1_8)]).trans m40)
    exact hret 147 _ _ dX7_told_147 rfl (⟨trivial, hM.symm.trans hE41⟩)
  by_cases hs1_9 : p1.toInt = 9
  · refine lv_tableIn (off := 147) (tgt := 148) S.1 S.2.1 dX7_told_1 (by omega) (by omega) (by rw [hs1_9]; rfl) (by decide) ?_
    refine lv_aload_n S.1 S.2.1 dX7_told_148 rfl (lv_at hl0 0 rfl) ?_
    obtain ⟨c42, d42, k42, dr42, hF42, hc42, hd42, hk42⟩ := wt_main hW
    refine r_get S hK hP 0 (by decide) hF42 (C := RX7) (T := TX7) (N := 15) hiX7 rfl 1 (by decide) (am_at in_wsX7_told_0 7 rfl) (v := .ref (ad 3)) rfl dX7_told_149 ?_
    obtain ⟨ja43, jb43, jc43, jd43, jx43, jy43, jk43, hF43, hk43⟩ := wt_J hW (show isJ 3 from Or.inl rfl)
    refine r_get S hK hP 3 (by decide) hF43 (C := RX1) (T := TX1) (N := 7) hiX1 rfl 4 (by decide) (am_at in_wsX7_told_0 12 rfl) (v := .int jx43) rfl dX7_told_152 ?_
    have m44 : ((AB ad F) 3 4) = jx43 := AB_f hF43 rfl
    have hE45 : M = jx43 := hM.trans ((show m_X7_told (AB ad F) p1 = ((AB ad F) 3 4) from by unfold m_X7_told; rw [if_neg (nti_cg rfl hs1_0), if_neg (nti_cg rfl hs1_1), if_neg (nti_cg rfl hs1_2), if_neg (nti_cg rfl hs1_3), if_neg (nti_cg rfl hs1_4), if_neg (nti_cg rfl hs1_5), if_neg (nti_cg rfl hs1_6), if_neg (nti_cg rfl hs1_7), if_neg (nti_cg rfl hs1_8), if_pos (ti_cg rfl hs1_9)]).trans m44)
    exact hret 155 _ _ dX7_told_155 rfl (⟨trivial, hM.symm.trans hE45⟩)
  by_cases hs1_10 : p1.toInt = 10
  · refine lv_tableIn (off := 155) (tgt := 156) S.1 S.2.1 dX7_told_1 (by omega) (by omega) (by rw [hs1_10]; rfl) (by decide) ?_
    refine lv_aload_n S.1 S.2.1 dX7_told_156 rfl (lv_at hl0 0 rfl) ?_
    obtain ⟨c46, d46, k46, dr46, hF46, hc46, hd46, hk46⟩ := wt_main hW
    refine r_get S hK hP 0 (by decide) hF46 (C := RX7) (T := TX7) (N := 15) hiX7 rfl 1 (by decide) (am_at in_wsX7_told_0 7 rfl) (v := .ref (ad 3)) rfl dX7_told_157 ?_
    obtain ⟨ja47, jb47, jc47, jd47, jx47, jy47, jk47, hF47, hk47⟩ := wt_J hW (show isJ 3 from Or.inl rfl)
    refine r_get S hK hP 3 (by decide) hF47 (C := RX1) (T := TX1) (N := 7) hiX1 rfl 5 (by decide) (am_at in_wsX7_told_0 13 rfl) (v := .int jy47) rfl dX7_told_160 ?_
    have m48 : ((AB ad F) 3 5) = jy47 := AB_f hF47 rfl
    have hE49 : M = jy47 := hM.trans ((show m_X7_told (AB ad F) p1 = ((AB ad F) 3 5) from by unfold m_X7_told; rw [if_neg (nti_cg rfl hs1_0), if_neg (nti_cg rfl hs1_1), if_neg (nti_cg rfl hs1_2), if_neg (nti_cg rfl hs1_3), if_neg (nti_cg rfl hs1_4), if_neg (nti_cg rfl hs1_5), if_neg (nti_cg rfl hs1_6), if_neg (nti_cg rfl hs1_7), if_neg (nti_cg rfl hs1_8), if_neg (nti_cg rfl hs1_9), if_pos (ti_cg rfl hs1_10)]).trans m48)
    exact hret 163 _ _ dX7_told_163 rfl (⟨trivial, hM.symm.trans hE49⟩)
  by_cases hs1_11 : p1.toInt = 11
  · refine lv_tableIn (off := 163) (tgt := 164) S.1 S.2.1 dX7_told_1 (by omega) (by omega) (by rw [hs1_11]; rfl) (by decide) ?_
    refine lv_aload_n S.1 S.2.1 dX7_told_164 rfl (lv_at hl0 0 rfl) ?_
    obtain ⟨c50, d50, k50, dr50, hF50, hc50, hd50, hk50⟩ := wt_main hW
    refine r_get S hK hP 0 (by decide) hF50 (C := RX7) (T := TX7) (N := 15) hiX7 rfl 1 (by decide) (am_at in_wsX7_told_0 7 rfl) (v := .ref (ad 3)) rfl dX7_told_165 ?_
    obtain ⟨ja51, jb51, jc51, jd51, jx51, jy51, jk51, hF51, hk51⟩ := wt_J hW (show isJ 3 from Or.inl rfl)
    refine r_get S hK hP 3 (by decide) hF51 (C := RX1) (T := TX1) (N := 7) hiX1 rfl 6 (by decide) (am_at in_wsX7_told_0 14 rfl) (v := .int (nI jk51)) rfl dX7_told_168 ?_
    have m52 : ((AB ad F) 3 6) = (nI jk51) := AB_f hF51 rfl
    refine lv_if_eq (tgt := 178) S.1 S.2.1 dX7_told_171 (by decide) (fun c53 => ?_) (fun c53 => ?_)
    · skip
      have k54 := ci_eq (nI_toInt (n := jk51) (by omega)) z_ti c53
      refine lv_iconst (v := (nI 0)) S.1 S.2.1 dX7_told_178 (by decide +kernel) ?_
      have hE55 : M = (nI 0) := hM.trans ((show m_X7_told (AB ad F) p1 = (nI 0) from by unfold m_X7_told; rw [if_neg (nti_cg rfl hs1_0), if_neg (nti_cg rfl hs1_1), if_neg (nti_cg rfl hs1_2), if_neg (nti_cg rfl hs1_3), if_neg (nti_cg rfl hs1_4), if_neg (nti_cg rfl hs1_5), if_neg (nti_cg rfl hs1_6), if_neg (nti_cg rfl hs1_7), if_neg (nti_cg rfl hs1_8), if_neg (nti_cg rfl hs1_9), if_neg (nti_cg rfl hs1_10), if_pos (ti_cg rfl hs1_11), if_pos (eq_cg m52 rfl c53)]).trans rfl)
      exact hret 179 _ _ dX7_told_179 rfl (⟨trivial, hM.symm.trans hE55⟩)
    have k56 := ci_ne (nI_toInt (n := jk51) (by omega)) z_ti c53
    refine lv_iconst (v := (nI 1)) S.1 S.2.1 dX7_told_174 (by decide +kernel) ?_
    refine lv_goto (tgt := 179) S.1 S.2.1 dX7_told_175 (by decide) ?_
    have hE57 : M = (nI 1) := hM.trans ((show m_X7_told (AB ad F) p1 = (nI 1) from by unfold m_X7_told; rw [if_neg (nti_cg rfl hs1_0), if_neg (nti_cg rfl hs1_1), if_neg (nti_cg rfl hs1_2), if_neg (nti_cg rfl hs1_3), if_neg (nti_cg rfl hs1_4), if_neg (nti_cg rfl hs1_5), if_neg (nti_cg rfl hs1_6), if_neg (nti_cg rfl hs1_7), if_neg (nti_cg rfl hs1_8), if_neg (nti_cg rfl hs1_9), if_neg (nti_cg rfl hs1_10), if_pos (ti_cg rfl hs1_11), if_neg (neq_cg m52 rfl c53)]).trans rfl)
    exact hret 179 _ _ dX7_told_179 rfl (⟨trivial, hM.symm.trans hE57⟩)
  by_cases hs1_12 : p1.toInt = 12
  · refine lv_tableIn (off := 179) (tgt := 180) S.1 S.2.1 dX7_told_1 (by omega) (by omega) (by rw [hs1_12]; rfl) (by decide) ?_
    refine lv_aload_n S.1 S.2.1 dX7_told_180 rfl (lv_at hl0 0 rfl) ?_
    obtain ⟨c58, d58, k58, dr58, hF58, hc58, hd58, hk58⟩ := wt_main hW
    refine r_get S hK hP 0 (by decide) hF58 (C := RX7) (T := TX7) (N := 15) hiX7 rfl 5 (by decide) (am_at in_wsX7_told_0 15 rfl) (v := .ref (ad 33)) rfl dX7_told_181 ?_
    obtain ⟨k59, hF59, hk59⟩ := wt_ways hW
    refine r_get S hK hP 33 (by decide) hF59 (C := RX6) (T := TX6) (N := 6) hiX6 rfl 0 (by decide) (am_at in_wsX7_told_0 16 rfl) (v := .int (nI k59)) rfl dX7_told_184 ?_
    have m60 : ((AB ad F) 33 0) = (nI k59) := AB_f hF59 rfl
    have hE61 : M = (nI k59) := hM.trans ((show m_X7_told (AB ad F) p1 = ((AB ad F) 33 0) from by unfold m_X7_told; rw [if_neg (nti_cg rfl hs1_0), if_neg (nti_cg rfl hs1_1), if_neg (nti_cg rfl hs1_2), if_neg (nti_cg rfl hs1_3), if_neg (nti_cg rfl hs1_4), if_neg (nti_cg rfl hs1_5), if_neg (nti_cg rfl hs1_6), if_neg (nti_cg rfl hs1_7), if_neg (nti_cg rfl hs1_8), if_neg (nti_cg rfl hs1_9), if_neg (nti_cg rfl hs1_10), if_neg (nti_cg rfl hs1_11), if_pos (ti_cg rfl hs1_12)]).trans m60)
    exact hret 187 _ _ dX7_told_187 rfl (⟨trivial, hM.symm.trans hE61⟩)
  by_cases hs1_13 : p1.toInt = 13
  · refine lv_tableIn (off := 187) (tgt := 188) S.1 S.2.1 dX7_told_1 (by omega) (by omega) (by rw [hs1_13]; rfl) (by decide) ?_
    refine lv_aload_n S.1 S.2.1 dX7_told_188 rfl (lv_at hl0 0 rfl) ?_
    obtain ⟨c62, d62, k62, dr62, hF62, hc62, hd62, hk62⟩ := wt_main hW
    refine r_get S hK hP 0 (by decide) hF62 (C := RX7) (T := TX7) (N := 15) hiX7 rfl 13 (by decide) (am_at in_wsX7_told_0 17 rfl) (v := .int (nI k62)) rfl dX7_told_189 ?_
    have m63 : ((AB ad F) 0 13) = (nI k62) := AB_f hF62 rfl
    have hE64 : M = (nI k62) := hM.trans ((show m_X7_told (AB ad F) p1 = ((AB ad F) 0 13) from by unfold m_X7_told; rw [if_neg (nti_cg rfl hs1_0), if_neg (nti_cg rfl hs1_1), if_neg (nti_cg rfl hs1_2), if_neg (nti_cg rfl hs1_3), if_neg (nti_cg rfl hs1_4), if_neg (nti_cg rfl hs1_5), if_neg (nti_cg rfl hs1_6), if_neg (nti_cg rfl hs1_7), if_neg (nti_cg rfl hs1_8), if_neg (nti_cg rfl hs1_9), if_neg (nti_cg rfl hs1_10), if_neg (nti_cg rfl hs1_11), if_neg (nti_cg rfl hs1_12), if_pos (ti_cg rfl hs1_13)]).trans m63)
    exact hret 192 _ _ dX7_told_192 rfl (⟨trivial, hM.symm.trans hE64⟩)
  by_cases hs1_14 : p1.toInt = 14
  · refine lv_tableIn (off := 192) (tgt := 193) S.1 S.2.1 dX7_told_1 (by omega) (by omega) (by rw [hs1_14]; rfl) (by decide) ?_
    refine lv_aload_n S.1 S.2.1 dX7_told_193 rfl (lv_at hl0 0 rfl) ?_
    obtain ⟨c65, d65, k65, dr65, hF65, hc65, hd65, hk65⟩ := wt_main hW
    refine r_get S hK hP 0 (by decide) hF65 (C := RX7) (T := TX7) (N := 15) hiX7 rfl 2 (by decide) (am_at in_wsX7_told_0 18 rfl) (v := .ref (ad 4)) rfl dX7_told_194 ?_
    obtain ⟨k66, hF66, hk66⟩ := wt_past hW
    refine r_get S hK hP 4 (by decide) hF66 (C := RX2) (T := TX2) (N := 2) hiX2 rfl 1 (by decide) (am_at in_wsX7_told_0 19 rfl) (v := .int (nI k66)) rfl dX7_told_197 ?_
    have m67 : ((AB ad F) 4 1) = (nI k66) := AB_f hF66 rfl
    have hE68 : M = (nI k66) := hM.trans ((show m_X7_told (AB ad F) p1 = ((AB ad F) 4 1) from by unfold m_X7_told; rw [if_neg (nti_cg rfl hs1_0), if_neg (nti_cg rfl hs1_1), if_neg (nti_cg rfl hs1_2), if_neg (nti_cg rfl hs1_3), if_neg (nti_cg rfl hs1_4), if_neg (nti_cg rfl hs1_5), if_neg (nti_cg rfl hs1_6), if_neg (nti_cg rfl hs1_7), if_neg (nti_cg rfl hs1_8), if_neg (nti_cg rfl hs1_9), if_neg (nti_cg rfl hs1_10), if_neg (nti_cg rfl hs1_11), if_neg (nti_cg rfl hs1_12), if_neg (nti_cg rfl hs1_13), if_pos (ti_cg rfl hs1_14)]).trans m67)
    exact hret 200 _ _ dX7_told_200 rfl (⟨trivial, hM.symm.trans hE68⟩)
  refine lv_tableOut (tgt := 201) S.1 S.2.1 dX7_told_1 (by omega) (by decide) ?_
  refine lv_ldc (v := (-1000000002)) S.1 S.2.1 S.2.2.2.1 (S.2.2.2.2 (.constant RX7 79 (-1000000002)) (am_at in_wsX7_told_0 20 rfl)) dX7_told_201 ?_
  have hE69 : M = (-1000000002) := hM.trans ((show m_X7_told (AB ad F) p1 = ((-1000000002) : Int32) from by unfold m_X7_told; rw [if_neg (nti_cg rfl hs1_0), if_neg (nti_cg rfl hs1_1), if_neg (nti_cg rfl hs1_2), if_neg (nti_cg rfl hs1_3), if_neg (nti_cg rfl hs1_4), if_neg (nti_cg rfl hs1_5), if_neg (nti_cg rfl hs1_6), if_neg (nti_cg rfl hs1_7), if_neg (nti_cg rfl hs1_8), if_neg (nti_cg rfl hs1_9), if_neg (nti_cg rfl hs1_10), if_neg (nti_cg rfl hs1_11), if_neg (nti_cg rfl hs1_12), if_neg (nti_cg rfl hs1_13), if_neg (nti_cg rfl hs1_14)]).trans rfl)
  exact hret 203 _ _ dX7_told_203 rfl (⟨trivial, hM.symm.trans hE69⟩)
noncomputable def m_X7_town (σ : SS) (a0 : Int32) (a1 : Int32) : Int32 :=
  if (m_X0_hasTown σ (rl (σ 0 11)) a0) = (0 : Int32) then
    ((-1000000001) : Int32)
  else
    if a1.toInt = 0 then
      (σ ((rl (σ 0 11)) + 1) (rl a0))
    else
      if a1.toInt = 1 then
        (σ ((rl (σ 0 11)) + 2) (rl a0))
      else
        if a1.toInt = 2 then
          (σ ((rl (σ 0 11)) + 3) (rl a0))
        else
          if a1.toInt = 3 then
            (m_X0_neighbours σ (rl (σ 0 11)) a0 (nI 0))
          else
            if a1.toInt = 4 then
              if (m_X0_isBanned σ (rl (σ 0 11)) a0) = (0 : Int32) then
                (nI 0)
              else
                (nI 1)
            else
              ((-1000000002) : Int32)
set_option maxHeartbeats 4000000 in
set_option maxRecDepth 100000 in
theorem c_X7_town (l : Launch) (D : va_G) (cA ad : Nat → Nat) (t : Nat) (hI : rI ad) (F : Nat → va_E) (hW : WT cA ad F) (p1 : Int32) (p2 : Int32) : MP l D cA ad t yX7_town wsX7_town { frames := 1, cells := 0, slots := 0, locals := 24 } [.ref (ad 0), .int p1, .int p2] F (fun r => (True) ∧ m_X7_town (AB ad F) p1 p2 = r) := by
  refine en_P rfl (by decide +kernel) (Nat.le_of_ble_eq_true rfl) ?_
  intro p e s m args below meth c ls0 Q S hK hZ hP hS hl0 hret
  have hl0 : lv_has ls0 3 [(0, .ref (ad 0)), (1, .int p1), (2, .int p2)] := hl0
  have hiX0 : ∀ w ∈ u_ws RX0 TX0 10, w ∈ wsX7_town := in_wsX7_town_2
  have hiX7 : ∀ w ∈ u_ws RX7 TX7 15, w ∈ wsX7_town := in_wsX7_town_1
  obtain ⟨M, hM⟩ : ∃ M, M = m_X7_town (AB ad F) p1 p2 := ⟨_, rfl⟩
  refine lv_aload_n S.1 S.2.1 dX7_town_0 rfl (lv_at hl0 0 rfl) ?_
  obtain ⟨c1, d1, k1, dr1, hF1, hc1, hd1, hk1⟩ := wt_main hW
  refine r_get S hK hP 0 (by decide) hF1 (C := RX7) (T := TX7) (N := 15) hiX7 rfl 11 (by decide) (am_at in_wsX7_town_0 0 rfl) (v := .ref (ad c1)) rfl dX7_town_1 ?_
  have m2 : (rl ((AB ad F) 0 11)) = c1 := AB_r hI (lt_C hc1) hF1 rfl
  refine lv_iload_n S.1 S.2.1 dX7_town_4 rfl (lv_at hl0 1 rfl) ?_
  obtain ⟨sl4, fm4, tn4, rn4, bn4, hF4, hb4_1, hb4_2, hb4_3⟩ := wt_C hW hc1
  refine r_cVp (As := [.int p1]) (rest := []) S hK hZ hP hS hl0.1 c1 (lt_C hc1) hF4 (C := RX0) rfl (c_X0_hasTown l D cA ad t hI F hW c1 hc1 p1) (cwV 1 S.2.2.2.2 gX7_town_X0_hasTown rfl rfl rfl (by decide +kernel) ⟨Nat.le_of_ble_eq_true rfl, Nat.le_of_ble_eq_true rfl⟩) rfl rfl (Nat.le_of_ble_eq_true rfl) ⟨Nat.zero_le _, Nat.zero_le _⟩ dX7_town_5 (fun r3 hr3 => ?_)
  obtain ⟨hr3, hm3⟩ := hr3
  obtain ⟨⟨b5, hb5, rfl⟩, hx5⟩ := hr3
  have hx5 : b5 ≠ 0 → 0 ≤ p1.toInt ∧ p1.toInt ≤ _ := fun q => hx5 (nI_ne0 (by omega) (by omega))
  have m6 : (m_X0_hasTown (AB ad F) (rl ((AB ad F) 0 11)) p1) = (nI b5) := (congr (congr (Eq.refl (m_X0_hasTown (AB ad F))) m2) (Eq.refl (p1 : Int32))).trans hm3
  refine lv_if_ne (tgt := 14) S.1 S.2.1 dX7_town_8 (by decide) (fun c7 => ?_) (fun c7 => ?_)
  · skip
    have k8 := ci_ne (nI_toInt (n := b5) (Nat.lt_of_le_of_lt hb5 (by decide))) z_ti c7
    refine lv_iload_n S.1 S.2.1 dX7_town_14 rfl (lv_at hl0 2 rfl) ?_
    by_cases hs9_0 : p2.toInt = 0
    · refine lv_tableIn (off := 33) (tgt := 48) S.1 S.2.1 dX7_town_15 (by omega) (by omega) (by rw [hs9_0]; rfl) (by decide) ?_
      refine lv_aload_n S.1 S.2.1 dX7_town_48 rfl (lv_at hl0 0 rfl) ?_
      refine r_get S hK hP 0 (by decide) hF1 (C := RX7) (T := TX7) (N := 15) hiX7 rfl 11 (by decide) (am_at in_wsX7_town_0 0 rfl) (v := .ref (ad c1)) rfl dX7_town_49 ?_
      have m10 : (rl ((AB ad F) 0 11)) = c1 := AB_r hI (lt_C hc1) hF1 rfl
      refine r_get S hK hP c1 (lt_C hc1) hF4 (C := RX0) (T := TX0) (N := 10) hiX0 rfl 5 (by decide) (am_at in_wsX7_town_0 2 rfl) (v := .ref (ad (c1 + 1))) rfl dX7_town_52 ?_
      refine lv_iload_n S.1 S.2.1 dX7_town_55 rfl (lv_at hl0 1 rfl) ?_
      obtain ⟨g11, hF11, hg11⟩ := wt_I hW (C1_I hc1)
      refine r_iald S hK hP (c1 + 1) (lt_I (C1_I hc1)) hF11 (in_of (n := 8) (a := p1.toInt) rfl (by omega) (by omega)) dX7_town_56 ?_
      refine lv_topi (fun v13 e13 => ?_)
      have m14 : ((AB ad F) ((rl ((AB ad F) 0 11)) + 1) (rl p1)) = v13 := (ab_cg (congrArg (fun q : Nat => q + 1) m10) rfl).trans ((AB_g hF11).trans e13.symm)
      have hE15 : M = v13 := hM.trans ((show m_X7_town (AB ad F) p1 p2 = ((AB ad F) ((rl ((AB ad F) 0 11)) + 1) (rl p1)) from by unfold m_X7_town; rw [if_neg (neq_cg m6 rfl c7), if_pos (ti_cg rfl hs9_0)]).trans m14)
      exact hret 57 _ _ dX7_town_57 rfl (⟨trivial, hM.symm.trans hE15⟩)
    by_cases hs9_1 : p2.toInt = 1
    · refine lv_tableIn (off := 43) (tgt := 58) S.1 S.2.1 dX7_town_15 (by omega) (by omega) (by rw [hs9_1]; rfl) (by decide) ?_
      refine lv_aload_n S.1 S.2.1 dX7_town_58 rfl (lv_at hl0 0 rfl) ?_
      refine r_get S hK hP 0 (by decide) hF1 (C := RX7) (T := TX7) (N := 15) hiX7 rfl 11 (by decide) (am_at in_wsX7_town_0 0 rfl) (v := .ref (ad c1)) rfl dX7_town_59 ?_
      have m16 : (rl ((AB ad F) 0 11)) = c1 := AB_r hI (lt_C hc1) hF1 rfl
      refine r_get S hK hP c1 (lt_C hc1) hF4 (C := RX0) (T := TX0) (N := 10) hiX0 rfl 6 (by decide) (am_at in_wsX7_town_0 3 rfl) (v := .ref (ad (c1 + 2))) rfl dX7_town_62 ?_
      refine lv_iload_n S.1 S.2.1 dX7_town_65 rfl (lv_at hl0 1 rfl) ?_
      obtain ⟨g17, hF17, hg17⟩ := wt_I hW (C2_I hc1)
      refine r_iald S hK hP (c1 + 2) (lt_I (C2_I hc1)) hF17 (in_of (n := 8) (a := p1.toInt) rfl (by omega) (by omega)) dX7_town_66 ?_
      refine lv_topi (fun v19 e19 => ?_)
      have m20 : ((AB ad F) ((rl ((AB ad F) 0 11)) + 2) (rl p1)) = v19 := (ab_cg (congrArg (fun q : Nat => q + 2) m16) rfl).trans ((AB_g hF17).trans e19.symm)
      have hE21 : M = v19 := hM.trans ((show m_X7_town (AB ad F) p1 p2 = ((AB ad F) ((rl ((AB ad F) 0 11)) + 2) (rl p1)) from by unfold m_X7_town; rw [if_neg (neq_cg m6 rfl c7), if_neg (nti_cg rfl hs9_0), if_pos (ti_cg rfl hs9_1)]).trans m20)
      exact hret 67 _ _ dX7_town_67 rfl (⟨trivial, hM.symm.trans hE21⟩)
    by_cases hs9_2 : p2.toInt = 2
    · refine lv_tableIn (off := 53) (tgt := 68) S.1 S.2.1 dX7_town_15 (by omega) (by omega) (by rw [hs9_2]; rfl) (by decide) ?_
      refine lv_aload_n S.1 S.2.1 dX7_town_68 rfl (lv_at hl0 0 rfl) ?_
      refine r_get S hK hP 0 (by decide) hF1 (C := RX7) (T := TX7) (N := 15) hiX7 rfl 11 (by decide) (am_at in_wsX7_town_0 0 rfl) (v := .ref (ad c1)) rfl dX7_town_69 ?_
      have m22 : (rl ((AB ad F) 0 11)) = c1 := AB_r hI (lt_C hc1) hF1 rfl
      refine r_get S hK hP c1 (lt_C hc1) hF4 (C := RX0) (T := TX0) (N := 10) hiX0 rfl 7 (by decide) (am_at in_wsX7_town_0 4 rfl) (v := .ref (ad (c1 + 3))) rfl dX7_town_72 ?_
      refine lv_iload_n S.1 S.2.1 dX7_town_75 rfl (lv_at hl0 1 rfl) ?_
      obtain ⟨g23, hF23, hg23⟩ := wt_I hW (C3_I hc1)
      refine r_iald S hK hP (c1 + 3) (lt_I (C3_I hc1)) hF23 (in_of (n := 8) (a := p1.toInt) rfl (by omega) (by omega)) dX7_town_76 ?_
      refine lv_topi (fun v25 e25 => ?_)
      have m26 : ((AB ad F) ((rl ((AB ad F) 0 11)) + 3) (rl p1)) = v25 := (ab_cg (congrArg (fun q : Nat => q + 3) m22) rfl).trans ((AB_g hF23).trans e25.symm)
      have hE27 : M = v25 := hM.trans ((show m_X7_town (AB ad F) p1 p2 = ((AB ad F) ((rl ((AB ad F) 0 11)) + 3) (rl p1)) from by unfold m_X7_town; rw [if_neg (neq_cg m6 rfl c7), if_neg (nti_cg rfl hs9_0), if_neg (nti_cg rfl hs9_1), if_pos (ti_cg rfl hs9_2)]).trans m26)
      exact hret 77 _ _ dX7_town_77 rfl (⟨trivial, hM.symm.trans hE27⟩)
    by_cases hs9_3 : p2.toInt = 3
    · refine lv_tableIn (off := 63) (tgt := 78) S.1 S.2.1 dX7_town_15 (by omega) (by omega) (by rw [hs9_3]; rfl) (by decide) ?_
      refine lv_aload_n S.1 S.2.1 dX7_town_78 rfl (lv_at hl0 0 rfl) ?_
      refine r_get S hK hP 0 (by decide) hF1 (C := RX7) (T := TX7) (N := 15) hiX7 rfl 11 (by decide) (am_at in_wsX7_town_0 0 rfl) (v := .ref (ad c1)) rfl dX7_town_79 ?_
      have m28 : (rl ((AB ad F) 0 11)) = c1 := AB_r hI (lt_C hc1) hF1 rfl
      refine lv_iload_n S.1 S.2.1 dX7_town_82 rfl (lv_at hl0 1 rfl) ?_
      refine lv_iconst (v := (nI 0)) S.1 S.2.1 dX7_town_83 (by decide +kernel) ?_
      refine r_cVp (As := [.int p1, .int (nI 0)]) (rest := []) S hK hZ hP hS hl0.1 c1 (lt_C hc1) hF4 (C := RX0) rfl (c_X0_neighbours l D cA ad t hI F hW c1 hc1 p1 (nI 0)) (cwV 2 S.2.2.2.2 gX7_town_X0_neighbours rfl rfl rfl (by decide +kernel) ⟨Nat.le_of_ble_eq_true rfl, Nat.le_of_ble_eq_true rfl⟩) rfl rfl (Nat.le_of_ble_eq_true rfl) ⟨Nat.zero_le _, Nat.zero_le _⟩ dX7_town_84 (fun r29 hr29 => ?_)
      obtain ⟨hr29, hm29⟩ := hr29
      have m30 : (m_X0_neighbours (AB ad F) (rl ((AB ad F) 0 11)) p1 (nI 0)) = r29 := (congr (congr (congr (Eq.refl (m_X0_neighbours (AB ad F))) m28) (Eq.refl (p1 : Int32))) (Eq.refl ((nI 0) : Int32))).trans hm29
      have hE31 : M = r29 := hM.trans ((show m_X7_town (AB ad F) p1 p2 = (m_X0_neighbours (AB ad F) (rl ((AB ad F) 0 11)) p1 (nI 0)) from by unfold m_X7_town; rw [if_neg (neq_cg m6 rfl c7), if_neg (nti_cg rfl hs9_0), if_neg (nti_cg rfl hs9_1), if_neg (nti_cg rfl hs9_2), if_pos (ti_cg rfl hs9_3)]).trans m30)
      exact hret 87 _ _ dX7_town_87 rfl (⟨trivial, hM.symm.trans hE31⟩)
    by_cases hs9_4 : p2.toInt = 4
    · refine lv_tableIn (off := 73) (tgt := 88) S.1 S.2.1 dX7_town_15 (by omega) (by omega) (by rw [hs9_4]; rfl) (by decide) ?_
      refine lv_aload_n S.1 S.2.1 dX7_town_88 rfl (lv_at hl0 0 rfl) ?_
      refine r_get S hK hP 0 (by decide) hF1 (C := RX7) (T := TX7) (N := 15) hiX7 rfl 11 (by decide) (am_at in_wsX7_town_0 0 rfl) (v := .ref (ad c1)) rfl dX7_town_89 ?_
      have m32 : (rl ((AB ad F) 0 11)) = c1 := AB_r hI (lt_C hc1) hF1 rfl
      refine lv_iload_n S.1 S.2.1 dX7_town_92 rfl (lv_at hl0 1 rfl) ?_
      refine r_cVp (As := [.int p1]) (rest := []) S hK hZ hP hS hl0.1 c1 (lt_C hc1) hF4 (C := RX0) rfl (c_X0_isBanned l D cA ad t hI F hW c1 hc1 p1) (cwV 1 S.2.2.2.2 gX7_town_X0_isBanned rfl rfl rfl (by decide +kernel) ⟨Nat.le_of_ble_eq_true rfl, Nat.le_of_ble_eq_true rfl⟩) rfl rfl (Nat.le_of_ble_eq_true rfl) ⟨Nat.zero_le _, Nat.zero_le _⟩ dX7_town_93 (fun r33 hr33 => ?_)
      obtain ⟨hr33, hm33⟩ := hr33
      obtain ⟨b34, hb34, rfl⟩ := hr33
      have m35 : (m_X0_isBanned (AB ad F) (rl ((AB ad F) 0 11)) p1) = (nI b34) := (congr (congr (Eq.refl (m_X0_isBanned (AB ad F))) m32) (Eq.refl (p1 : Int32))).trans hm33
      refine lv_if_eq (tgt := 103) S.1 S.2.1 dX7_town_96 (by decide) (fun c36 => ?_) (fun c36 => ?_)
      · skip
        have k37 := ci_eq (nI_toInt (n := b34) (Nat.lt_of_le_of_lt hb34 (by decide))) z_ti c36
        refine lv_iconst (v := (nI 0)) S.1 S.2.1 dX7_town_103 (by decide +kernel) ?_
        have hE38 : M = (nI 0) := hM.trans ((show m_X7_town (AB ad F) p1 p2 = (nI 0) from by unfold m_X7_town; rw [if_neg (neq_cg m6 rfl c7), if_neg (nti_cg rfl hs9_0), if_neg (nti_cg rfl hs9_1), if_neg (nti_cg rfl hs9_2), if_neg (nti_cg rfl hs9_3), if_pos (ti_cg rfl hs9_4), if_pos (eq_cg m35 rfl c36)]).trans rfl)
        exact hret 104 _ _ dX7_town_104 rfl (⟨trivial, hM.symm.trans hE38⟩)
      have k39 := ci_ne (nI_toInt (n := b34) (Nat.lt_of_le_of_lt hb34 (by decide))) z_ti c36
      refine lv_iconst (v := (nI 1)) S.1 S.2.1 dX7_town_99 (by decide +kernel) ?_
      refine lv_goto (tgt := 104) S.1 S.2.1 dX7_town_100 (by decide) ?_
      have hE40 : M = (nI 1) := hM.trans ((show m_X7_town (AB ad F) p1 p2 = (nI 1) from by unfold m_X7_town; rw [if_neg (neq_cg m6 rfl c7), if_neg (nti_cg rfl hs9_0), if_neg (nti_cg rfl hs9_1), if_neg (nti_cg rfl hs9_2), if_neg (nti_cg rfl hs9_3), if_pos (ti_cg rfl hs9_4), if_neg (neq_cg m35 rfl c36)]).trans rfl)
      exact hret 104 _ _ dX7_town_104 rfl (⟨trivial, hM.symm.trans hE40⟩)
    refine lv_tableOut (tgt := 105) S.1 S.2.1 dX7_town_15 (by omega) (by decide) ?_
    refine lv_ldc (v := (-1000000002)) S.1 S.2.1 S.2.2.2.1 (S.2.2.2.2 (.constant RX7 79 (-1000000002)) (am_at in_wsX7_town_0 5 rfl)) dX7_town_105 ?_
    have hE41 : M = (-1000000002) := hM.trans ((show m_X7_town (AB ad F) p1 p2 = ((-1000000002) : Int32) from by unfold m_X7_town; rw [if_neg (neq_cg m6 rfl c7), if_neg (nti_cg rfl hs9_0), if_neg (nti_cg rfl hs9_1), if_neg (nti_cg rfl hs9_2), if_neg (nti_cg rfl hs9_3), if_neg (nti_cg rfl hs9_4)]).trans rfl)
    exact hret 107 _ _ dX7_town_107 rfl (⟨trivial, hM.symm.trans hE41⟩)
  have k42 := ci_eq (nI_toInt (n := b5) (Nat.lt_of_le_of_lt hb5 (by decide))) z_ti c7
  refine lv_ldc (v := (-1000000001)) S.1 S.2.1 S.2.2.2.1 (S.2.2.2.2 (.constant RX7 147 (-1000000001)) (am_at in_wsX7_town_0 1 rfl)) dX7_town_11 ?_
  have hE43 : M = (-1000000001) := hM.trans ((show m_X7_town (AB ad F) p1 p2 = ((-1000000001) : Int32) from by unfold m_X7_town; rw [if_pos (eq_cg m6 rfl c7)]).trans rfl)
  exact hret 13 _ _ dX7_town_13 rfl (⟨trivial, hM.symm.trans hE43⟩)
noncomputable def m_X7_road (σ : SS) (a0 : Int32) (a1 : Int32) : Int32 :=
  if (m_X0_hasRoad σ (rl (σ 0 11)) a0) = (0 : Int32) then
    ((-1000000001) : Int32)
  else
    if a1.toInt = 0 then
      (σ ((rl (σ 0 11)) + 4) (rl a0))
    else
      if a1.toInt = 1 then
        (σ ((rl (σ 0 11)) + 5) (rl a0))
      else
        if a1.toInt = 2 then
          (((σ 3 5) >>> (a0 &&& 31)) &&& (nI 1))
        else
          ((-1000000002) : Int32)
set_option maxHeartbeats 4000000 in
set_option maxRecDepth 100000 in
theorem c_X7_road (l : Launch) (D : va_G) (cA ad : Nat → Nat) (t : Nat) (hI : rI ad) (F : Nat → va_E) (hW : WT cA ad F) (p1 : Int32) (p2 : Int32) : MP l D cA ad t yX7_road wsX7_road { frames := 1, cells := 0, slots := 0, locals := 21 } [.ref (ad 0), .int p1, .int p2] F (fun r => (True) ∧ m_X7_road (AB ad F) p1 p2 = r) := by
  refine en_P rfl (by decide +kernel) (Nat.le_of_ble_eq_true rfl) ?_
  intro p e s m args below meth c ls0 Q S hK hZ hP hS hl0 hret
  have hl0 : lv_has ls0 3 [(0, .ref (ad 0)), (1, .int p1), (2, .int p2)] := hl0
  have hiX0 : ∀ w ∈ u_ws RX0 TX0 10, w ∈ wsX7_road := in_wsX7_road_2
  have hiX1 : ∀ w ∈ u_ws RX1 TX1 7, w ∈ wsX7_road := in_wsX7_road_3
  have hiX7 : ∀ w ∈ u_ws RX7 TX7 15, w ∈ wsX7_road := in_wsX7_road_1
  obtain ⟨M, hM⟩ : ∃ M, M = m_X7_road (AB ad F) p1 p2 := ⟨_, rfl⟩
  refine lv_aload_n S.1 S.2.1 dX7_road_0 rfl (lv_at hl0 0 rfl) ?_
  obtain ⟨c1, d1, k1, dr1, hF1, hc1, hd1, hk1⟩ := wt_main hW
  refine r_get S hK hP 0 (by decide) hF1 (C := RX7) (T := TX7) (N := 15) hiX7 rfl 11 (by decide) (am_at in_wsX7_road_0 0 rfl) (v := .ref (ad c1)) rfl dX7_road_1 ?_
  have m2 : (rl ((AB ad F) 0 11)) = c1 := AB_r hI (lt_C hc1) hF1 rfl
  refine lv_iload_n S.1 S.2.1 dX7_road_4 rfl (lv_at hl0 1 rfl) ?_
  obtain ⟨sl4, fm4, tn4, rn4, bn4, hF4, hb4_1, hb4_2, hb4_3⟩ := wt_C hW hc1
  refine r_cVp (As := [.int p1]) (rest := []) S hK hZ hP hS hl0.1 c1 (lt_C hc1) hF4 (C := RX0) rfl (c_X0_hasRoad l D cA ad t hI F hW c1 hc1 p1) (cwV 1 S.2.2.2.2 gX7_road_X0_hasRoad rfl rfl rfl (by decide +kernel) ⟨Nat.le_of_ble_eq_true rfl, Nat.le_of_ble_eq_true rfl⟩) rfl rfl (Nat.le_of_ble_eq_true rfl) ⟨Nat.zero_le _, Nat.zero_le _⟩ dX7_road_5 (fun r3 hr3 => ?_)
  obtain ⟨hr3, hm3⟩ := hr3
  obtain ⟨⟨b5, hb5, rfl⟩, hx5⟩ := hr3
  have hx5 : b5 ≠ 0 → 0 ≤ p1.toInt ∧ p1.toInt ≤ _ := fun q => hx5 (nI_ne0 (by omega) (by omega))
  have m6 : (m_X0_hasRoad (AB ad F) (rl ((AB ad F) 0 11)) p1) = (nI b5) := (congr (congr (Eq.refl (m_X0_hasRoad (AB ad F))) m2) (Eq.refl (p1 : Int32))).trans hm3
  refine lv_if_ne (tgt := 14) S.1 S.2.1 dX7_road_8 (by decide) (fun c7 => ?_) (fun c7 => ?_)
  · skip
    have k8 := ci_ne (nI_toInt (n := b5) (Nat.lt_of_le_of_lt hb5 (by decide))) z_ti c7
    refine lv_iload_n S.1 S.2.1 dX7_road_14 rfl (lv_at hl0 2 rfl) ?_
    by_cases hs9_0 : p2.toInt = 0
    · refine lv_tableIn (off := 25) (tgt := 40) S.1 S.2.1 dX7_road_15 (by omega) (by omega) (by rw [hs9_0]; rfl) (by decide) ?_
      refine lv_aload_n S.1 S.2.1 dX7_road_40 rfl (lv_at hl0 0 rfl) ?_
      refine r_get S hK hP 0 (by decide) hF1 (C := RX7) (T := TX7) (N := 15) hiX7 rfl 11 (by decide) (am_at in_wsX7_road_0 0 rfl) (v := .ref (ad c1)) rfl dX7_road_41 ?_
      have m10 : (rl ((AB ad F) 0 11)) = c1 := AB_r hI (lt_C hc1) hF1 rfl
      refine r_get S hK hP c1 (lt_C hc1) hF4 (C := RX0) (T := TX0) (N := 10) hiX0 rfl 8 (by decide) (am_at in_wsX7_road_0 2 rfl) (v := .ref (ad (c1 + 4))) rfl dX7_road_44 ?_
      refine lv_iload_n S.1 S.2.1 dX7_road_47 rfl (lv_at hl0 1 rfl) ?_
      obtain ⟨g11, hF11, hg11⟩ := wt_I hW (C4_I hc1)
      refine r_iald S hK hP (c1 + 4) (lt_I (C4_I hc1)) hF11 (in_of (n := 12) (a := p1.toInt) rfl (by omega) (by omega)) dX7_road_48 ?_
      refine lv_topi (fun v13 e13 => ?_)
      have m14 : ((AB ad F) ((rl ((AB ad F) 0 11)) + 4) (rl p1)) = v13 := (ab_cg (congrArg (fun q : Nat => q + 4) m10) rfl).trans ((AB_g hF11).trans e13.symm)
      have hE15 : M = v13 := hM.trans ((show m_X7_road (AB ad F) p1 p2 = ((AB ad F) ((rl ((AB ad F) 0 11)) + 4) (rl p1)) from by unfold m_X7_road; rw [if_neg (neq_cg m6 rfl c7), if_pos (ti_cg rfl hs9_0)]).trans m14)
      exact hret 49 _ _ dX7_road_49 rfl (⟨trivial, hM.symm.trans hE15⟩)
    by_cases hs9_1 : p2.toInt = 1
    · refine lv_tableIn (off := 35) (tgt := 50) S.1 S.2.1 dX7_road_15 (by omega) (by omega) (by rw [hs9_1]; rfl) (by decide) ?_
      refine lv_aload_n S.1 S.2.1 dX7_road_50 rfl (lv_at hl0 0 rfl) ?_
      refine r_get S hK hP 0 (by decide) hF1 (C := RX7) (T := TX7) (N := 15) hiX7 rfl 11 (by decide) (am_at in_wsX7_road_0 0 rfl) (v := .ref (ad c1)) rfl dX7_road_51 ?_
      have m16 : (rl ((AB ad F) 0 11)) = c1 := AB_r hI (lt_C hc1) hF1 rfl
      refine r_get S hK hP c1 (lt_C hc1) hF4 (C := RX0) (T := TX0) (N := 10) hiX0 rfl 9 (by decide) (am_at in_wsX7_road_0 3 rfl) (v := .ref (ad (c1 + 5))) rfl dX7_road_54 ?_
      refine lv_iload_n S.1 S.2.1 dX7_road_57 rfl (lv_at hl0 1 rfl) ?_
      obtain ⟨g17, hF17, hg17⟩ := wt_I hW (C5_I hc1)
      refine r_iald S hK hP (c1 + 5) (lt_I (C5_I hc1)) hF17 (in_of (n := 12) (a := p1.toInt) rfl (by omega) (by omega)) dX7_road_58 ?_
      refine lv_topi (fun v19 e19 => ?_)
      have m20 : ((AB ad F) ((rl ((AB ad F) 0 11)) + 5) (rl p1)) = v19 := (ab_cg (congrArg (fun q : Nat => q + 5) m16) rfl).trans ((AB_g hF17).trans e19.symm)
      have hE21 : M = v19 := hM.trans ((show m_X7_road (AB ad F) p1 p2 = ((AB ad F) ((rl ((AB ad F) 0 11)) + 5) (rl p1)) from by unfold m_X7_road; rw [if_neg (neq_cg m6 rfl c7), if_neg (nti_cg rfl hs9_0), if_pos (ti_cg rfl hs9_1)]).trans m20)
      exact hret 59 _ _ dX7_road_59 rfl (⟨trivial, hM.symm.trans hE21⟩)
    by_cases hs9_2 : p2.toInt = 2
    · refine lv_tableIn (off := 45) (tgt := 60) S.1 S.2.1 dX7_road_15 (by omega) (by omega) (by rw [hs9_2]; rfl) (by decide) ?_
      refine lv_aload_n S.1 S.2.1 dX7_road_60 rfl (lv_at hl0 0 rfl) ?_
      refine r_get S hK hP 0 (by decide) hF1 (C := RX7) (T := TX7) (N := 15) hiX7 rfl 1 (by decide) (am_at in_wsX7_road_0 4 rfl) (v := .ref (ad 3)) rfl dX7_road_61 ?_
      obtain ⟨ja22, jb22, jc22, jd22, jx22, jy22, jk22, hF22, hk22⟩ := wt_J hW (show isJ 3 from Or.inl rfl)
      refine r_get S hK hP 3 (by decide) hF22 (C := RX1) (T := TX1) (N := 7) hiX1 rfl 5 (by decide) (am_at in_wsX7_road_0 5 rfl) (v := .int jy22) rfl dX7_road_64 ?_
      have m23 : ((AB ad F) 3 5) = jy22 := AB_f hF22 rfl
      refine lv_iload_n S.1 S.2.1 dX7_road_67 rfl (lv_at hl0 1 rfl) ?_
      refine lv_ishr S.1 S.2.1 dX7_road_68 ?_
      refine lv_topi (fun v24 e24 => ?_)
      have m25 : (((AB ad F) 3 5) >>> (p1 &&& 31)) = v24 := cg2 (fun (x : Int32) (y : Int32) => x >>> (y &&& 31)) m23 (Eq.refl (p1 : Int32)) e24
      refine lv_iconst (v := (nI 1)) S.1 S.2.1 dX7_road_69 (by decide +kernel) ?_
      refine lv_iand S.1 S.2.1 dX7_road_70 ?_
      refine lv_topi (fun v26 e26 => ?_)
      have m27 : ((((AB ad F) 3 5) >>> (p1 &&& 31)) &&& (nI 1)) = v26 := cg2 (fun (x : Int32) (y : Int32) => x &&& y) m25 (Eq.refl ((nI 1) : Int32)) e26
      have hE28 : M = v26 := hM.trans ((show m_X7_road (AB ad F) p1 p2 = ((((AB ad F) 3 5) >>> (p1 &&& 31)) &&& (nI 1)) from by unfold m_X7_road; rw [if_neg (neq_cg m6 rfl c7), if_neg (nti_cg rfl hs9_0), if_neg (nti_cg rfl hs9_1), if_pos (ti_cg rfl hs9_2)]).trans m27)
      exact hret 71 _ _ dX7_road_71 rfl (⟨trivial, hM.symm.trans hE28⟩)
    refine lv_tableOut (tgt := 72) S.1 S.2.1 dX7_road_15 (by omega) (by decide) ?_
    refine lv_ldc (v := (-1000000002)) S.1 S.2.1 S.2.2.2.1 (S.2.2.2.2 (.constant RX7 79 (-1000000002)) (am_at in_wsX7_road_0 6 rfl)) dX7_road_72 ?_
    have hE29 : M = (-1000000002) := hM.trans ((show m_X7_road (AB ad F) p1 p2 = ((-1000000002) : Int32) from by unfold m_X7_road; rw [if_neg (neq_cg m6 rfl c7), if_neg (nti_cg rfl hs9_0), if_neg (nti_cg rfl hs9_1), if_neg (nti_cg rfl hs9_2)]).trans rfl)
    exact hret 74 _ _ dX7_road_74 rfl (⟨trivial, hM.symm.trans hE29⟩)
  have k30 := ci_eq (nI_toInt (n := b5) (Nat.lt_of_le_of_lt hb5 (by decide))) z_ti c7
  refine lv_ldc (v := (-1000000001)) S.1 S.2.1 S.2.2.2.1 (S.2.2.2.2 (.constant RX7 147 (-1000000001)) (am_at in_wsX7_road_0 1 rfl)) dX7_road_11 ?_
  have hE31 : M = (-1000000001) := hM.trans ((show m_X7_road (AB ad F) p1 p2 = ((-1000000001) : Int32) from by unfold m_X7_road; rw [if_pos (eq_cg m6 rfl c7)]).trans rfl)
  exact hret 13 _ _ dX7_road_13 rfl (⟨trivial, hM.symm.trans hE31⟩)
noncomputable def m_X7_stay_28 (σ : SS) (a0 : Int32) : Int32 × SS :=
  (a0, σ)
noncomputable def m_X7_stay_21 (σ : SS) : Int32 × SS :=
  m_X7_stay_28 ((m_X1_stayMonth σ 3 (rl (σ 0 11)))).2 ((m_X1_stayMonth σ 3 (rl (σ 0 11)))).1
noncomputable def m_X7_stay (σ : SS) : Int32 × SS :=
  if (m_X7_cannotGoOn σ) = (0 : Int32) then
    if (m_X1_mayStay σ 3 (rl (σ 0 11))) = (0 : Int32) then
      (((-1000000003) : Int32), σ)
    else
      if (σ 3 1) ≤ (nI 9000) then
        m_X7_stay_21 (m_X2_push σ 3)
      else
        (((-1000000004) : Int32), σ)
  else
    (((-1000000003) : Int32), σ)
set_option maxHeartbeats 4000000 in
set_option maxRecDepth 100000 in
theorem c_X7_stay (l : Launch) (D : va_G) (cA ad : Nat → Nat) (t : Nat) (hI : rI ad) (F : Nat → va_E) (hW : WT cA ad F) : MI l D cA ad t yX7_stay wsX7_stay { frames := 4, cells := 0, slots := 0, locals := 87 } [.ref (ad 0)] F (fun r F' => WT cA ad F' ∧ rFr [3, 4, 5, 6, 7, 8, 9, 10, 11, 12, 13, 14, 15, 16, 17, 18, 19, 20, 21, 22, 23, 24, 25] F F' ∧ ((True) ∧ m_X7_stay (AB ad F) = (r, AB ad F'))) := by
  refine en_I rfl (by decide +kernel) (Nat.le_of_ble_eq_true rfl) ?_
  intro p e s m args below meth c ls0 Q S hK hZ hP hS hl0 hret
  have hl0 : lv_has ls0 1 [(0, .ref (ad 0))] := hl0
  have hFr : rFr [3, 4, 5, 6, 7, 8, 9, 10, 11, 12, 13, 14, 15, 16, 17, 18, 19, 20, 21, 22, 23, 24, 25] F F := rFr.rf
  have hiX1 : ∀ w ∈ u_ws RX1 TX1 7, w ∈ wsX7_stay := in_wsX7_stay_4
  have hiX7 : ∀ w ∈ u_ws RX7 TX7 15, w ∈ wsX7_stay := in_wsX7_stay_3
  obtain ⟨M, hM⟩ : ∃ M, M = m_X7_stay (AB ad F) := ⟨_, rfl⟩
  refine lv_aload_n S.1 S.2.1 dX7_stay_0 rfl (lv_at hl0 0 rfl) ?_
  obtain ⟨c2, d2, k2, dr2, hF2, hc2, hd2, hk2⟩ := wt_main hW
  refine r_cVp (As := []) (rest := []) S hK hZ hP hS hl0.1 0 (by decide) hF2 (C := RX7) rfl (c_X7_cannotGoOn l D cA ad t hI F hW ) (cwV 0 S.2.2.2.2 gX7_stay_X7_cannotGoOn rfl rfl rfl (by decide +kernel) ⟨Nat.le_of_ble_eq_true rfl, Nat.le_of_ble_eq_true rfl⟩) rfl rfl (Nat.le_of_ble_eq_true rfl) ⟨Nat.zero_le _, Nat.zero_le _⟩ dX7_stay_1 (fun r1 hr1 => ?_)
  obtain ⟨hr1, hm1⟩ := hr1
  obtain ⟨b3, hb3, rfl⟩ := hr1
  have m4 : (m_X7_cannotGoOn (AB ad F)) = (nI b3) := (Eq.refl (m_X7_cannotGoOn (AB ad F))).trans hm1
  refine lv_if_ne (tgt := 21) S.1 S.2.1 dX7_stay_4 (by decide) (fun c5 => ?_) (fun c5 => ?_)
  · skip
    have k6 := ci_ne (nI_toInt (n := b3) (Nat.lt_of_le_of_lt hb3 (by decide))) z_ti c5
    refine lv_ldc (v := (-1000000003)) S.1 S.2.1 S.2.2.2.1 (S.2.2.2.2 (.constant RX7 181 (-1000000003)) (am_at in_wsX7_stay_0 2 rfl)) dX7_stay_21 ?_
    have hE7 : M = ((-1000000003), AB ad F) := hM.trans ((show m_X7_stay (AB ad F) = (((-1000000003) : Int32), (AB ad F)) from by unfold m_X7_stay; rw [if_neg (neq_cg m4 rfl c5)]).trans (congrArg (fun q => (q, AB ad F)) rfl))
    exact hret 23 _ _ _ _ _ dX7_stay_23 rfl hP hS ⟨hW, hFr, ⟨trivial, hM.symm.trans hE7⟩⟩
  have k8 := ci_eq (nI_toInt (n := b3) (Nat.lt_of_le_of_lt hb3 (by decide))) z_ti c5
  refine lv_aload_n S.1 S.2.1 dX7_stay_7 rfl (lv_at hl0 0 rfl) ?_
  refine r_get S hK hP 0 (by decide) hF2 (C := RX7) (T := TX7) (N := 15) hiX7 rfl 1 (by decide) (am_at in_wsX7_stay_0 0 rfl) (v := .ref (ad 3)) rfl dX7_stay_8 ?_
  refine lv_aload_n S.1 S.2.1 dX7_stay_11 rfl (lv_at hl0 0 rfl) ?_
  refine r_get S hK hP 0 (by decide) hF2 (C := RX7) (T := TX7) (N := 15) hiX7 rfl 11 (by decide) (am_at in_wsX7_stay_0 1 rfl) (v := .ref (ad c2)) rfl dX7_stay_12 ?_
  have m9 : (rl ((AB ad F) 0 11)) = c2 := AB_r hI (lt_C hc2) hF2 rfl
  obtain ⟨ja11, jb11, jc11, jd11, jx11, jy11, jk11, hF11, hk11⟩ := wt_J hW (show isJ 3 from Or.inl rfl)
  refine r_cVp (As := [.ref (ad c2)]) (rest := []) S hK hZ hP hS hl0.1 3 (by decide) hF11 (C := RX1) rfl (c_X1_mayStay l D cA ad t hI F hW 3 (show isJ 3 from Or.inl rfl) c2 hc2) (cwV 1 S.2.2.2.2 gX7_stay_X1_mayStay rfl rfl rfl (by decide +kernel) ⟨Nat.le_of_ble_eq_true rfl, Nat.le_of_ble_eq_true rfl⟩) rfl rfl (Nat.le_of_ble_eq_true rfl) ⟨Nat.zero_le _, Nat.zero_le _⟩ dX7_stay_15 (fun r10 hr10 => ?_)
  obtain ⟨hr10, hm10⟩ := hr10
  obtain ⟨b12, hb12, rfl⟩ := hr10
  have m13 : (m_X1_mayStay (AB ad F) 3 (rl ((AB ad F) 0 11))) = (nI b12) := (congr (congr (Eq.refl (m_X1_mayStay (AB ad F))) (Eq.refl 3)) m9).trans hm10
  refine lv_if_ne (tgt := 24) S.1 S.2.1 dX7_stay_18 (by decide) (fun c14 => ?_) (fun c14 => ?_)
  · skip
    have k15 := ci_ne (nI_toInt (n := b12) (Nat.lt_of_le_of_lt hb12 (by decide))) z_ti c14
    refine lv_aload_n S.1 S.2.1 dX7_stay_24 rfl (lv_at hl0 0 rfl) ?_
    refine r_get S hK hP 0 (by decide) hF2 (C := RX7) (T := TX7) (N := 15) hiX7 rfl 1 (by decide) (am_at in_wsX7_stay_0 0 rfl) (v := .ref (ad 3)) rfl dX7_stay_25 ?_
    refine r_get S hK hP 3 (by decide) hF11 (C := RX1) (T := TX1) (N := 7) hiX1 rfl 1 (by decide) (am_at in_wsX7_stay_0 3 rfl) (v := .int jb11) rfl dX7_stay_28 ?_
    have m16 : ((AB ad F) 3 1) = jb11 := AB_f hF11 rfl
    refine lv_sipush (v := (nI 9000)) S.1 S.2.1 dX7_stay_31 (by decide +kernel) ?_
    refine lv_icmp_le (tgt := 40) S.1 S.2.1 dX7_stay_34 (by decide) (fun c17 => ?_) (fun c17 => ?_)
    · skip
      have k18 := ci_le rfl (nI_toInt (n := 9000) (by decide)) c17
      refine lv_aload_n S.1 S.2.1 dX7_stay_40 rfl (lv_at hl0 0 rfl) ?_
      refine r_get S hK hP 0 (by decide) hF2 (C := RX7) (T := TX7) (N := 15) hiX7 rfl 2 (by decide) (am_at in_wsX7_stay_0 5 rfl) (v := .ref (ad 4)) rfl dX7_stay_41 ?_
      refine lv_aload_n S.1 S.2.1 dX7_stay_44 rfl (lv_at hl0 0 rfl) ?_
      refine r_get S hK hP 0 (by decide) hF2 (C := RX7) (T := TX7) (N := 15) hiX7 rfl 1 (by decide) (am_at in_wsX7_stay_0 0 rfl) (v := .ref (ad 3)) rfl dX7_stay_45 ?_
      obtain ⟨k20, hF20, hk20⟩ := wt_past hW
      refine r_cVv (As := [.ref (ad 3)]) (rest := []) S hK hZ hP hS hl0.1 4 (by decide) hF20 (C := RX2) rfl (c_X2_push l D cA ad t hI F hW 3 (show isJ 3 from Or.inl rfl)) (cwV 1 S.2.2.2.2 gX7_stay_X2_push rfl rfl rfl (by decide +kernel) ⟨Nat.le_of_ble_eq_true rfl, Nat.le_of_ble_eq_true rfl⟩) rfl rfl (Nat.le_of_ble_eq_true rfl) ⟨Nat.zero_le _, Nat.zero_le _⟩ dX7_stay_48 (fun F19 H19 locs19 hr19 hP19 hS19 => ?_)
      obtain ⟨hW19, hFc19, hr19⟩ := hr19
      obtain ⟨hr19, hm19⟩ := hr19
      have hFr19 := hFr.tr hFc19 (by simp <;> first | omega | (simp only [isC, isJ] at *; omega))
      have hE22 : M = m_X7_stay_21 (AB ad F19) := hM.trans ((show m_X7_stay (AB ad F) = m_X7_stay_21 (m_X2_push (AB ad F) 3) from by unfold m_X7_stay; rw [if_pos (eq_cg m4 rfl c5), if_neg (neq_cg m13 rfl c14), if_pos (le_cg m16 rfl c17)]).trans (congrArg (m_X7_stay_21) ((congr (Eq.refl (m_X2_push (AB ad F))) (Eq.refl 3)).trans hm19)))
      refine lv_aload_n S.1 S.2.1 dX7_stay_51 rfl (lv_at hl0 0 rfl) ?_
      have hF23 := (hFc19 0 (by decide)).trans hF2
      refine r_get S hK hP19 0 (by decide) hF23 (C := RX7) (T := TX7) (N := 15) hiX7 rfl 1 (by decide) (am_at in_wsX7_stay_0 0 rfl) (v := .ref (ad 3)) rfl dX7_stay_52 ?_
      refine lv_aload_n S.1 S.2.1 dX7_stay_55 rfl (lv_at hl0 0 rfl) ?_
      refine r_get S hK hP19 0 (by decide) hF23 (C := RX7) (T := TX7) (N := 15) hiX7 rfl 11 (by decide) (am_at in_wsX7_stay_0 1 rfl) (v := .ref (ad c2)) rfl dX7_stay_56 ?_
      have m24 : (rl ((AB ad F19) 0 11)) = c2 := AB_r hI (lt_C hc2) hF23 rfl
      have hF26 := (hFc19 3 (by decide)).trans hF11
      refine r_cVi (As := [.ref (ad c2)]) (rest := []) S hK hZ hP19 hS19 hl0.1 3 (by decide) hF26 (C := RX1) rfl (c_X1_stayMonth l D cA ad t hI F19 hW19 3 (show isJ 3 from Or.inl rfl) c2 hc2) (cwV 1 S.2.2.2.2 gX7_stay_X1_stayMonth rfl rfl rfl (by decide +kernel) ⟨Nat.le_of_ble_eq_true rfl, Nat.le_of_ble_eq_true rfl⟩) rfl rfl (Nat.le_of_ble_eq_true rfl) ⟨Nat.zero_le _, Nat.zero_le _⟩ dX7_stay_59 (fun r25 F25 H25 locs25 hr25 hP25 hS25 => ?_)
      obtain ⟨hW25, hFc25, hr25⟩ := hr25
      obtain ⟨hr25, hm25⟩ := hr25
      have hFr25 := hFr19.tr hFc25 (by simp <;> first | omega | (simp only [isC, isJ] at *; omega))
      have mc27 : (m_X1_stayMonth (AB ad F19) 3 (rl ((AB ad F19) 0 11))) = (r25, AB ad F25) := (congr (congr (Eq.refl (m_X1_stayMonth (AB ad F19))) (Eq.refl 3)) m24).trans hm25
      have hE29 : M = m_X7_stay_28 (AB ad F25) r25 := hE22.trans ((show m_X7_stay_21 (AB ad F19) = m_X7_stay_28 ((m_X1_stayMonth (AB ad F19) 3 (rl ((AB ad F19) 0 11)))).2 ((m_X1_stayMonth (AB ad F19) 3 (rl ((AB ad F19) 0 11)))).1 from rfl).trans (congr (congrArg (m_X7_stay_28) (congrArg Prod.snd mc27)) (congrArg Prod.fst mc27)))
      have hE30 : M = (r25, AB ad F25) := hE29.trans ((show m_X7_stay_28 (AB ad F25) r25 = (r25, (AB ad F25)) from rfl).trans (congrArg (fun q => (q, AB ad F25)) rfl))
      exact hret 62 _ _ _ _ _ dX7_stay_62 rfl hP25 hS25 ⟨hW25, hFr25, ⟨trivial, hM.symm.trans hE30⟩⟩
    have k31 := ci_nle rfl (nI_toInt (n := 9000) (by decide)) c17
    refine lv_ldc (v := (-1000000004)) S.1 S.2.1 S.2.2.2.1 (S.2.2.2.2 (.constant RX7 84 (-1000000004)) (am_at in_wsX7_stay_0 4 rfl)) dX7_stay_37 ?_
    have hE32 : M = ((-1000000004), AB ad F) := hM.trans ((show m_X7_stay (AB ad F) = (((-1000000004) : Int32), (AB ad F)) from by unfold m_X7_stay; rw [if_pos (eq_cg m4 rfl c5), if_neg (neq_cg m13 rfl c14), if_neg (nle_cg m16 rfl c17)]).trans (congrArg (fun q => (q, AB ad F)) rfl))
    exact hret 39 _ _ _ _ _ dX7_stay_39 rfl hP hS ⟨hW, hFr, ⟨trivial, hM.symm.trans hE32⟩⟩
  have k33 := ci_eq (nI_toInt (n := b12) (Nat.lt_of_le_of_lt hb12 (by decide))) z_ti c14
  refine lv_ldc (v := (-1000000003)) S.1 S.2.1 S.2.2.2.1 (S.2.2.2.2 (.constant RX7 181 (-1000000003)) (am_at in_wsX7_stay_0 2 rfl)) dX7_stay_21 ?_
  have hE34 : M = ((-1000000003), AB ad F) := hM.trans ((show m_X7_stay (AB ad F) = (((-1000000003) : Int32), (AB ad F)) from by unfold m_X7_stay; rw [if_pos (eq_cg m4 rfl c5), if_pos (eq_cg m13 rfl c14)]).trans (congrArg (fun q => (q, AB ad F)) rfl))
  exact hret 23 _ _ _ _ _ dX7_stay_23 rfl hP hS ⟨hW, hFr, ⟨trivial, hM.symm.trans hE34⟩⟩
noncomputable def m_X7_walk_34 (σ : SS) (a0 : Int32) : Int32 × SS :=
  ((σ 3 1), σ)
noncomputable def m_X7_walk_29 (σ : SS) (a0 : Int32) : Int32 × SS :=
  m_X7_walk_34 (m_X1_walkMonth σ 3 a0) a0
noncomputable def m_X7_walk (σ : SS) (a0 : Int32) : Int32 × SS :=
  if (m_X0_hasTown σ (rl (σ 0 11)) a0) = (0 : Int32) then
    (((-1000000001) : Int32), σ)
  else
    if (σ 3 6) = (0 : Int32) then
      if (((m_X1_walks σ 3 (rl (σ 0 11))) >>> (a0 &&& 31)) &&& (nI 1)) = (0 : Int32) then
        (((-1000000003) : Int32), σ)
      else
        if (σ 3 1) ≤ (nI 9000) then
          m_X7_walk_29 (m_X2_push σ 3) a0
        else
          (((-1000000004) : Int32), σ)
    else
      (((-1000000003) : Int32), σ)
set_option maxHeartbeats 4000000 in
set_option maxRecDepth 100000 in
theorem c_X7_walk (l : Launch) (D : va_G) (cA ad : Nat → Nat) (t : Nat) (hI : rI ad) (F : Nat → va_E) (hW : WT cA ad F) (p1 : Int32) : MI l D cA ad t yX7_walk wsX7_walk { frames := 3, cells := 0, slots := 0, locals := 67 } [.ref (ad 0), .int p1] F (fun r F' => WT cA ad F' ∧ rFr [3, 4, 5, 6, 7, 8, 9, 10, 11, 12, 13, 14, 15, 16, 17, 18, 19, 20, 21, 22, 23, 24, 25] F F' ∧ ((True) ∧ m_X7_walk (AB ad F) p1 = (r, AB ad F'))) := by
  refine en_I rfl (by decide +kernel) (Nat.le_of_ble_eq_true rfl) ?_
  intro p e s m args below meth c ls0 Q S hK hZ hP hS hl0 hret
  have hl0 : lv_has ls0 2 [(0, .ref (ad 0)), (1, .int p1)] := hl0
  have hFr : rFr [3, 4, 5, 6, 7, 8, 9, 10, 11, 12, 13, 14, 15, 16, 17, 18, 19, 20, 21, 22, 23, 24, 25] F F := rFr.rf
  have hiX1 : ∀ w ∈ u_ws RX1 TX1 7, w ∈ wsX7_walk := in_wsX7_walk_4
  have hiX7 : ∀ w ∈ u_ws RX7 TX7 15, w ∈ wsX7_walk := in_wsX7_walk_3
  obtain ⟨M, hM⟩ : ∃ M, M = m_X7_walk (AB ad F) p1 := ⟨_, rfl⟩
  refine lv_aload_n S.1 S.2.1 dX7_walk_0 rfl (lv_at hl0 0 rfl) ?_
  obtain ⟨c1, d1, k1, dr1, hF1, hc1, hd1, hk1⟩ := wt_main hW
  refine r_get S hK hP 0 (by decide) hF1 (C := RX7) (T := TX7) (N := 15) hiX7 rfl 11 (by decide) (am_at in_wsX7_walk_0 0 rfl) (v := .ref (ad c1)) rfl dX7_walk_1 ?_
  have m2 : (rl ((AB ad F) 0 11)) = c1 := AB_r hI (lt_C hc1) hF1 rfl
  refine lv_iload_n S.1 S.2.1 dX7_walk_4 rfl (lv_at hl0 1 rfl) ?_
  obtain ⟨sl4, fm4, tn4, rn4, bn4, hF4, hb4_1, hb4_2, hb4_3⟩ := wt_C hW hc1
  refine r_cVp (As := [.int p1]) (rest := []) S hK hZ hP hS hl0.1 c1 (lt_C hc1) hF4 (C := RX0) rfl (c_X0_hasTown l D cA ad t hI F hW c1 hc1 p1) (cwV 1 S.2.2.2.2 gX7_walk_X0_hasTown rfl rfl rfl (by decide +kernel) ⟨Nat.le_of_ble_eq_true rfl, Nat.le_of_ble_eq_true rfl⟩) rfl rfl (Nat.le_of_ble_eq_true rfl) ⟨Nat.zero_le _, Nat.zero_le _⟩ dX7_walk_5 (fun r3 hr3 => ?_)
  obtain ⟨hr3, hm3⟩ := hr3
  obtain ⟨⟨b5, hb5, rfl⟩, hx5⟩ := hr3
  have hx5 : b5 ≠ 0 → 0 ≤ p1.toInt ∧ p1.toInt ≤ _ := fun q => hx5 (nI_ne0 (by omega) (by omega))
  have m6 : (m_X0_hasTown (AB ad F) (rl ((AB ad F) 0 11)) p1) = (nI b5) := (congr (congr (Eq.refl (m_X0_hasTown (AB ad F))) m2) (Eq.refl (p1 : Int32))).trans hm3
  refine lv_if_ne (tgt := 14) S.1 S.2.1 dX7_walk_8 (by decide) (fun c7 => ?_) (fun c7 => ?_)
  · skip
    have k8 := ci_ne (nI_toInt (n := b5) (Nat.lt_of_le_of_lt hb5 (by decide))) z_ti c7
    refine lv_aload_n S.1 S.2.1 dX7_walk_14 rfl (lv_at hl0 0 rfl) ?_
    refine r_get S hK hP 0 (by decide) hF1 (C := RX7) (T := TX7) (N := 15) hiX7 rfl 1 (by decide) (am_at in_wsX7_walk_0 2 rfl) (v := .ref (ad 3)) rfl dX7_walk_15 ?_
    obtain ⟨ja9, jb9, jc9, jd9, jx9, jy9, jk9, hF9, hk9⟩ := wt_J hW (show isJ 3 from Or.inl rfl)
    refine r_get S hK hP 3 (by decide) hF9 (C := RX1) (T := TX1) (N := 7) hiX1 rfl 6 (by decide) (am_at in_wsX7_walk_0 3 rfl) (v := .int (nI jk9)) rfl dX7_walk_18 ?_
    have m10 : ((AB ad F) 3 6) = (nI jk9) := AB_f hF9 rfl
    refine lv_if_ne (tgt := 42) S.1 S.2.1 dX7_walk_21 (by decide) (fun c11 => ?_) (fun c11 => ?_)
    · skip
      have k12 := ci_ne (nI_toInt (n := jk9) (by omega)) z_ti c11
      refine lv_ldc (v := (-1000000003)) S.1 S.2.1 S.2.2.2.1 (S.2.2.2.2 (.constant RX7 181 (-1000000003)) (am_at in_wsX7_walk_0 4 rfl)) dX7_walk_42 ?_
      have hE13 : M = ((-1000000003), AB ad F) := hM.trans ((show m_X7_walk (AB ad F) p1 = (((-1000000003) : Int32), (AB ad F)) from by unfold m_X7_walk; rw [if_neg (neq_cg m6 rfl c7), if_neg (neq_cg m10 rfl c11)]).trans (congrArg (fun q => (q, AB ad F)) rfl))
      exact hret 44 _ _ _ _ _ dX7_walk_44 rfl hP hS ⟨hW, hFr, ⟨trivial, hM.symm.trans hE13⟩⟩
    have k14 := ci_eq (nI_toInt (n := jk9) (by omega)) z_ti c11
    refine lv_aload_n S.1 S.2.1 dX7_walk_24 rfl (lv_at hl0 0 rfl) ?_
    refine r_get S hK hP 0 (by decide) hF1 (C := RX7) (T := TX7) (N := 15) hiX7 rfl 1 (by decide) (am_at in_wsX7_walk_0 2 rfl) (v := .ref (ad 3)) rfl dX7_walk_25 ?_
    refine lv_aload_n S.1 S.2.1 dX7_walk_28 rfl (lv_at hl0 0 rfl) ?_
    refine r_get S hK hP 0 (by decide) hF1 (C := RX7) (T := TX7) (N := 15) hiX7 rfl 11 (by decide) (am_at in_wsX7_walk_0 0 rfl) (v := .ref (ad c1)) rfl dX7_walk_29 ?_
    have m15 : (rl ((AB ad F) 0 11)) = c1 := AB_r hI (lt_C hc1) hF1 rfl
    refine r_cVp (As := [.ref (ad c1)]) (rest := []) S hK hZ hP hS hl0.1 3 (by decide) hF9 (C := RX1) rfl (c_X1_walks l D cA ad t hI F hW 3 (show isJ 3 from Or.inl rfl) c1 hc1) (cwV 1 S.2.2.2.2 gX7_walk_X1_walks rfl rfl rfl (by decide +kernel) ⟨Nat.le_of_ble_eq_true rfl, Nat.le_of_ble_eq_true rfl⟩) rfl rfl (Nat.le_of_ble_eq_true rfl) ⟨Nat.zero_le _, Nat.zero_le _⟩ dX7_walk_32 (fun r16 hr16 => ?_)
    obtain ⟨hr16, hm16⟩ := hr16
    have m17 : (m_X1_walks (AB ad F) 3 (rl ((AB ad F) 0 11))) = r16 := (congr (congr (Eq.refl (m_X1_walks (AB ad F))) (Eq.refl 3)) m15).trans hm16
    refine lv_iload_n S.1 S.2.1 dX7_walk_35 rfl (lv_at hl0 1 rfl) ?_
    refine lv_ishr S.1 S.2.1 dX7_walk_36 ?_
    refine lv_topi (fun v18 e18 => ?_)
    have m19 : ((m_X1_walks (AB ad F) 3 (rl ((AB ad F) 0 11))) >>> (p1 &&& 31)) = v18 := cg2 (fun (x : Int32) (y : Int32) => x >>> (y &&& 31)) m17 (Eq.refl (p1 : Int32)) e18
    refine lv_iconst (v := (nI 1)) S.1 S.2.1 dX7_walk_37 (by decide +kernel) ?_
    refine lv_iand S.1 S.2.1 dX7_walk_38 ?_
    refine lv_topi (fun v20 e20 => ?_)
    have m21 : (((m_X1_walks (AB ad F) 3 (rl ((AB ad F) 0 11))) >>> (p1 &&& 31)) &&& (nI 1)) = v20 := cg2 (fun (x : Int32) (y : Int32) => x &&& y) m19 (Eq.refl ((nI 1) : Int32)) e20
    refine lv_if_ne (tgt := 45) S.1 S.2.1 dX7_walk_39 (by decide) (fun c22 => ?_) (fun c22 => ?_)
    · skip
      have k23 := ci_ne rfl z_ti c22
      refine lv_aload_n S.1 S.2.1 dX7_walk_45 rfl (lv_at hl0 0 rfl) ?_
      refine r_get S hK hP 0 (by decide) hF1 (C := RX7) (T := TX7) (N := 15) hiX7 rfl 1 (by decide) (am_at in_wsX7_walk_0 2 rfl) (v := .ref (ad 3)) rfl dX7_walk_46 ?_
      refine r_get S hK hP 3 (by decide) hF9 (C := RX1) (T := TX1) (N := 7) hiX1 rfl 1 (by decide) (am_at in_wsX7_walk_0 5 rfl) (v := .int jb9) rfl dX7_walk_49 ?_
      have m24 : ((AB ad F) 3 1) = jb9 := AB_f hF9 rfl
      refine lv_sipush (v := (nI 9000)) S.1 S.2.1 dX7_walk_52 (by decide +kernel) ?_
      refine lv_icmp_le (tgt := 61) S.1 S.2.1 dX7_walk_55 (by decide) (fun c25 => ?_) (fun c25 => ?_)
      · skip
        have k26 := ci_le rfl (nI_toInt (n := 9000) (by decide)) c25
        refine lv_aload_n S.1 S.2.1 dX7_walk_61 rfl (lv_at hl0 0 rfl) ?_
        refine r_get S hK hP 0 (by decide) hF1 (C := RX7) (T := TX7) (N := 15) hiX7 rfl 2 (by decide) (am_at in_wsX7_walk_0 7 rfl) (v := .ref (ad 4)) rfl dX7_walk_62 ?_
        refine lv_aload_n S.1 S.2.1 dX7_walk_65 rfl (lv_at hl0 0 rfl) ?_
        refine r_get S hK hP 0 (by decide) hF1 (C := RX7) (T := TX7) (N := 15) hiX7 rfl 1 (by decide) (am_at in_wsX7_walk_0 2 rfl) (v := .ref (ad 3)) rfl dX7_walk_66 ?_
        obtain ⟨k28, hF28, hk28⟩ := wt_past hW
        refine r_cVv (As := [.ref (ad 3)]) (rest := []) S hK hZ hP hS hl0.1 4 (by decide) hF28 (C := RX2) rfl (c_X2_push l D cA ad t hI F hW 3 (show isJ 3 from Or.inl rfl)) (cwV 1 S.2.2.2.2 gX7_walk_X2_push rfl rfl rfl (by decide +kernel) ⟨Nat.le_of_ble_eq_true rfl, Nat.le_of_ble_eq_true rfl⟩) rfl rfl (Nat.le_of_ble_eq_true rfl) ⟨Nat.zero_le _, Nat.zero_le _⟩ dX7_walk_69 (fun F27 H27 locs27 hr27 hP27 hS27 => ?_)
        obtain ⟨hW27, hFc27, hr27⟩ := hr27
        obtain ⟨hr27, hm27⟩ := hr27
        have hFr27 := hFr.tr hFc27 (by simp <;> first | omega | (simp only [isC, isJ] at *; omega))
        have hE30 : M = m_X7_walk_29 (AB ad F27) p1 := hM.trans ((show m_X7_walk (AB ad F) p1 = m_X7_walk_29 (m_X2_push (AB ad F) 3) p1 from by unfold m_X7_walk; rw [if_neg (neq_cg m6 rfl c7), if_pos (eq_cg m10 rfl c11), if_neg (neq_cg m21 rfl c22), if_pos (le_cg m24 rfl c25)]).trans (congr (congrArg (m_X7_walk_29) ((congr (Eq.refl (m_X2_push (AB ad F))) (Eq.refl 3)).trans hm27)) (Eq.refl (p1 : Int32))))
        refine lv_aload_n S.1 S.2.1 dX7_walk_72 rfl (lv_at hl0 0 rfl) ?_
        have hF31 := (hFc27 0 (by decide)).trans hF1
        refine r_get S hK hP27 0 (by decide) hF31 (C := RX7) (T := TX7) (N := 15) hiX7 rfl 1 (by decide) (am_at in_wsX7_walk_0 2 rfl) (v := .ref (ad 3)) rfl dX7_walk_73 ?_
        refine lv_iload_n S.1 S.2.1 dX7_walk_76 rfl (lv_at hl0 1 rfl) ?_
        have hF33 := (hFc27 3 (by decide)).trans hF9
        refine r_cVv (As := [.int p1]) (rest := []) S hK hZ hP27 hS27 hl0.1 3 (by decide) hF33 (C := RX1) rfl (c_X1_walkMonth l D cA ad t hI F27 hW27 3 (show isJ 3 from Or.inl rfl) p1) (cwV 1 S.2.2.2.2 gX7_walk_X1_walkMonth rfl rfl rfl (by decide +kernel) ⟨Nat.le_of_ble_eq_true rfl, Nat.le_of_ble_eq_true rfl⟩) rfl rfl (Nat.le_of_ble_eq_true rfl) ⟨Nat.zero_le _, Nat.zero_le _⟩ dX7_walk_77 (fun F32 H32 locs32 hr32 hP32 hS32 => ?_)
        obtain ⟨hW32, hFc32, hr32⟩ := hr32
        obtain ⟨hr32, hm32⟩ := hr32
        have hFr32 := hFr27.tr hFc32 (by simp <;> first | omega | (simp only [isC, isJ] at *; omega))
        have hE35 : M = m_X7_walk_34 (AB ad F32) p1 := hE30.trans ((show m_X7_walk_29 (AB ad F27) p1 = m_X7_walk_34 (m_X1_walkMonth (AB ad F27) 3 p1) p1 from rfl).trans (congr (congrArg (m_X7_walk_34) ((congr (congr (Eq.refl (m_X1_walkMonth (AB ad F27))) (Eq.refl 3)) (Eq.refl (p1 : Int32))).trans hm32)) (Eq.refl (p1 : Int32))))
        refine lv_aload_n S.1 S.2.1 dX7_walk_80 rfl (lv_at hl0 0 rfl) ?_
        have hF36 := (hFc32 0 (by decide)).trans hF31
        refine r_get S hK hP32 0 (by decide) hF36 (C := RX7) (T := TX7) (N := 15) hiX7 rfl 1 (by decide) (am_at in_wsX7_walk_0 2 rfl) (v := .ref (ad 3)) rfl dX7_walk_81 ?_
        obtain ⟨ja37, jb37, jc37, jd37, jx37, jy37, jk37, hF37, hk37⟩ := wt_J hW32 (show isJ 3 from Or.inl rfl)
        refine r_get S hK hP32 3 (by decide) hF37 (C := RX1) (T := TX1) (N := 7) hiX1 rfl 1 (by decide) (am_at in_wsX7_walk_0 5 rfl) (v := .int jb37) rfl dX7_walk_84 ?_
        have m38 : ((AB ad F32) 3 1) = jb37 := AB_f hF37 rfl
        have hE39 : M = (jb37, AB ad F32) := hE35.trans ((show m_X7_walk_34 (AB ad F32) p1 = (((AB ad F32) 3 1), (AB ad F32)) from rfl).trans (congrArg (fun q => (q, AB ad F32)) m38))
        exact hret 87 _ _ _ _ _ dX7_walk_87 rfl hP32 hS32 ⟨hW32, hFr32, ⟨trivial, hM.symm.trans hE39⟩⟩
      have k40 := ci_nle rfl (nI_toInt (n := 9000) (by decide)) c25
      refine lv_ldc (v := (-1000000004)) S.1 S.2.1 S.2.2.2.1 (S.2.2.2.2 (.constant RX7 84 (-1000000004)) (am_at in_wsX7_walk_0 6 rfl)) dX7_walk_58 ?_
      have hE41 : M = ((-1000000004), AB ad F) := hM.trans ((show m_X7_walk (AB ad F) p1 = (((-1000000004) : Int32), (AB ad F)) from by unfold m_X7_walk; rw [if_neg (neq_cg m6 rfl c7), if_pos (eq_cg m10 rfl c11), if_neg (neq_cg m21 rfl c22), if_neg (nle_cg m24 rfl c25)]).trans (congrArg (fun q => (q, AB ad F)) rfl))
      exact hret 60 _ _ _ _ _ dX7_walk_60 rfl hP hS ⟨hW, hFr, ⟨trivial, hM.symm.trans hE41⟩⟩
    have k42 := ci_eq rfl z_ti c22
    refine lv_ldc (v := (-1000000003)) S.1 S.2.1 S.2.2.2.1 (S.2.2.2.2 (.constant RX7 181 (-1000000003)) (am_at in_wsX7_walk_0 4 rfl)) dX7_walk_42 ?_
    have hE43 : M = ((-1000000003), AB ad F) := hM.trans ((show m_X7_walk (AB ad F) p1 = (((-1000000003) : Int32), (AB ad F)) from by unfold m_X7_walk; rw [if_neg (neq_cg m6 rfl c7), if_pos (eq_cg m10 rfl c11), if_pos (eq_cg m21 rfl c22)]).trans (congrArg (fun q => (q, AB ad F)) rfl))
    exact hret 44 _ _ _ _ _ dX7_walk_44 rfl hP hS ⟨hW, hFr, ⟨trivial, hM.symm.trans hE43⟩⟩
  have k44 := ci_eq (nI_toInt (n := b5) (Nat.lt_of_le_of_lt hb5 (by decide))) z_ti c7
  refine lv_ldc (v := (-1000000001)) S.1 S.2.1 S.2.2.2.1 (S.2.2.2.2 (.constant RX7 147 (-1000000001)) (am_at in_wsX7_walk_0 1 rfl)) dX7_walk_11 ?_
  have hE45 : M = ((-1000000001), AB ad F) := hM.trans ((show m_X7_walk (AB ad F) p1 = (((-1000000001) : Int32), (AB ad F)) from by unfold m_X7_walk; rw [if_pos (eq_cg m6 rfl c7)]).trans (congrArg (fun q => (q, AB ad F)) rfl))
  exact hret 13 _ _ _ _ _ dX7_walk_13 rfl hP hS ⟨hW, hFr, ⟨trivial, hM.symm.trans hE45⟩⟩
noncomputable def m_X7_war_43 (σ : SS) (a0 : Int32) (a1 : Int32) (a2 : Int32) : Int32 × SS :=
  (a0, σ)
noncomputable def m_X7_war_32 (σ : SS) (a0 : Int32) (a1 : Int32) (a2 : Int32) : Int32 × SS :=
  (a0, σ)
noncomputable def m_X7_war_18 (σ : SS) (a0 : Int32) (a1 : Int32) (a2 : Int32) : Int32 × SS :=
  if a2 = (0 : Int32) then
    m_X7_war_32 (st σ 3 5 ((σ 3 5) &&& (((nI 1) <<< (a1 &&& 31)) ^^^ ((-1) : Int32)))) a0 a1 a2
  else
    m_X7_war_43 (st σ 3 5 ((σ 3 5) ||| ((nI 1) <<< (a1 &&& 31)))) a0 a1 a2
noncomputable def m_X7_war (σ : SS) (a0 : Int32) (a1 : Int32) : Int32 × SS :=
  if (m_X0_hasRoad σ (rl (σ 0 11)) a0) = (0 : Int32) then
    (((-1000000001) : Int32), σ)
  else
    m_X7_war_18 (m_X2_push σ 3) (((σ 3 5) >>> (a0 &&& 31)) &&& (nI 1)) a0 a1
set_option maxHeartbeats 4000000 in
set_option maxRecDepth 100000 in
theorem c_X7_war (l : Launch) (D : va_G) (cA ad : Nat → Nat) (t : Nat) (hI : rI ad) (F : Nat → va_E) (hW : WT cA ad F) (p1 : Int32) (p2 : Int32) : MI l D cA ad t yX7_war wsX7_war { frames := 2, cells := 0, slots := 0, locals := 43 } [.ref (ad 0), .int p1, .int p2] F (fun r F' => WT cA ad F' ∧ rFr [3, 4, 5, 6, 7, 8, 9, 10, 11, 12, 13, 14, 15, 16, 17, 18, 19, 20, 21, 22, 23, 24, 25] F F' ∧ ((True) ∧ m_X7_war (AB ad F) p1 p2 = (r, AB ad F'))) := by
  refine en_I rfl (by decide +kernel) (Nat.le_of_ble_eq_true rfl) ?_
  intro p e s m args below meth c ls0 Q S hK hZ hP hS hl0 hret
  have hl0 : lv_has ls0 4 [(0, .ref (ad 0)), (1, .int p1), (2, .int p2)] := hl0
  have hFr : rFr [3, 4, 5, 6, 7, 8, 9, 10, 11, 12, 13, 14, 15, 16, 17, 18, 19, 20, 21, 22, 23, 24, 25] F F := rFr.rf
  have hiX1 : ∀ w ∈ u_ws RX1 TX1 7, w ∈ wsX7_war := in_wsX7_war_3
  have hiX7 : ∀ w ∈ u_ws RX7 TX7 15, w ∈ wsX7_war := in_wsX7_war_2
  obtain ⟨M, hM⟩ : ∃ M, M = m_X7_war (AB ad F) p1 p2 := ⟨_, rfl⟩
  refine lv_aload_n S.1 S.2.1 dX7_war_0 rfl (lv_at hl0 0 rfl) ?_
  obtain ⟨c1, d1, k1, dr1, hF1, hc1, hd1, hk1⟩ := wt_main hW
  refine r_get S hK hP 0 (by decide) hF1 (C := RX7) (T := TX7) (N := 15) hiX7 rfl 11 (by decide) (am_at in_wsX7_war_0 0 rfl) (v := .ref (ad c1)) rfl dX7_war_1 ?_
  have m2 : (rl ((AB ad F) 0 11)) = c1 := AB_r hI (lt_C hc1) hF1 rfl
  refine lv_iload_n S.1 S.2.1 dX7_war_4 rfl (lv_at hl0 1 rfl) ?_
  obtain ⟨sl4, fm4, tn4, rn4, bn4, hF4, hb4_1, hb4_2, hb4_3⟩ := wt_C hW hc1
  refine r_cVp (As := [.int p1]) (rest := []) S hK hZ hP hS hl0.1 c1 (lt_C hc1) hF4 (C := RX0) rfl (c_X0_hasRoad l D cA ad t hI F hW c1 hc1 p1) (cwV 1 S.2.2.2.2 gX7_war_X0_hasRoad rfl rfl rfl (by decide +kernel) ⟨Nat.le_of_ble_eq_true rfl, Nat.le_of_ble_eq_true rfl⟩) rfl rfl (Nat.le_of_ble_eq_true rfl) ⟨Nat.zero_le _, Nat.zero_le _⟩ dX7_war_5 (fun r3 hr3 => ?_)
  obtain ⟨hr3, hm3⟩ := hr3
  obtain ⟨⟨b5, hb5, rfl⟩, hx5⟩ := hr3
  have hx5 : b5 ≠ 0 → 0 ≤ p1.toInt ∧ p1.toInt ≤ _ := fun q => hx5 (nI_ne0 (by omega) (by omega))
  have m6 : (m_X0_hasRoad (AB ad F) (rl ((AB ad F) 0 11)) p1) = (nI b5) := (congr (congr (Eq.refl (m_X0_hasRoad (AB ad F))) m2) (Eq.refl (p1 : Int32))).trans hm3
  refine lv_if_ne (tgt := 14) S.1 S.2.1 dX7_war_8 (by decide) (fun c7 => ?_) (fun c7 => ?_)
  · skip
    have k8 := ci_ne (nI_toInt (n := b5) (Nat.lt_of_le_of_lt hb5 (by decide))) z_ti c7
    refine lv_aload_n S.1 S.2.1 dX7_war_14 rfl (lv_at hl0 0 rfl) ?_
    refine r_get S hK hP 0 (by decide) hF1 (C := RX7) (T := TX7) (N := 15) hiX7 rfl 1 (by decide) (am_at in_wsX7_war_0 2 rfl) (v := .ref (ad 3)) rfl dX7_war_15 ?_
    obtain ⟨ja9, jb9, jc9, jd9, jx9, jy9, jk9, hF9, hk9⟩ := wt_J hW (show isJ 3 from Or.inl rfl)
    refine r_get S hK hP 3 (by decide) hF9 (C := RX1) (T := TX1) (N := 7) hiX1 rfl 5 (by decide) (am_at in_wsX7_war_0 3 rfl) (v := .int jy9) rfl dX7_war_18 ?_
    have m10 : ((AB ad F) 3 5) = jy9 := AB_f hF9 rfl
    refine lv_iload_n S.1 S.2.1 dX7_war_21 rfl (lv_at hl0 1 rfl) ?_
    refine lv_ishr S.1 S.2.1 dX7_war_22 ?_
    refine lv_topi (fun v11 e11 => ?_)
    have m12 : (((AB ad F) 3 5) >>> (p1 &&& 31)) = v11 := cg2 (fun (x : Int32) (y : Int32) => x >>> (y &&& 31)) m10 (Eq.refl (p1 : Int32)) e11
    refine lv_iconst (v := (nI 1)) S.1 S.2.1 dX7_war_23 (by decide +kernel) ?_
    refine lv_iand S.1 S.2.1 dX7_war_24 ?_
    refine lv_topi (fun v13 e13 => ?_)
    have m14 : ((((AB ad F) 3 5) >>> (p1 &&& 31)) &&& (nI 1)) = v13 := cg2 (fun (x : Int32) (y : Int32) => x &&& y) m12 (Eq.refl ((nI 1) : Int32)) e13
    refine lv_istore_n (lv' := [(3, .int v13), (0, .ref (ad 0)), (1, .int p1), (2, .int p2)]) S.1 S.2.1 dX7_war_25 rfl hl0 (by decide) rfl (fun ls15 hl15 => ?_)
    refine lv_aload_n S.1 S.2.1 dX7_war_26 rfl (lv_at hl15 1 rfl) ?_
    refine r_get S hK hP 0 (by decide) hF1 (C := RX7) (T := TX7) (N := 15) hiX7 rfl 2 (by decide) (am_at in_wsX7_war_0 4 rfl) (v := .ref (ad 4)) rfl dX7_war_27 ?_
    refine lv_aload_n S.1 S.2.1 dX7_war_30 rfl (lv_at hl15 1 rfl) ?_
    refine r_get S hK hP 0 (by decide) hF1 (C := RX7) (T := TX7) (N := 15) hiX7 rfl 1 (by decide) (am_at in_wsX7_war_0 2 rfl) (v := .ref (ad 3)) rfl dX7_war_31 ?_
    obtain ⟨k17, hF17, hk17⟩ := wt_past hW
    refine r_cVv (As := [.ref (ad 3)]) (rest := []) S hK hZ hP hS hl15.1 4 (by decide) hF17 (C := RX2) rfl (c_X2_push l D cA ad t hI F hW 3 (show isJ 3 from Or.inl rfl)) (cwV 1 S.2.2.2.2 gX7_war_X2_push rfl rfl rfl (by decide +kernel) ⟨Nat.le_of_ble_eq_true rfl, Nat.le_of_ble_eq_true rfl⟩) rfl rfl (Nat.le_of_ble_eq_true rfl) ⟨Nat.zero_le _, Nat.zero_le _⟩ dX7_war_34 (fun F16 H16 locs16 hr16 hP16 hS16 => ?_)
    obtain ⟨hW16, hFc16, hr16⟩ := hr16
    obtain ⟨hr16, hm16⟩ := hr16
    have hFr16 := hFr.tr hFc16 (by simp <;> first | omega | (simp only [isC, isJ] at *; omega))
    have hE19 : M = m_X7_war_18 (AB ad F16) v13 p1 p2 := hM.trans ((show m_X7_war (AB ad F) p1 p2 = m_X7_war_18 (m_X2_push (AB ad F) 3) ((((AB ad F) 3 5) >>> (p1 &&& 31)) &&& (nI 1)) p1 p2 from by unfold m_X7_war; rw [if_neg (neq_cg m6 rfl c7)]).trans (congr (congr (congr (congrArg (m_X7_war_18) ((congr (Eq.refl (m_X2_push (AB ad F))) (Eq.refl 3)).trans hm16)) m14) (Eq.refl (p1 : Int32))) (Eq.refl (p2 : Int32))))
    refine lv_aload_n S.1 S.2.1 dX7_war_37 rfl (lv_at hl15 1 rfl) ?_
    have hF20 := (hFc16 0 (by decide)).trans hF1
    refine r_get S hK hP16 0 (by decide) hF20 (C := RX7) (T := TX7) (N := 15) hiX7 rfl 1 (by decide) (am_at in_wsX7_war_0 2 rfl) (v := .ref (ad 3)) rfl dX7_war_38 ?_
    refine lv_iload_n S.1 S.2.1 dX7_war_41 rfl (lv_at hl15 3 rfl) ?_
    refine lv_if_eq (tgt := 59) S.1 S.2.1 dX7_war_42 (by decide) (fun c21 => ?_) (fun c21 => ?_)
    · skip
      have k22 := ci_eq rfl z_ti c21
      refine lv_aload_n S.1 S.2.1 dX7_war_59 rfl (lv_at hl15 1 rfl) ?_
      refine r_get S hK hP16 0 (by decide) hF20 (C := RX7) (T := TX7) (N := 15) hiX7 rfl 1 (by decide) (am_at in_wsX7_war_0 2 rfl) (v := .ref (ad 3)) rfl dX7_war_60 ?_
      have hF23 := (hFc16 3 (by decide)).trans hF9
      refine r_get S hK hP16 3 (by decide) hF23 (C := RX1) (T := TX1) (N := 7) hiX1 rfl 5 (by decide) (am_at in_wsX7_war_0 3 rfl) (v := .int jy9) rfl dX7_war_63 ?_
      have m24 : ((AB ad F16) 3 5) = jy9 := AB_f hF23 rfl
      refine lv_iconst (v := (nI 1)) S.1 S.2.1 dX7_war_66 (by decide +kernel) ?_
      refine lv_iload_n S.1 S.2.1 dX7_war_67 rfl (lv_at hl15 2 rfl) ?_
      refine lv_ishl S.1 S.2.1 dX7_war_68 ?_
      refine lv_topi (fun v25 e25 => ?_)
      have m26 : ((nI 1) <<< (p1 &&& 31)) = v25 := cg2 (fun (x : Int32) (y : Int32) => x <<< (y &&& 31)) (Eq.refl ((nI 1) : Int32)) (Eq.refl (p1 : Int32)) e25
      refine lv_iconst (v := (-1)) S.1 S.2.1 dX7_war_69 (by decide +kernel) ?_
      refine lv_ixor S.1 S.2.1 dX7_war_70 ?_
      refine lv_topi (fun v27 e27 => ?_)
      have m28 : (((nI 1) <<< (p1 &&& 31)) ^^^ ((-1) : Int32)) = v27 := cg2 (fun (x : Int32) (y : Int32) => x ^^^ y) m26 (Eq.refl ((-1) : Int32)) e27
      refine lv_iand S.1 S.2.1 dX7_war_71 ?_
      refine lv_topi (fun v29 e29 => ?_)
      have m30 : (((AB ad F16) 3 5) &&& (((nI 1) <<< (p1 &&& 31)) ^^^ ((-1) : Int32))) = v29 := cg2 (fun (x : Int32) (y : Int32) => x &&& y) m24 m28 e29
      refine r_put S hI hK hP16 hS16 3 (by decide) hF23 (C := RX1) (T := TX1) (N := 7) hiX1 tyX1_ok nmX1 rfl 5 (by decide) (am_at in_wsX7_war_0 3 rfl) rfl rfl rfl (Nat.le_of_ble_eq_true rfl) dX7_war_72 (fun F31 H31 locs31 eF31 hP31 hS31 => ?_)
      have hF31 : F31 3 = .inr (1, [.int ja9, .int jb9, .int jc9, .int jd9, .int jx9, .int v29, .int (nI jk9)]) := by rw [eF31]; exact va_up_self _ _ _
      have hW31 := hW16.up eF31 (ok_J (show isJ 3 from Or.inl rfl) ⟨ja9, jb9, jc9, jd9, jx9, v29, jk9, rfl, by omega⟩)
      have hFr31 := hFr16.up eF31 (by simp <;> first | omega | (simp only [isC, isJ] at *; omega))
      have hE33 : M = m_X7_war_32 (AB ad F31) v13 p1 p2 := hE19.trans ((show m_X7_war_18 (AB ad F16) v13 p1 p2 = m_X7_war_32 (st (AB ad F16) 3 5 (((AB ad F16) 3 5) &&& (((nI 1) <<< (p1 &&& 31)) ^^^ ((-1) : Int32)))) v13 p1 p2 from by unfold m_X7_war_18; rw [if_pos (eq_cg rfl rfl c21)]).trans (congr (congr (congr (congrArg (m_X7_war_32) ((st_cg rfl rfl m30).trans (AB_put hF23 (Nat.le_of_ble_eq_true rfl) eF31).symm)) (Eq.refl (v13 : Int32))) (Eq.refl (p1 : Int32))) (Eq.refl (p2 : Int32))))
      refine lv_iload_n S.1 S.2.1 dX7_war_75 rfl (lv_at hl15 0 rfl) ?_
      have hE34 : M = (v13, AB ad F31) := hE33.trans ((show m_X7_war_32 (AB ad F31) v13 p1 p2 = (v13, (AB ad F31)) from rfl).trans (congrArg (fun q => (q, AB ad F31)) rfl))
      exact hret 76 _ _ _ _ _ dX7_war_76 rfl hP31 hS31 ⟨hW31, hFr31, ⟨trivial, hM.symm.trans hE34⟩⟩
    have k35 := ci_ne rfl z_ti c21
    refine lv_aload_n S.1 S.2.1 dX7_war_45 rfl (lv_at hl15 1 rfl) ?_
    refine r_get S hK hP16 0 (by decide) hF20 (C := RX7) (T := TX7) (N := 15) hiX7 rfl 1 (by decide) (am_at in_wsX7_war_0 2 rfl) (v := .ref (ad 3)) rfl dX7_war_46 ?_
    have hF36 := (hFc16 3 (by decide)).trans hF9
    refine r_get S hK hP16 3 (by decide) hF36 (C := RX1) (T := TX1) (N := 7) hiX1 rfl 5 (by decide) (am_at in_wsX7_war_0 3 rfl) (v := .int jy9) rfl dX7_war_49 ?_
    have m37 : ((AB ad F16) 3 5) = jy9 := AB_f hF36 rfl
    refine lv_iconst (v := (nI 1)) S.1 S.2.1 dX7_war_52 (by decide +kernel) ?_
    refine lv_iload_n S.1 S.2.1 dX7_war_53 rfl (lv_at hl15 2 rfl) ?_
    refine lv_ishl S.1 S.2.1 dX7_war_54 ?_
    refine lv_topi (fun v38 e38 => ?_)
    have m39 : ((nI 1) <<< (p1 &&& 31)) = v38 := cg2 (fun (x : Int32) (y : Int32) => x <<< (y &&& 31)) (Eq.refl ((nI 1) : Int32)) (Eq.refl (p1 : Int32)) e38
    refine lv_ior S.1 S.2.1 dX7_war_55 ?_
    refine lv_topi (fun v40 e40 => ?_)
    have m41 : (((AB ad F16) 3 5) ||| ((nI 1) <<< (p1 &&& 31))) = v40 := cg2 (fun (x : Int32) (y : Int32) => x ||| y) m37 m39 e40
    refine lv_goto (tgt := 72) S.1 S.2.1 dX7_war_56 (by decide) ?_
    refine r_put S hI hK hP16 hS16 3 (by decide) hF36 (C := RX1) (T := TX1) (N := 7) hiX1 tyX1_ok nmX1 rfl 5 (by decide) (am_at in_wsX7_war_0 3 rfl) rfl rfl rfl (Nat.le_of_ble_eq_true rfl) dX7_war_72 (fun F42 H42 locs42 eF42 hP42 hS42 => ?_)
    have hF42 : F42 3 = .inr (1, [.int ja9, .int jb9, .int jc9, .int jd9, .int jx9, .int v40, .int (nI jk9)]) := by rw [eF42]; exact va_up_self _ _ _
    have hW42 := hW16.up eF42 (ok_J (show isJ 3 from Or.inl rfl) ⟨ja9, jb9, jc9, jd9, jx9, v40, jk9, rfl, by omega⟩)
    have hFr42 := hFr16.up eF42 (by simp <;> first | omega | (simp only [isC, isJ] at *; omega))
    have hE44 : M = m_X7_war_43 (AB ad F42) v13 p1 p2 := hE19.trans ((show m_X7_war_18 (AB ad F16) v13 p1 p2 = m_X7_war_43 (st (AB ad F16) 3 5 (((AB ad F16) 3 5) ||| ((nI 1) <<< (p1 &&& 31)))) v13 p1 p2 from by unfold m_X7_war_18; rw [if_neg (neq_cg rfl rfl c21)]).trans (congr (congr (congr (congrArg (m_X7_war_43) ((st_cg rfl rfl m41).trans (AB_put hF36 (Nat.le_of_ble_eq_true rfl) eF42).symm)) (Eq.refl (v13 : Int32))) (Eq.refl (p1 : Int32))) (Eq.refl (p2 : Int32))))
    refine lv_iload_n S.1 S.2.1 dX7_war_75 rfl (lv_at hl15 0 rfl) ?_
    have hE45 : M = (v13, AB ad F42) := hE44.trans ((show m_X7_war_43 (AB ad F42) v13 p1 p2 = (v13, (AB ad F42)) from rfl).trans (congrArg (fun q => (q, AB ad F42)) rfl))
    exact hret 76 _ _ _ _ _ dX7_war_76 rfl hP42 hS42 ⟨hW42, hFr42, ⟨trivial, hM.symm.trans hE45⟩⟩
  have k46 := ci_eq (nI_toInt (n := b5) (Nat.lt_of_le_of_lt hb5 (by decide))) z_ti c7
  refine lv_ldc (v := (-1000000001)) S.1 S.2.1 S.2.2.2.1 (S.2.2.2.2 (.constant RX7 147 (-1000000001)) (am_at in_wsX7_war_0 1 rfl)) dX7_war_11 ?_
  have hE47 : M = ((-1000000001), AB ad F) := hM.trans ((show m_X7_war (AB ad F) p1 p2 = (((-1000000001) : Int32), (AB ad F)) from by unfold m_X7_war; rw [if_pos (eq_cg m6 rfl c7)]).trans (congrArg (fun q => (q, AB ad F)) rfl))
  exact hret 13 _ _ _ _ _ dX7_war_13 rfl hP hS ⟨hW, hFr, ⟨trivial, hM.symm.trans hE47⟩⟩
noncomputable def m_X7_home_20 (σ : SS) : Int32 × SS :=
  ((σ 3 3), σ)
noncomputable def m_X7_home_15 (σ : SS) : Int32 × SS :=
  m_X7_home_20 (st σ 3 6 (nI 1))
noncomputable def m_X7_home (σ : SS) : Int32 × SS :=
  if (m_X7_cannotGoOn σ) = (0 : Int32) then
    if (nI 36) ≤ (σ 3 1) then
      m_X7_home_15 (m_X2_push σ 3)
    else
      (((-1000000003) : Int32), σ)
  else
    (((-1000000003) : Int32), σ)
set_option maxHeartbeats 4000000 in
set_option maxRecDepth 100000 in
theorem c_X7_home (l : Launch) (D : va_G) (cA ad : Nat → Nat) (t : Nat) (hI : rI ad) (F : Nat → va_E) (hW : WT cA ad F) : MI l D cA ad t yX7_home wsX7_home { frames := 2, cells := 0, slots := 0, locals := 43 } [.ref (ad 0)] F (fun r F' => WT cA ad F' ∧ rFr [3, 4, 5, 6, 7, 8, 9, 10, 11, 12, 13, 14, 15, 16, 17, 18, 19, 20, 21, 22, 23, 24, 25] F F' ∧ ((True) ∧ m_X7_home (AB ad F) = (r, AB ad F'))) := by
  refine en_I rfl (by decide +kernel) (Nat.le_of_ble_eq_true rfl) ?_
  intro p e s m args below meth c ls0 Q S hK hZ hP hS hl0 hret
  have hl0 : lv_has ls0 1 [(0, .ref (ad 0))] := hl0
  have hFr : rFr [3, 4, 5, 6, 7, 8, 9, 10, 11, 12, 13, 14, 15, 16, 17, 18, 19, 20, 21, 22, 23, 24, 25] F F := rFr.rf
  have hiX1 : ∀ w ∈ u_ws RX1 TX1 7, w ∈ wsX7_home := in_wsX7_home_3
  have hiX7 : ∀ w ∈ u_ws RX7 TX7 15, w ∈ wsX7_home := in_wsX7_home_2
  obtain ⟨M, hM⟩ : ∃ M, M = m_X7_home (AB ad F) := ⟨_, rfl⟩
  refine lv_aload_n S.1 S.2.1 dX7_home_0 rfl (lv_at hl0 0 rfl) ?_
  obtain ⟨c2, d2, k2, dr2, hF2, hc2, hd2, hk2⟩ := wt_main hW
  refine r_cVp (As := []) (rest := []) S hK hZ hP hS hl0.1 0 (by decide) hF2 (C := RX7) rfl (c_X7_cannotGoOn l D cA ad t hI F hW ) (cwV 0 S.2.2.2.2 gX7_home_X7_cannotGoOn rfl rfl rfl (by decide +kernel) ⟨Nat.le_of_ble_eq_true rfl, Nat.le_of_ble_eq_true rfl⟩) rfl rfl (Nat.le_of_ble_eq_true rfl) ⟨Nat.zero_le _, Nat.zero_le _⟩ dX7_home_1 (fun r1 hr1 => ?_)
  obtain ⟨hr1, hm1⟩ := hr1
  obtain ⟨b3, hb3, rfl⟩ := hr1
  have m4 : (m_X7_cannotGoOn (AB ad F)) = (nI b3) := (Eq.refl (m_X7_cannotGoOn (AB ad F))).trans hm1
  refine lv_if_ne (tgt := 19) S.1 S.2.1 dX7_home_4 (by decide) (fun c5 => ?_) (fun c5 => ?_)
  · skip
    have k6 := ci_ne (nI_toInt (n := b3) (Nat.lt_of_le_of_lt hb3 (by decide))) z_ti c5
    refine lv_ldc (v := (-1000000003)) S.1 S.2.1 S.2.2.2.1 (S.2.2.2.2 (.constant RX7 181 (-1000000003)) (am_at in_wsX7_home_0 2 rfl)) dX7_home_19 ?_
    have hE7 : M = ((-1000000003), AB ad F) := hM.trans ((show m_X7_home (AB ad F) = (((-1000000003) : Int32), (AB ad F)) from by unfold m_X7_home; rw [if_neg (neq_cg m4 rfl c5)]).trans (congrArg (fun q => (q, AB ad F)) rfl))
    exact hret 21 _ _ _ _ _ dX7_home_21 rfl hP hS ⟨hW, hFr, ⟨trivial, hM.symm.trans hE7⟩⟩
  have k8 := ci_eq (nI_toInt (n := b3) (Nat.lt_of_le_of_lt hb3 (by decide))) z_ti c5
  refine lv_aload_n S.1 S.2.1 dX7_home_7 rfl (lv_at hl0 0 rfl) ?_
  refine r_get S hK hP 0 (by decide) hF2 (C := RX7) (T := TX7) (N := 15) hiX7 rfl 1 (by decide) (am_at in_wsX7_home_0 0 rfl) (v := .ref (ad 3)) rfl dX7_home_8 ?_
  obtain ⟨ja9, jb9, jc9, jd9, jx9, jy9, jk9, hF9, hk9⟩ := wt_J hW (show isJ 3 from Or.inl rfl)
  refine r_get S hK hP 3 (by decide) hF9 (C := RX1) (T := TX1) (N := 7) hiX1 rfl 1 (by decide) (am_at in_wsX7_home_0 1 rfl) (v := .int jb9) rfl dX7_home_11 ?_
  have m10 : ((AB ad F) 3 1) = jb9 := AB_f hF9 rfl
  refine lv_bipush (v := (nI 36)) S.1 S.2.1 dX7_home_14 (by decide +kernel) ?_
  refine lv_icmp_ge (tgt := 22) S.1 S.2.1 dX7_home_16 (by decide) (fun c11 => ?_) (fun c11 => ?_)
  · skip
    have k12 := ci_le (nI_toInt (n := 36) (by decide)) rfl c11
    refine lv_aload_n S.1 S.2.1 dX7_home_22 rfl (lv_at hl0 0 rfl) ?_
    refine r_get S hK hP 0 (by decide) hF2 (C := RX7) (T := TX7) (N := 15) hiX7 rfl 2 (by decide) (am_at in_wsX7_home_0 3 rfl) (v := .ref (ad 4)) rfl dX7_home_23 ?_
    refine lv_aload_n S.1 S.2.1 dX7_home_26 rfl (lv_at hl0 0 rfl) ?_
    refine r_get S hK hP 0 (by decide) hF2 (C := RX7) (T := TX7) (N := 15) hiX7 rfl 1 (by decide) (am_at in_wsX7_home_0 0 rfl) (v := .ref (ad 3)) rfl dX7_home_27 ?_
    obtain ⟨k14, hF14, hk14⟩ := wt_past hW
    refine r_cVv (As := [.ref (ad 3)]) (rest := []) S hK hZ hP hS hl0.1 4 (by decide) hF14 (C := RX2) rfl (c_X2_push l D cA ad t hI F hW 3 (show isJ 3 from Or.inl rfl)) (cwV 1 S.2.2.2.2 gX7_home_X2_push rfl rfl rfl (by decide +kernel) ⟨Nat.le_of_ble_eq_true rfl, Nat.le_of_ble_eq_true rfl⟩) rfl rfl (Nat.le_of_ble_eq_true rfl) ⟨Nat.zero_le _, Nat.zero_le _⟩ dX7_home_30 (fun F13 H13 locs13 hr13 hP13 hS13 => ?_)
    obtain ⟨hW13, hFc13, hr13⟩ := hr13
    obtain ⟨hr13, hm13⟩ := hr13
    have hFr13 := hFr.tr hFc13 (by simp <;> first | omega | (simp only [isC, isJ] at *; omega))
    have hE16 : M = m_X7_home_15 (AB ad F13) := hM.trans ((show m_X7_home (AB ad F) = m_X7_home_15 (m_X2_push (AB ad F) 3) from by unfold m_X7_home; rw [if_pos (eq_cg m4 rfl c5), if_pos (le_cg rfl m10 c11)]).trans (congrArg (m_X7_home_15) ((congr (Eq.refl (m_X2_push (AB ad F))) (Eq.refl 3)).trans hm13)))
    refine lv_aload_n S.1 S.2.1 dX7_home_33 rfl (lv_at hl0 0 rfl) ?_
    have hF17 := (hFc13 0 (by decide)).trans hF2
    refine r_get S hK hP13 0 (by decide) hF17 (C := RX7) (T := TX7) (N := 15) hiX7 rfl 1 (by decide) (am_at in_wsX7_home_0 0 rfl) (v := .ref (ad 3)) rfl dX7_home_34 ?_
    refine lv_iconst (v := (nI 1)) S.1 S.2.1 dX7_home_37 (by decide +kernel) ?_
    have hF18 := (hFc13 3 (by decide)).trans hF9
    refine r_put S hI hK hP13 hS13 3 (by decide) hF18 (C := RX1) (T := TX1) (N := 7) hiX1 tyX1_ok nmX1 rfl 6 (by decide) (am_at in_wsX7_home_0 4 rfl) rfl (nar_bool (by omega)) (fit_bool (by omega)) (Nat.le_of_ble_eq_true rfl) dX7_home_38 (fun F19 H19 locs19 eF19 hP19 hS19 => ?_)
    have hF19 : F19 3 = .inr (1, [.int ja9, .int jb9, .int jc9, .int jd9, .int jx9, .int jy9, .int (nI 1)]) := by rw [eF19]; exact va_up_self _ _ _
    have hW19 := hW13.up eF19 (ok_J (show isJ 3 from Or.inl rfl) ⟨ja9, jb9, jc9, jd9, jx9, jy9, 1, rfl, by omega⟩)
    have hFr19 := hFr13.up eF19 (by simp <;> first | omega | (simp only [isC, isJ] at *; omega))
    have hE21 : M = m_X7_home_20 (AB ad F19) := hE16.trans ((show m_X7_home_15 (AB ad F13) = m_X7_home_20 (st (AB ad F13) 3 6 (nI 1)) from rfl).trans (congrArg (m_X7_home_20) ((st_cg rfl rfl rfl).trans (AB_put hF18 (Nat.le_of_ble_eq_true rfl) eF19).symm)))
    refine lv_aload_n S.1 S.2.1 dX7_home_41 rfl (lv_at hl0 0 rfl) ?_
    have hF22 := (show F19 0 = F13 0 by rw [eF19]; exact va_up_ne _ _ (by decide)).trans hF17
    refine r_get S hK hP19 0 (by decide) hF22 (C := RX7) (T := TX7) (N := 15) hiX7 rfl 1 (by decide) (am_at in_wsX7_home_0 0 rfl) (v := .ref (ad 3)) rfl dX7_home_42 ?_
    refine r_get S hK hP19 3 (by decide) hF19 (C := RX1) (T := TX1) (N := 7) hiX1 rfl 3 (by decide) (am_at in_wsX7_home_0 5 rfl) (v := .int jd9) rfl dX7_home_45 ?_
    have m23 : ((AB ad F19) 3 3) = jd9 := AB_f hF19 rfl
    have hE24 : M = (jd9, AB ad F19) := hE21.trans ((show m_X7_home_20 (AB ad F19) = (((AB ad F19) 3 3), (AB ad F19)) from rfl).trans (congrArg (fun q => (q, AB ad F19)) m23))
    exact hret 48 _ _ _ _ _ dX7_home_48 rfl hP19 hS19 ⟨hW19, hFr19, ⟨trivial, hM.symm.trans hE24⟩⟩
  have k25 := ci_nle (nI_toInt (n := 36) (by decide)) rfl c11
  refine lv_ldc (v := (-1000000003)) S.1 S.2.1 S.2.2.2.1 (S.2.2.2.2 (.constant RX7 181 (-1000000003)) (am_at in_wsX7_home_0 2 rfl)) dX7_home_19 ?_
  have hE26 : M = ((-1000000003), AB ad F) := hM.trans ((show m_X7_home (AB ad F) = (((-1000000003) : Int32), (AB ad F)) from by unfold m_X7_home; rw [if_pos (eq_cg m4 rfl c5), if_neg (nle_cg rfl m10 c11)]).trans (congrArg (fun q => (q, AB ad F)) rfl))
  exact hret 21 _ _ _ _ _ dX7_home_21 rfl hP hS ⟨hW, hFr, ⟨trivial, hM.symm.trans hE26⟩⟩
noncomputable def m_X7_drift_34 (k0 : SS → Int32 → Int32 → Int32 × SS) (σ : SS) (a0 : Int32) (a1 : Int32) : Int32 × SS :=
  k0 σ (a0 + Int32.ofInt (1)) a1
noncomputable def m_X7_drift_L53_23_b (k0 : SS → Int32 → Int32 → Int32 × SS) (σ : SS) (a0 : Int32) (a1 : Int32) : Int32 × SS :=
  if a1 ≤ a0 then
    ((σ 3 3), σ)
  else
    m_X7_drift_34 k0 (m_X7_driftMonth σ) a0 a1
noncomputable def m_X7_drift_L53_23 : Nat → SS → Int32 → Int32 → Int32 × SS
  | 0 => fun σ _ _ => (0, σ)
  | n + 1 => m_X7_drift_L53_23_b (m_X7_drift_L53_23 n)
noncomputable def m_X7_drift_20 (σ : SS) (a0 : Int32) : Int32 × SS :=
  m_X7_drift_L53_23 2000 σ (nI 0) a0
noncomputable def m_X7_drift (σ : SS) (a0 : Int32) : Int32 × SS :=
  if a0 < (nI 1) then
    (((-1000000002) : Int32), σ)
  else
    if a0 ≤ (nI 40) then
      if (m_X7_cannotGoOn σ) = (0 : Int32) then
        if (σ 3 1) ≤ (nI 9000) then
          m_X7_drift_20 (m_X2_push σ 3) a0
        else
          (((-1000000004) : Int32), σ)
      else
        (((-1000000003) : Int32), σ)
    else
      (((-1000000002) : Int32), σ)
set_option maxHeartbeats 4000000 in
set_option maxRecDepth 100000 in
theorem c_X7_drift (l : Launch) (D : va_G) (cA ad : Nat → Nat) (t : Nat) (hI : rI ad) (F : Nat → va_E) (hW : WT cA ad F) (p1 : Int32) : MI l D cA ad t yX7_drift wsX7_drift { frames := 5, cells := 0, slots := 0, locals := 109 } [.ref (ad 0), .int p1] F (fun r F' => WT cA ad F' ∧ rFr [0, 3, 4, 5, 6, 7, 8, 9, 10, 11, 12, 13, 14, 15, 16, 17, 18, 19, 20, 21, 22, 23, 24, 25] F F' ∧ ((True) ∧ m_X7_drift (AB ad F) p1 = (r, AB ad F'))) := by
  refine en_I rfl (by decide +kernel) (Nat.le_of_ble_eq_true rfl) ?_
  intro p e s m args below meth c ls0 Q S hK hZ hP hS hl0 hret
  have hl0 : lv_has ls0 3 [(0, .ref (ad 0)), (1, .int p1)] := hl0
  have hFr : rFr [0, 3, 4, 5, 6, 7, 8, 9, 10, 11, 12, 13, 14, 15, 16, 17, 18, 19, 20, 21, 22, 23, 24, 25] F F := rFr.rf
  have hiX1 : ∀ w ∈ u_ws RX1 TX1 7, w ∈ wsX7_drift := in_wsX7_drift_6
  have hiX7 : ∀ w ∈ u_ws RX7 TX7 15, w ∈ wsX7_drift := in_wsX7_drift_5
  obtain ⟨M, hM⟩ : ∃ M, M = m_X7_drift (AB ad F) p1 := ⟨_, rfl⟩
  refine lv_iload_n S.1 S.2.1 dX7_drift_0 rfl (lv_at hl0 1 rfl) ?_
  refine lv_iconst (v := (nI 1)) S.1 S.2.1 dX7_drift_1 (by decide +kernel) ?_
  refine lv_icmp_lt (tgt := 11) S.1 S.2.1 dX7_drift_2 (by decide) (fun c1 => ?_) (fun c1 => ?_)
  · skip
    have k2 := ci_lt rfl (nI_toInt (n := 1) (by decide)) c1
    refine lv_ldc (v := (-1000000002)) S.1 S.2.1 S.2.2.2.1 (S.2.2.2.2 (.constant RX7 79 (-1000000002)) (am_at in_wsX7_drift_0 0 rfl)) dX7_drift_11 ?_
    have hE3 : M = ((-1000000002), AB ad F) := hM.trans ((show m_X7_drift (AB ad F) p1 = (((-1000000002) : Int32), (AB ad F)) from by unfold m_X7_drift; rw [if_pos (lt_cg rfl rfl c1)]).trans (congrArg (fun q => (q, AB ad F)) rfl))
    exact hret 13 _ _ _ _ _ dX7_drift_13 rfl hP hS ⟨hW, hFr, ⟨trivial, hM.symm.trans hE3⟩⟩
  have k4 := ci_nlt rfl (nI_toInt (n := 1) (by decide)) c1
  refine lv_iload_n S.1 S.2.1 dX7_drift_5 rfl (lv_at hl0 1 rfl) ?_
  refine lv_bipush (v := (nI 40)) S.1 S.2.1 dX7_drift_6 (by decide +kernel) ?_
  refine lv_icmp_le (tgt := 14) S.1 S.2.1 dX7_drift_8 (by decide) (fun c5 => ?_) (fun c5 => ?_)
  · skip
    have k6 := ci_le rfl (nI_toInt (n := 40) (by decide)) c5
    obtain ⟨j7, hj7, rfl⟩ := nI_of_le (x := p1) (B := 40) (by omega) (by omega)
    have kj7 := nI_toInt (n := j7) (Nat.lt_of_le_of_lt hj7 (by decide))
    refine lv_aload_n S.1 S.2.1 dX7_drift_14 rfl (lv_at hl0 0 rfl) ?_
    obtain ⟨c9, d9, k9, dr9, hF9, hc9, hd9, hk9⟩ := wt_main hW
    refine r_cVp (As := []) (rest := []) S hK hZ hP hS hl0.1 0 (by decide) hF9 (C := RX7) rfl (c_X7_cannotGoOn l D cA ad t hI F hW ) (cwV 0 S.2.2.2.2 gX7_drift_X7_cannotGoOn rfl rfl rfl (by decide +kernel) ⟨Nat.le_of_ble_eq_true rfl, Nat.le_of_ble_eq_true rfl⟩) rfl rfl (Nat.le_of_ble_eq_true rfl) ⟨Nat.zero_le _, Nat.zero_le _⟩ dX7_drift_15 (fun r8 hr8 => ?_)
    obtain ⟨hr8, hm8⟩ := hr8
    obtain ⟨b10, hb10, rfl⟩ := hr8
    have m11 : (m_X7_cannotGoOn (AB ad F)) = (nI b10) := (Eq.refl (m_X7_cannotGoOn (AB ad F))).trans hm8
    refine lv_if_eq (tgt := 24) S.1 S.2.1 dX7_drift_18 (by decide) (fun c12 => ?_) (fun c12 => ?_)
    · skip
      have k13 := ci_eq (nI_toInt (n := b10) (Nat.lt_of_le_of_lt hb10 (by decide))) z_ti c12
      refine lv_aload_n S.1 S.2.1 dX7_drift_24 rfl (lv_at hl0 0 rfl) ?_
      refine r_get S hK hP 0 (by decide) hF9 (C := RX7) (T := TX7) (N := 15) hiX7 rfl 1 (by decide) (am_at in_wsX7_drift_0 2 rfl) (v := .ref (ad 3)) rfl dX7_drift_25 ?_
      obtain ⟨ja14, jb14, jc14, jd14, jx14, jy14, jk14, hF14, hk14⟩ := wt_J hW (show isJ 3 from Or.inl rfl)
      refine r_get S hK hP 3 (by decide) hF14 (C := RX1) (T := TX1) (N := 7) hiX1 rfl 1 (by decide) (am_at in_wsX7_drift_0 3 rfl) (v := .int jb14) rfl dX7_drift_28 ?_
      have m15 : ((AB ad F) 3 1) = jb14 := AB_f hF14 rfl
      refine lv_sipush (v := (nI 9000)) S.1 S.2.1 dX7_drift_31 (by decide +kernel) ?_
      refine lv_icmp_le (tgt := 40) S.1 S.2.1 dX7_drift_34 (by decide) (fun c16 => ?_) (fun c16 => ?_)
      · skip
        have k17 := ci_le rfl (nI_toInt (n := 9000) (by decide)) c16
        refine lv_aload_n S.1 S.2.1 dX7_drift_40 rfl (lv_at hl0 0 rfl) ?_
        refine r_get S hK hP 0 (by decide) hF9 (C := RX7) (T := TX7) (N := 15) hiX7 rfl 2 (by decide) (am_at in_wsX7_drift_0 5 rfl) (v := .ref (ad 4)) rfl dX7_drift_41 ?_
        refine lv_aload_n S.1 S.2.1 dX7_drift_44 rfl (lv_at hl0 0 rfl) ?_
        refine r_get S hK hP 0 (by decide) hF9 (C := RX7) (T := TX7) (N := 15) hiX7 rfl 1 (by decide) (am_at in_wsX7_drift_0 2 rfl) (v := .ref (ad 3)) rfl dX7_drift_45 ?_
        obtain ⟨k19, hF19, hk19⟩ := wt_past hW
        refine r_cVv (As := [.ref (ad 3)]) (rest := []) S hK hZ hP hS hl0.1 4 (by decide) hF19 (C := RX2) rfl (c_X2_push l D cA ad t hI F hW 3 (show isJ 3 from Or.inl rfl)) (cwV 1 S.2.2.2.2 gX7_drift_X2_push rfl rfl rfl (by decide +kernel) ⟨Nat.le_of_ble_eq_true rfl, Nat.le_of_ble_eq_true rfl⟩) rfl rfl (Nat.le_of_ble_eq_true rfl) ⟨Nat.zero_le _, Nat.zero_le _⟩ dX7_drift_48 (fun F18 H18 locs18 hr18 hP18 hS18 => ?_)
        obtain ⟨hW18, hFc18, hr18⟩ := hr18
        obtain ⟨hr18, hm18⟩ := hr18
        have hFr18 := hFr.tr hFc18 (by simp <;> first | omega | (simp only [isC, isJ] at *; omega))
        have hE21 : M = m_X7_drift_20 (AB ad F18) (nI j7) := hM.trans ((show m_X7_drift (AB ad F) (nI j7) = m_X7_drift_20 (m_X2_push (AB ad F) 3) (nI j7) from by unfold m_X7_drift; rw [if_neg (nlt_cg rfl rfl c1), if_pos (le_cg rfl rfl c5), if_pos (eq_cg m11 rfl c12), if_pos (le_cg m15 rfl c16)]).trans (congr (congrArg (m_X7_drift_20) ((congr (Eq.refl (m_X2_push (AB ad F))) (Eq.refl 3)).trans hm18)) (Eq.refl ((nI j7) : Int32))))
        refine lv_iconst (v := (nI 0)) S.1 S.2.1 dX7_drift_51 (by decide +kernel) ?_
        refine lv_istore_n (lv' := [(2, .int (nI 0)), (0, .ref (ad 0)), (1, .int (nI j7))]) S.1 S.2.1 dX7_drift_52 rfl hl0 (by decide) rfl (fun ls22 hl22 => ?_)
        have lp23 : ∀ (n23 : Nat) (q223 : Nat), ∀ (Fl23 : Nat → va_E) (Hl23 : Heap) (lol23 : List Loc), q223 ≤ j7 → j7 - q223 < n23 → WT cA ad Fl23 → rFr [0, 3, 4, 5, 6, 7, 8, 9, 10, 11, 12, 13, 14, 15, 16, 17, 18, 19, 20, 21, 22, 23, 24, 25] F Fl23 → va_P D vwCl (rW ad Fl23) Hl23 → va_S (rA ad) s.heap Hl23 lol23 → M = m_X7_drift_L53_23 n23 (AB ad Fl23) (nI q223) (nI j7) → ∀ (ls : Array Slot), lv_has ls 3 [(2, .int (nI q223)), (0, .ref (ad 0)), (1, .int (nI j7))] → W p l e { frames := 5, cells := 0, slots := 0, locals := 109 } s m args below meth c Hl23 lol23 0 0 Q (F0 m 53 ls []) := by
          intro n23
          induction n23 with
          | zero =>
            intro q223 Fl23 Hl23 lol23 iv23_0 hm23 hWl23 hFl23 hPl23 hSl23 hEl23 ls23 hl23
            exact absurd hm23 (Nat.not_lt_zero _)
          | succ n23 ih23 =>
            intro q223 Fl23 Hl23 lol23 iv23_0 hm23 hWl23 hFl23 hPl23 hSl23 hEl23 ls23 hl23
            have hE24 : M = m_X7_drift_L53_23_b (m_X7_drift_L53_23 n23) (AB ad Fl23) (nI q223) (nI j7) := hEl23
            refine lv_iload_n S.1 S.2.1 dX7_drift_53 rfl (lv_at hl23 0 rfl) ?_
            refine lv_iload_n S.1 S.2.1 dX7_drift_54 rfl (lv_at hl23 2 rfl) ?_
            refine lv_icmp_ge (tgt := 68) S.1 S.2.1 dX7_drift_55 (by decide) (fun c25 => ?_) (fun c25 => ?_)
            · skip
              have k26 := ci_le (nI_toInt (n := j7) (Nat.lt_of_le_of_lt hj7 (by decide))) (nI_toInt (n := q223) (by omega)) c25
              refine lv_aload_n S.1 S.2.1 dX7_drift_68 rfl (lv_at hl23 1 rfl) ?_
              obtain ⟨c27, d27, k27, dr27, hF27, hc27, hd27, hk27⟩ := wt_main hWl23
              refine r_get S hK hPl23 0 (by decide) hF27 (C := RX7) (T := TX7) (N := 15) hiX7 rfl 1 (by decide) (am_at in_wsX7_drift_0 2 rfl) (v := .ref (ad 3)) rfl dX7_drift_69 ?_
              obtain ⟨ja28, jb28, jc28, jd28, jx28, jy28, jk28, hF28, hk28⟩ := wt_J hWl23 (show isJ 3 from Or.inl rfl)
              refine r_get S hK hPl23 3 (by decide) hF28 (C := RX1) (T := TX1) (N := 7) hiX1 rfl 3 (by decide) (am_at in_wsX7_drift_0 6 rfl) (v := .int jd28) rfl dX7_drift_72 ?_
              have m29 : ((AB ad Fl23) 3 3) = jd28 := AB_f hF28 rfl
              have hE30 : M = (jd28, AB ad Fl23) := hE24.trans ((show m_X7_drift_L53_23_b (m_X7_drift_L53_23 n23) (AB ad Fl23) (nI q223) (nI j7) = (((AB ad Fl23) 3 3), (AB ad Fl23)) from by unfold m_X7_drift_L53_23_b; rw [if_pos (le_cg rfl rfl c25)]).trans (congrArg (fun q => (q, AB ad Fl23)) m29))
              exact hret 75 _ _ _ _ _ dX7_drift_75 rfl hPl23 hSl23 ⟨hWl23, hFl23, ⟨trivial, hM.symm.trans hE30⟩⟩
            have k31 := ci_nle (nI_toInt (n := j7) (Nat.lt_of_le_of_lt hj7 (by decide))) (nI_toInt (n := q223) (by omega)) c25
            refine lv_aload_n S.1 S.2.1 dX7_drift_58 rfl (lv_at hl23 1 rfl) ?_
            obtain ⟨c33, d33, k33, dr33, hF33, hc33, hd33, hk33⟩ := wt_main hWl23
            refine r_cVv (As := []) (rest := []) S hK hZ hPl23 hSl23 hl23.1 0 (by decide) hF33 (C := RX7) rfl (c_X7_driftMonth l D cA ad t hI Fl23 hWl23 ) (cwV 0 S.2.2.2.2 gX7_drift_X7_driftMonth rfl rfl rfl (by decide +kernel) ⟨Nat.le_of_ble_eq_true rfl, Nat.le_of_ble_eq_true rfl⟩) rfl rfl (Nat.le_of_ble_eq_true rfl) ⟨Nat.zero_le _, Nat.zero_le _⟩ dX7_drift_59 (fun F32 H32 locs32 hr32 hP32 hS32 => ?_)
            obtain ⟨hW32, hFc32, hr32⟩ := hr32
            obtain ⟨hr32, hm32⟩ := hr32
            have hFr32 := hFl23.tr hFc32 (by simp <;> first | omega | (simp only [isC, isJ] at *; omega))
            have hE35 : M = m_X7_drift_34 (m_X7_drift_L53_23 n23) (AB ad F32) (nI q223) (nI j7) := hE24.trans ((show m_X7_drift_L53_23_b (m_X7_drift_L53_23 n23) (AB ad Fl23) (nI q223) (nI j7) = m_X7_drift_34 (m_X7_drift_L53_23 n23) (m_X7_driftMonth (AB ad Fl23)) (nI q223) (nI j7) from by unfold m_X7_drift_L53_23_b; rw [if_neg (nle_cg rfl rfl c25)]).trans (congr (congr (congrArg (m_X7_drift_34 (m_X7_drift_L53_23 n23)) ((Eq.refl (m_X7_driftMonth (AB ad Fl23))).trans hm32)) (Eq.refl ((nI q223) : Int32))) (Eq.refl ((nI j7) : Int32))))
            have m37 : ((nI q223) + Int32.ofInt (1)) = (nI (q223 + 1)) := (congrArg (fun q : Int32 => q + Int32.ofInt (1)) rfl).trans (nI_add _ 1)
            refine lv_iinc (v := (nI (q223 + 1))) (lv' := [(2, .int (nI (q223 + 1))), (0, .ref (ad 0)), (1, .int (nI j7))]) S.1 S.2.1 dX7_drift_62 hl23 (k := 0) rfl (nI_add _ 1) (by decide) rfl (fun ls36 hl36 => ?_)
            refine lv_goto (tgt := 53) S.1 S.2.1 dX7_drift_65 (by decide) ?_
            have hE38 : M = (m_X7_drift_L53_23 n23) (AB ad F32) (nI (q223 + 1)) (nI j7) := hE35.trans ((show m_X7_drift_34 (m_X7_drift_L53_23 n23) (AB ad F32) (nI q223) (nI j7) = (m_X7_drift_L53_23 n23) (AB ad F32) ((nI q223) + Int32.ofInt (1)) (nI j7) from rfl).trans (congr (congr (congrArg ((m_X7_drift_L53_23 n23)) (rfl : AB ad F32 = AB ad F32)) m37) (Eq.refl ((nI j7) : Int32))))
            exact ih23 (q223 + 1) F32 H32 locs32 (by omega) (by omega) hW32 hFr32 hP32 hS32 hE38 ls36 (lv_sub hl36 [0, 1, 2] rfl)
        have hE39 : M = m_X7_drift_L53_23 2000 (AB ad F18) (nI 0) (nI j7) := hE21.trans ((show m_X7_drift_20 (AB ad F18) (nI j7) = m_X7_drift_L53_23 2000 (AB ad F18) (nI 0) (nI j7) from rfl).trans (congr (congr (congrArg (m_X7_drift_L53_23 2000) (rfl : AB ad F18 = AB ad F18)) (Eq.refl ((nI 0) : Int32))) (Eq.refl ((nI j7) : Int32))))
        exact lp23 2000 (0) F18 H18 locs18 (by omega) (by omega) hW18 hFr18 hP18 hS18 hE39 ls22 (lv_sub hl22 [0, 1, 2] rfl)
      have k40 := ci_nle rfl (nI_toInt (n := 9000) (by decide)) c16
      refine lv_ldc (v := (-1000000004)) S.1 S.2.1 S.2.2.2.1 (S.2.2.2.2 (.constant RX7 84 (-1000000004)) (am_at in_wsX7_drift_0 4 rfl)) dX7_drift_37 ?_
      have hE41 : M = ((-1000000004), AB ad F) := hM.trans ((show m_X7_drift (AB ad F) (nI j7) = (((-1000000004) : Int32), (AB ad F)) from by unfold m_X7_drift; rw [if_neg (nlt_cg rfl rfl c1), if_pos (le_cg rfl rfl c5), if_pos (eq_cg m11 rfl c12), if_neg (nle_cg m15 rfl c16)]).trans (congrArg (fun q => (q, AB ad F)) rfl))
      exact hret 39 _ _ _ _ _ dX7_drift_39 rfl hP hS ⟨hW, hFr, ⟨trivial, hM.symm.trans hE41⟩⟩
    have k42 := ci_ne (nI_toInt (n := b10) (Nat.lt_of_le_of_lt hb10 (by decide))) z_ti c12
    refine lv_ldc (v := (-1000000003)) S.1 S.2.1 S.2.2.2.1 (S.2.2.2.2 (.constant RX7 181 (-1000000003)) (am_at in_wsX7_drift_0 1 rfl)) dX7_drift_21 ?_
    have hE43 : M = ((-1000000003), AB ad F) := hM.trans ((show m_X7_drift (AB ad F) (nI j7) = (((-1000000003) : Int32), (AB ad F)) from by unfold m_X7_drift; rw [if_neg (nlt_cg rfl rfl c1), if_pos (le_cg rfl rfl c5), if_neg (neq_cg m11 rfl c12)]).trans (congrArg (fun q => (q, AB ad F)) rfl))
    exact hret 23 _ _ _ _ _ dX7_drift_23 rfl hP hS ⟨hW, hFr, ⟨trivial, hM.symm.trans hE43⟩⟩
  have k44 := ci_nle rfl (nI_toInt (n := 40) (by decide)) c5
  refine lv_ldc (v := (-1000000002)) S.1 S.2.1 S.2.2.2.1 (S.2.2.2.2 (.constant RX7 79 (-1000000002)) (am_at in_wsX7_drift_0 0 rfl)) dX7_drift_11 ?_
  have hE45 : M = ((-1000000002), AB ad F) := hM.trans ((show m_X7_drift (AB ad F) p1 = (((-1000000002) : Int32), (AB ad F)) from by unfold m_X7_drift; rw [if_neg (nlt_cg rfl rfl c1), if_neg (nle_cg rfl rfl c5)]).trans (congrArg (fun q => (q, AB ad F)) rfl))
  exact hret 13 _ _ _ _ _ dX7_drift_13 rfl hP hS ⟨hW, hFr, ⟨trivial, hM.symm.trans hE45⟩⟩
noncomputable def m_X7_undo_7 (σ : SS) : Int32 × SS :=
  ((σ 4 1), σ)
noncomputable def m_X7_undo (σ : SS) : Int32 × SS :=
  if (σ 4 1) = (0 : Int32) then
    (((-1000000003) : Int32), σ)
  else
    m_X7_undo_7 (m_X2_pop σ 3)
set_option maxHeartbeats 4000000 in
set_option maxRecDepth 100000 in
theorem c_X7_undo (l : Launch) (D : va_G) (cA ad : Nat → Nat) (t : Nat) (hI : rI ad) (F : Nat → va_E) (hW : WT cA ad F) : MI l D cA ad t yX7_undo wsX7_undo { frames := 2, cells := 0, slots := 0, locals := 42 } [.ref (ad 0)] F (fun r F' => WT cA ad F' ∧ rFr [3, 4] F F' ∧ ((True) ∧ m_X7_undo (AB ad F) = (r, AB ad F'))) := by
  refine en_I rfl (by decide +kernel) (Nat.le_of_ble_eq_true rfl) ?_
  intro p e s m args below meth c ls0 Q S hK hZ hP hS hl0 hret
  have hl0 : lv_has ls0 1 [(0, .ref (ad 0))] := hl0
  have hFr : rFr [3, 4] F F := rFr.rf
  have hiX2 : ∀ w ∈ u_ws RX2 TX2 2, w ∈ wsX7_undo := in_wsX7_undo_2
  have hiX7 : ∀ w ∈ u_ws RX7 TX7 15, w ∈ wsX7_undo := in_wsX7_undo_1
  obtain ⟨M, hM⟩ : ∃ M, M = m_X7_undo (AB ad F) := ⟨_, rfl⟩
  refine lv_aload_n S.1 S.2.1 dX7_undo_0 rfl (lv_at hl0 0 rfl) ?_
  obtain ⟨c1, d1, k1, dr1, hF1, hc1, hd1, hk1⟩ := wt_main hW
  refine r_get S hK hP 0 (by decide) hF1 (C := RX7) (T := TX7) (N := 15) hiX7 rfl 2 (by decide) (am_at in_wsX7_undo_0 0 rfl) (v := .ref (ad 4)) rfl dX7_undo_1 ?_
  obtain ⟨k2, hF2, hk2⟩ := wt_past hW
  refine r_get S hK hP 4 (by decide) hF2 (C := RX2) (T := TX2) (N := 2) hiX2 rfl 1 (by decide) (am_at in_wsX7_undo_0 1 rfl) (v := .int (nI k2)) rfl dX7_undo_4 ?_
  have m3 : ((AB ad F) 4 1) = (nI k2) := AB_f hF2 rfl
  refine lv_if_ne (tgt := 13) S.1 S.2.1 dX7_undo_7 (by decide) (fun c4 => ?_) (fun c4 => ?_)
  · skip
    have k5 := ci_ne (nI_toInt (n := k2) (by omega)) z_ti c4
    refine lv_aload_n S.1 S.2.1 dX7_undo_13 rfl (lv_at hl0 0 rfl) ?_
    refine r_get S hK hP 0 (by decide) hF1 (C := RX7) (T := TX7) (N := 15) hiX7 rfl 2 (by decide) (am_at in_wsX7_undo_0 0 rfl) (v := .ref (ad 4)) rfl dX7_undo_14 ?_
    refine lv_aload_n S.1 S.2.1 dX7_undo_17 rfl (lv_at hl0 0 rfl) ?_
    refine r_get S hK hP 0 (by decide) hF1 (C := RX7) (T := TX7) (N := 15) hiX7 rfl 1 (by decide) (am_at in_wsX7_undo_0 3 rfl) (v := .ref (ad 3)) rfl dX7_undo_18 ?_
    refine r_cVv (As := [.ref (ad 3)]) (rest := []) S hK hZ hP hS hl0.1 4 (by decide) hF2 (C := RX2) rfl (c_X2_pop l D cA ad t hI F hW 3 (show isJ 3 from Or.inl rfl)) (cwV 1 S.2.2.2.2 gX7_undo_X2_pop rfl rfl rfl (by decide +kernel) ⟨Nat.le_of_ble_eq_true rfl, Nat.le_of_ble_eq_true rfl⟩) rfl rfl (Nat.le_of_ble_eq_true rfl) ⟨Nat.zero_le _, Nat.zero_le _⟩ dX7_undo_21 (fun F6 H6 locs6 hr6 hP6 hS6 => ?_)
    obtain ⟨hW6, hFc6, hr6⟩ := hr6
    obtain ⟨hr6, hm6⟩ := hr6
    have hFr6 := hFr.tr hFc6 (by simp <;> first | omega | (simp only [isC, isJ] at *; omega))
    have hE8 : M = m_X7_undo_7 (AB ad F6) := hM.trans ((show m_X7_undo (AB ad F) = m_X7_undo_7 (m_X2_pop (AB ad F) 3) from by unfold m_X7_undo; rw [if_neg (neq_cg m3 rfl c4)]).trans (congrArg (m_X7_undo_7) ((congr (Eq.refl (m_X2_pop (AB ad F))) (Eq.refl 3)).trans hm6)))
    refine lv_aload_n S.1 S.2.1 dX7_undo_24 rfl (lv_at hl0 0 rfl) ?_
    have hF9 := (hFc6 0 (by decide)).trans hF1
    refine r_get S hK hP6 0 (by decide) hF9 (C := RX7) (T := TX7) (N := 15) hiX7 rfl 2 (by decide) (am_at in_wsX7_undo_0 0 rfl) (v := .ref (ad 4)) rfl dX7_undo_25 ?_
    obtain ⟨k10, hF10, hk10⟩ := wt_past hW6
    refine r_get S hK hP6 4 (by decide) hF10 (C := RX2) (T := TX2) (N := 2) hiX2 rfl 1 (by decide) (am_at in_wsX7_undo_0 1 rfl) (v := .int (nI k10)) rfl dX7_undo_28 ?_
    have m11 : ((AB ad F6) 4 1) = (nI k10) := AB_f hF10 rfl
    have hE12 : M = ((nI k10), AB ad F6) := hE8.trans ((show m_X7_undo_7 (AB ad F6) = (((AB ad F6) 4 1), (AB ad F6)) from rfl).trans (congrArg (fun q => (q, AB ad F6)) m11))
    exact hret 31 _ _ _ _ _ dX7_undo_31 rfl hP6 hS6 ⟨hW6, hFr6, ⟨trivial, hM.symm.trans hE12⟩⟩
  have k13 := ci_eq (nI_toInt (n := k2) (by omega)) z_ti c4
  refine lv_ldc (v := (-1000000003)) S.1 S.2.1 S.2.2.2.1 (S.2.2.2.2 (.constant RX7 181 (-1000000003)) (am_at in_wsX7_undo_0 2 rfl)) dX7_undo_10 ?_
  have hE14 : M = ((-1000000003), AB ad F) := hM.trans ((show m_X7_undo (AB ad F) = (((-1000000003) : Int32), (AB ad F)) from by unfold m_X7_undo; rw [if_pos (eq_cg m3 rfl c4)]).trans (congrArg (fun q => (q, AB ad F)) rfl))
  exact hret 12 _ _ _ _ _ dX7_undo_12 rfl hP hS ⟨hW, hFr, ⟨trivial, hM.symm.trans hE14⟩⟩
noncomputable def m_X7_may (σ : SS) (a0 : Int32) : Int32 :=
  if a0 = (0 : Int32) then
    if (m_X7_cannotGoOn σ) = (0 : Int32) then
      (m_X1_walks σ 3 (rl (σ 0 11)))
    else
      ((-1000000003) : Int32)
  else
    if a0 = (nI 1) then
      if (m_X7_cannotGoOn σ) = (0 : Int32) then
        if (m_X1_mayStay σ 3 (rl (σ 0 11))) = (0 : Int32) then
          (nI 0)
        else
          (nI 1)
      else
        ((-1000000003) : Int32)
    else
      ((-1000000002) : Int32)
set_option maxHeartbeats 4000000 in
set_option maxRecDepth 100000 in
theorem c_X7_may (l : Launch) (D : va_G) (cA ad : Nat → Nat) (t : Nat) (hI : rI ad) (F : Nat → va_E) (hW : WT cA ad F) (p1 : Int32) : MP l D cA ad t yX7_may wsX7_may { frames := 3, cells := 0, slots := 0, locals := 67 } [.ref (ad 0), .int p1] F (fun r => (True) ∧ m_X7_may (AB ad F) p1 = r) := by
  refine en_P rfl (by decide +kernel) (Nat.le_of_ble_eq_true rfl) ?_
  intro p e s m args below meth c ls0 Q S hK hZ hP hS hl0 hret
  have hl0 : lv_has ls0 2 [(0, .ref (ad 0)), (1, .int p1)] := hl0
  have hiX7 : ∀ w ∈ u_ws RX7 TX7 15, w ∈ wsX7_may := in_wsX7_may_2
  obtain ⟨M, hM⟩ : ∃ M, M = m_X7_may (AB ad F) p1 := ⟨_, rfl⟩
  refine lv_iload_n S.1 S.2.1 dX7_may_0 rfl (lv_at hl0 1 rfl) ?_
  refine lv_if_eq (tgt := 12) S.1 S.2.1 dX7_may_1 (by decide) (fun c1 => ?_) (fun c1 => ?_)
  · skip
    have k2 := ci_eq rfl z_ti c1
    refine lv_aload_n S.1 S.2.1 dX7_may_12 rfl (lv_at hl0 0 rfl) ?_
    obtain ⟨c4, d4, k4, dr4, hF4, hc4, hd4, hk4⟩ := wt_main hW
    refine r_cVp (As := []) (rest := []) S hK hZ hP hS hl0.1 0 (by decide) hF4 (C := RX7) rfl (c_X7_cannotGoOn l D cA ad t hI F hW ) (cwV 0 S.2.2.2.2 gX7_may_X7_cannotGoOn rfl rfl rfl (by decide +kernel) ⟨Nat.le_of_ble_eq_true rfl, Nat.le_of_ble_eq_true rfl⟩) rfl rfl (Nat.le_of_ble_eq_true rfl) ⟨Nat.zero_le _, Nat.zero_le _⟩ dX7_may_13 (fun r3 hr3 => ?_)
    obtain ⟨hr3, hm3⟩ := hr3
    obtain ⟨b5, hb5, rfl⟩ := hr3
    have m6 : (m_X7_cannotGoOn (AB ad F)) = (nI b5) := (Eq.refl (m_X7_cannotGoOn (AB ad F))).trans hm3
    refine lv_if_eq (tgt := 22) S.1 S.2.1 dX7_may_16 (by decide) (fun c7 => ?_) (fun c7 => ?_)
    · skip
      have k8 := ci_eq (nI_toInt (n := b5) (Nat.lt_of_le_of_lt hb5 (by decide))) z_ti c7
      refine lv_iload_n S.1 S.2.1 dX7_may_22 rfl (lv_at hl0 1 rfl) ?_
      refine lv_if_ne (tgt := 38) S.1 S.2.1 dX7_may_23 (by decide) (fun c9 => absurd c1 c9) (fun c9 => ?_)
      have k10 := ci_eq rfl z_ti c9
      refine lv_aload_n S.1 S.2.1 dX7_may_26 rfl (lv_at hl0 0 rfl) ?_
      refine r_get S hK hP 0 (by decide) hF4 (C := RX7) (T := TX7) (N := 15) hiX7 rfl 1 (by decide) (am_at in_wsX7_may_0 2 rfl) (v := .ref (ad 3)) rfl dX7_may_27 ?_
      refine lv_aload_n S.1 S.2.1 dX7_may_30 rfl (lv_at hl0 0 rfl) ?_
      refine r_get S hK hP 0 (by decide) hF4 (C := RX7) (T := TX7) (N := 15) hiX7 rfl 11 (by decide) (am_at in_wsX7_may_0 3 rfl) (v := .ref (ad c4)) rfl dX7_may_31 ?_
      have m11 : (rl ((AB ad F) 0 11)) = c4 := AB_r hI (lt_C hc4) hF4 rfl
      obtain ⟨ja13, jb13, jc13, jd13, jx13, jy13, jk13, hF13, hk13⟩ := wt_J hW (show isJ 3 from Or.inl rfl)
      refine r_cVp (As := [.ref (ad c4)]) (rest := []) S hK hZ hP hS hl0.1 3 (by decide) hF13 (C := RX1) rfl (c_X1_walks l D cA ad t hI F hW 3 (show isJ 3 from Or.inl rfl) c4 hc4) (cwV 1 S.2.2.2.2 gX7_may_X1_walks rfl rfl rfl (by decide +kernel) ⟨Nat.le_of_ble_eq_true rfl, Nat.le_of_ble_eq_true rfl⟩) rfl rfl (Nat.le_of_ble_eq_true rfl) ⟨Nat.zero_le _, Nat.zero_le _⟩ dX7_may_34 (fun r12 hr12 => ?_)
      obtain ⟨hr12, hm12⟩ := hr12
      have m14 : (m_X1_walks (AB ad F) 3 (rl ((AB ad F) 0 11))) = r12 := (congr (congr (Eq.refl (m_X1_walks (AB ad F))) (Eq.refl 3)) m11).trans hm12
      have hE15 : M = r12 := hM.trans ((show m_X7_may (AB ad F) p1 = (m_X1_walks (AB ad F) 3 (rl ((AB ad F) 0 11))) from by unfold m_X7_may; rw [if_pos (eq_cg rfl rfl c1), if_pos (eq_cg m6 rfl c7)]).trans m14)
      exact hret 37 _ _ dX7_may_37 rfl (⟨trivial, hM.symm.trans hE15⟩)
    have k16 := ci_ne (nI_toInt (n := b5) (Nat.lt_of_le_of_lt hb5 (by decide))) z_ti c7
    refine lv_ldc (v := (-1000000003)) S.1 S.2.1 S.2.2.2.1 (S.2.2.2.2 (.constant RX7 181 (-1000000003)) (am_at in_wsX7_may_0 1 rfl)) dX7_may_19 ?_
    have hE17 : M = (-1000000003) := hM.trans ((show m_X7_may (AB ad F) p1 = ((-1000000003) : Int32) from by unfold m_X7_may; rw [if_pos (eq_cg rfl rfl c1), if_neg (neq_cg m6 rfl c7)]).trans rfl)
    exact hret 21 _ _ dX7_may_21 rfl (⟨trivial, hM.symm.trans hE17⟩)
  have k18 := ci_ne rfl z_ti c1
  refine lv_iload_n S.1 S.2.1 dX7_may_4 rfl (lv_at hl0 1 rfl) ?_
  refine lv_iconst (v := (nI 1)) S.1 S.2.1 dX7_may_5 (by decide +kernel) ?_
  refine lv_icmp_eq (tgt := 12) S.1 S.2.1 dX7_may_6 (by decide) (fun c19 => ?_) (fun c19 => ?_)
  · skip
    have k20 := ci_eq rfl (nI_toInt (n := 1) (by decide)) c19
    refine lv_aload_n S.1 S.2.1 dX7_may_12 rfl (lv_at hl0 0 rfl) ?_
    obtain ⟨c22, d22, k22, dr22, hF22, hc22, hd22, hk22⟩ := wt_main hW
    refine r_cVp (As := []) (rest := []) S hK hZ hP hS hl0.1 0 (by decide) hF22 (C := RX7) rfl (c_X7_cannotGoOn l D cA ad t hI F hW ) (cwV 0 S.2.2.2.2 gX7_may_X7_cannotGoOn rfl rfl rfl (by decide +kernel) ⟨Nat.le_of_ble_eq_true rfl, Nat.le_of_ble_eq_true rfl⟩) rfl rfl (Nat.le_of_ble_eq_true rfl) ⟨Nat.zero_le _, Nat.zero_le _⟩ dX7_may_13 (fun r21 hr21 => ?_)
    obtain ⟨hr21, hm21⟩ := hr21
    obtain ⟨b23, hb23, rfl⟩ := hr21
    have m24 : (m_X7_cannotGoOn (AB ad F)) = (nI b23) := (Eq.refl (m_X7_cannotGoOn (AB ad F))).trans hm21
    refine lv_if_eq (tgt := 22) S.1 S.2.1 dX7_may_16 (by decide) (fun c25 => ?_) (fun c25 => ?_)
    · skip
      have k26 := ci_eq (nI_toInt (n := b23) (Nat.lt_of_le_of_lt hb23 (by decide))) z_ti c25
      refine lv_iload_n S.1 S.2.1 dX7_may_22 rfl (lv_at hl0 1 rfl) ?_
      refine lv_if_ne (tgt := 38) S.1 S.2.1 dX7_may_23 (by decide) (fun c27 => ?_) (fun c27 => absurd c27 c1)
      have k28 := ci_ne rfl z_ti c27
      refine lv_aload_n S.1 S.2.1 dX7_may_38 rfl (lv_at hl0 0 rfl) ?_
      refine r_get S hK hP 0 (by decide) hF22 (C := RX7) (T := TX7) (N := 15) hiX7 rfl 1 (by decide) (am_at in_wsX7_may_0 2 rfl) (v := .ref (ad 3)) rfl dX7_may_39 ?_
      refine lv_aload_n S.1 S.2.1 dX7_may_42 rfl (lv_at hl0 0 rfl) ?_
      refine r_get S hK hP 0 (by decide) hF22 (C := RX7) (T := TX7) (N := 15) hiX7 rfl 11 (by decide) (am_at in_wsX7_may_0 3 rfl) (v := .ref (ad c22)) rfl dX7_may_43 ?_
      have m29 : (rl ((AB ad F) 0 11)) = c22 := AB_r hI (lt_C hc22) hF22 rfl
      obtain ⟨ja31, jb31, jc31, jd31, jx31, jy31, jk31, hF31, hk31⟩ := wt_J hW (show isJ 3 from Or.inl rfl)
      refine r_cVp (As := [.ref (ad c22)]) (rest := []) S hK hZ hP hS hl0.1 3 (by decide) hF31 (C := RX1) rfl (c_X1_mayStay l D cA ad t hI F hW 3 (show isJ 3 from Or.inl rfl) c22 hc22) (cwV 1 S.2.2.2.2 gX7_may_X1_mayStay rfl rfl rfl (by decide +kernel) ⟨Nat.le_of_ble_eq_true rfl, Nat.le_of_ble_eq_true rfl⟩) rfl rfl (Nat.le_of_ble_eq_true rfl) ⟨Nat.zero_le _, Nat.zero_le _⟩ dX7_may_46 (fun r30 hr30 => ?_)
      obtain ⟨hr30, hm30⟩ := hr30
      obtain ⟨b32, hb32, rfl⟩ := hr30
      have m33 : (m_X1_mayStay (AB ad F) 3 (rl ((AB ad F) 0 11))) = (nI b32) := (congr (congr (Eq.refl (m_X1_mayStay (AB ad F))) (Eq.refl 3)) m29).trans hm30
      refine lv_if_eq (tgt := 56) S.1 S.2.1 dX7_may_49 (by decide) (fun c34 => ?_) (fun c34 => ?_)
      · skip
        have k35 := ci_eq (nI_toInt (n := b32) (Nat.lt_of_le_of_lt hb32 (by decide))) z_ti c34
        refine lv_iconst (v := (nI 0)) S.1 S.2.1 dX7_may_56 (by decide +kernel) ?_
        have hE36 : M = (nI 0) := hM.trans ((show m_X7_may (AB ad F) p1 = (nI 0) from by unfold m_X7_may; rw [if_neg (neq_cg rfl rfl c1), if_pos (eq_cg rfl rfl c19), if_pos (eq_cg m24 rfl c25), if_pos (eq_cg m33 rfl c34)]).trans rfl)
        exact hret 57 _ _ dX7_may_57 rfl (⟨trivial, hM.symm.trans hE36⟩)
      have k37 := ci_ne (nI_toInt (n := b32) (Nat.lt_of_le_of_lt hb32 (by decide))) z_ti c34
      refine lv_iconst (v := (nI 1)) S.1 S.2.1 dX7_may_52 (by decide +kernel) ?_
      refine lv_goto (tgt := 57) S.1 S.2.1 dX7_may_53 (by decide) ?_
      have hE38 : M = (nI 1) := hM.trans ((show m_X7_may (AB ad F) p1 = (nI 1) from by unfold m_X7_may; rw [if_neg (neq_cg rfl rfl c1), if_pos (eq_cg rfl rfl c19), if_pos (eq_cg m24 rfl c25), if_neg (neq_cg m33 rfl c34)]).trans rfl)
      exact hret 57 _ _ dX7_may_57 rfl (⟨trivial, hM.symm.trans hE38⟩)
    have k39 := ci_ne (nI_toInt (n := b23) (Nat.lt_of_le_of_lt hb23 (by decide))) z_ti c25
    refine lv_ldc (v := (-1000000003)) S.1 S.2.1 S.2.2.2.1 (S.2.2.2.2 (.constant RX7 181 (-1000000003)) (am_at in_wsX7_may_0 1 rfl)) dX7_may_19 ?_
    have hE40 : M = (-1000000003) := hM.trans ((show m_X7_may (AB ad F) p1 = ((-1000000003) : Int32) from by unfold m_X7_may; rw [if_neg (neq_cg rfl rfl c1), if_pos (eq_cg rfl rfl c19), if_neg (neq_cg m24 rfl c25)]).trans rfl)
    exact hret 21 _ _ dX7_may_21 rfl (⟨trivial, hM.symm.trans hE40⟩)
  have k41 := ci_ne rfl (nI_toInt (n := 1) (by decide)) c19
  refine lv_ldc (v := (-1000000002)) S.1 S.2.1 S.2.2.2.1 (S.2.2.2.2 (.constant RX7 79 (-1000000002)) (am_at in_wsX7_may_0 0 rfl)) dX7_may_9 ?_
  have hE42 : M = (-1000000002) := hM.trans ((show m_X7_may (AB ad F) p1 = ((-1000000002) : Int32) from by unfold m_X7_may; rw [if_neg (neq_cg rfl rfl c1), if_neg (neq_cg rfl rfl c19)]).trans rfl)
  exact hret 11 _ _ dX7_may_11 rfl (⟨trivial, hM.symm.trans hE42⟩)
noncomputable def m_X7_reach_L57_25_b (k0 : SS → Int32 → Int32 → Int32 → Int32 × SS) (σ : SS) (a0 : Int32) (a1 : Int32) (a2 : Int32) : Int32 × SS :=
  if (σ (rl (σ 0 11)) 2) ≤ a0 then
    (((-1) : Int32), σ)
  else
    if ((a1 >>> (a2 &&& 31)) &&& (nI 1)) = (0 : Int32) then
      k0 σ (a0 + Int32.ofInt (1)) (a1 ||| (m_X7_exitsOf σ a1 45)) a2
    else
      (a0, σ)
noncomputable def m_X7_reach_L57_25 : Nat → SS → Int32 → Int32 → Int32 → Int32 × SS
  | 0 => fun σ _ _ _ => (0, σ)
  | n + 1 => m_X7_reach_L57_25_b (m_X7_reach_L57_25 n)
noncomputable def m_X7_reach_16 (σ : SS) (a0 : Int32) : Int32 × SS :=
  m_X7_reach_L57_25 2000 σ (nI 0) ((nI 1) <<< ((σ 3 0) &&& 31)) a0
noncomputable def m_X7_reach (σ : SS) (a0 : Int32) : Int32 × SS :=
  if (m_X0_hasTown σ (rl (σ 0 11)) a0) = (0 : Int32) then
    (((-1000000001) : Int32), σ)
  else
    if (σ 3 6) = (0 : Int32) then
      m_X7_reach_16 (m_X0_fillExits σ (rl (σ 0 11)) 45 (σ 3 5)) a0
    else
      (((-1000000003) : Int32), σ)
set_option maxHeartbeats 4000000 in
set_option maxRecDepth 100000 in
theorem c_X7_reach (l : Launch) (D : va_G) (cA ad : Nat → Nat) (t : Nat) (hI : rI ad) (F : Nat → va_E) (hW : WT cA ad F) (p1 : Int32) : MI l D cA ad t yX7_reach wsX7_reach { frames := 3, cells := 0, slots := 0, locals := 69 } [.ref (ad 0), .int p1] F (fun r F' => WT cA ad F' ∧ rFr [45] F F' ∧ ((True) ∧ m_X7_reach (AB ad F) p1 = (r, AB ad F'))) := by
  refine en_I rfl (by decide +kernel) (Nat.le_of_ble_eq_true rfl) ?_
  intro p e s m args below meth c ls0 Q S hK hZ hP hS hl0 hret
  have hl0 : lv_has ls0 4 [(0, .ref (ad 0)), (1, .int p1)] := hl0
  have hFr : rFr [45] F F := rFr.rf
  have hiX0 : ∀ w ∈ u_ws RX0 TX0 10, w ∈ wsX7_reach := in_wsX7_reach_4
  have hiX1 : ∀ w ∈ u_ws RX1 TX1 7, w ∈ wsX7_reach := in_wsX7_reach_3
  have hiX7 : ∀ w ∈ u_ws RX7 TX7 15, w ∈ wsX7_reach := in_wsX7_reach_2
  obtain ⟨M, hM⟩ : ∃ M, M = m_X7_reach (AB ad F) p1 := ⟨_, rfl⟩
  refine lv_aload_n S.1 S.2.1 dX7_reach_0 rfl (lv_at hl0 0 rfl) ?_
  obtain ⟨c1, d1, k1, dr1, hF1, hc1, hd1, hk1⟩ := wt_main hW
  refine r_get S hK hP 0 (by decide) hF1 (C := RX7) (T := TX7) (N := 15) hiX7 rfl 11 (by decide) (am_at in_wsX7_reach_0 0 rfl) (v := .ref (ad c1)) rfl dX7_reach_1 ?_
  have m2 : (rl ((AB ad F) 0 11)) = c1 := AB_r hI (lt_C hc1) hF1 rfl
  refine lv_iload_n S.1 S.2.1 dX7_reach_4 rfl (lv_at hl0 1 rfl) ?_
  obtain ⟨sl4, fm4, tn4, rn4, bn4, hF4, hb4_1, hb4_2, hb4_3⟩ := wt_C hW hc1
  refine r_cVp (As := [.int p1]) (rest := []) S hK hZ hP hS hl0.1 c1 (lt_C hc1) hF4 (C := RX0) rfl (c_X0_hasTown l D cA ad t hI F hW c1 hc1 p1) (cwV 1 S.2.2.2.2 gX7_reach_X0_hasTown rfl rfl rfl (by decide +kernel) ⟨Nat.le_of_ble_eq_true rfl, Nat.le_of_ble_eq_true rfl⟩) rfl rfl (Nat.le_of_ble_eq_true rfl) ⟨Nat.zero_le _, Nat.zero_le _⟩ dX7_reach_5 (fun r3 hr3 => ?_)
  obtain ⟨hr3, hm3⟩ := hr3
  obtain ⟨⟨b5, hb5, rfl⟩, hx5⟩ := hr3
  have hx5 : b5 ≠ 0 → 0 ≤ p1.toInt ∧ p1.toInt ≤ _ := fun q => hx5 (nI_ne0 (by omega) (by omega))
  have m6 : (m_X0_hasTown (AB ad F) (rl ((AB ad F) 0 11)) p1) = (nI b5) := (congr (congr (Eq.refl (m_X0_hasTown (AB ad F))) m2) (Eq.refl (p1 : Int32))).trans hm3
  refine lv_if_ne (tgt := 14) S.1 S.2.1 dX7_reach_8 (by decide) (fun c7 => ?_) (fun c7 => ?_)
  · skip
    have k8 := ci_ne (nI_toInt (n := b5) (Nat.lt_of_le_of_lt hb5 (by decide))) z_ti c7
    refine lv_aload_n S.1 S.2.1 dX7_reach_14 rfl (lv_at hl0 0 rfl) ?_
    refine r_get S hK hP 0 (by decide) hF1 (C := RX7) (T := TX7) (N := 15) hiX7 rfl 1 (by decide) (am_at in_wsX7_reach_0 2 rfl) (v := .ref (ad 3)) rfl dX7_reach_15 ?_
    obtain ⟨ja9, jb9, jc9, jd9, jx9, jy9, jk9, hF9, hk9⟩ := wt_J hW (show isJ 3 from Or.inl rfl)
    refine r_get S hK hP 3 (by decide) hF9 (C := RX1) (T := TX1) (N := 7) hiX1 rfl 6 (by decide) (am_at in_wsX7_reach_0 3 rfl) (v := .int (nI jk9)) rfl dX7_reach_18 ?_
    have m10 : ((AB ad F) 3 6) = (nI jk9) := AB_f hF9 rfl
    refine lv_if_eq (tgt := 27) S.1 S.2.1 dX7_reach_21 (by decide) (fun c11 => ?_) (fun c11 => ?_)
    · skip
      have k12 := ci_eq (nI_toInt (n := jk9) (by omega)) z_ti c11
      refine lv_aload_n S.1 S.2.1 dX7_reach_27 rfl (lv_at hl0 0 rfl) ?_
      refine r_get S hK hP 0 (by decide) hF1 (C := RX7) (T := TX7) (N := 15) hiX7 rfl 11 (by decide) (am_at in_wsX7_reach_0 0 rfl) (v := .ref (ad c1)) rfl dX7_reach_28 ?_
      have m13 : (rl ((AB ad F) 0 11)) = c1 := AB_r hI (lt_C hc1) hF1 rfl
      refine lv_aload_n S.1 S.2.1 dX7_reach_31 rfl (lv_at hl0 0 rfl) ?_
      refine r_get S hK hP 0 (by decide) hF1 (C := RX7) (T := TX7) (N := 15) hiX7 rfl 10 (by decide) (am_at in_wsX7_reach_0 5 rfl) (v := .ref (ad 45)) rfl dX7_reach_32 ?_
      refine lv_aload_n S.1 S.2.1 dX7_reach_35 rfl (lv_at hl0 0 rfl) ?_
      refine r_get S hK hP 0 (by decide) hF1 (C := RX7) (T := TX7) (N := 15) hiX7 rfl 1 (by decide) (am_at in_wsX7_reach_0 2 rfl) (v := .ref (ad 3)) rfl dX7_reach_36 ?_
      refine r_get S hK hP 3 (by decide) hF9 (C := RX1) (T := TX1) (N := 7) hiX1 rfl 5 (by decide) (am_at in_wsX7_reach_0 6 rfl) (v := .int jy9) rfl dX7_reach_39 ?_
      have m14 : ((AB ad F) 3 5) = jy9 := AB_f hF9 rfl
      refine r_cVv (As := [.ref (ad 45), .int jy9]) (rest := []) S hK hZ hP hS hl0.1 c1 (lt_C hc1) hF4 (C := RX0) rfl (c_X0_fillExits l D cA ad t hI F hW c1 hc1 45 (show (45, 8) ∈ rLI by decide) (by decide) jy9) (cwV 2 S.2.2.2.2 gX7_reach_X0_fillExits rfl rfl rfl (by decide +kernel) ⟨Nat.le_of_ble_eq_true rfl, Nat.le_of_ble_eq_true rfl⟩) rfl rfl (Nat.le_of_ble_eq_true rfl) ⟨Nat.zero_le _, Nat.zero_le _⟩ dX7_reach_42 (fun F15 H15 locs15 hr15 hP15 hS15 => ?_)
      obtain ⟨hW15, hFc15, hr15⟩ := hr15
      obtain ⟨hr15, hm15⟩ := hr15
      have hFr15 := hFr.tr hFc15 (by simp <;> first | omega | (simp only [isC, isJ] at *; omega))
      have hE17 : M = m_X7_reach_16 (AB ad F15) p1 := hM.trans ((show m_X7_reach (AB ad F) p1 = m_X7_reach_16 (m_X0_fillExits (AB ad F) (rl ((AB ad F) 0 11)) 45 ((AB ad F) 3 5)) p1 from by unfold m_X7_reach; rw [if_neg (neq_cg m6 rfl c7), if_pos (eq_cg m10 rfl c11)]).trans (congr (congrArg (m_X7_reach_16) ((congr (congr (congr (Eq.refl (m_X0_fillExits (AB ad F))) m13) (Eq.refl 45)) m14).trans hm15)) (Eq.refl (p1 : Int32))))
      refine lv_iconst (v := (nI 1)) S.1 S.2.1 dX7_reach_45 (by decide +kernel) ?_
      refine lv_aload_n S.1 S.2.1 dX7_reach_46 rfl (lv_at hl0 0 rfl) ?_
      have hF18 := (hFc15 0 (by decide)).trans hF1
      refine r_get S hK hP15 0 (by decide) hF18 (C := RX7) (T := TX7) (N := 15) hiX7 rfl 1 (by decide) (am_at in_wsX7_reach_0 2 rfl) (v := .ref (ad 3)) rfl dX7_reach_47 ?_
      have hF19 := (hFc15 3 (by decide)).trans hF9
      refine r_get S hK hP15 3 (by decide) hF19 (C := RX1) (T := TX1) (N := 7) hiX1 rfl 0 (by decide) (am_at in_wsX7_reach_0 7 rfl) (v := .int ja9) rfl dX7_reach_50 ?_
      have m20 : ((AB ad F15) 3 0) = ja9 := AB_f hF19 rfl
      refine lv_ishl S.1 S.2.1 dX7_reach_53 ?_
      refine lv_topi (fun v21 e21 => ?_)
      have m22 : ((nI 1) <<< (((AB ad F15) 3 0) &&& 31)) = v21 := cg2 (fun (x : Int32) (y : Int32) => x <<< (y &&& 31)) (Eq.refl ((nI 1) : Int32)) m20 e21
      refine lv_istore_n (lv' := [(2, .int v21), (0, .ref (ad 0)), (1, .int p1)]) S.1 S.2.1 dX7_reach_54 rfl hl0 (by decide) rfl (fun ls23 hl23 => ?_)
      refine lv_iconst (v := (nI 0)) S.1 S.2.1 dX7_reach_55 (by decide +kernel) ?_
      refine lv_istore_n (lv' := [(3, .int (nI 0)), (2, .int v21), (0, .ref (ad 0)), (1, .int p1)]) S.1 S.2.1 dX7_reach_56 rfl hl23 (by decide) rfl (fun ls24 hl24 => ?_)
      have lp25 : ∀ (n25 : Nat) (q325 : Nat) (x25_2 : Int32), q325 ≤ 8 → 8 - q325 < n25 → M = m_X7_reach_L57_25 n25 (AB ad F15) (nI q325) x25_2 p1 → ∀ (ls : Array Slot), lv_has ls 4 [(3, .int (nI q325)), (2, .int x25_2), (0, .ref (ad 0)), (1, .int p1)] → W p l e { frames := 3, cells := 0, slots := 0, locals := 69 } s m args below meth c H15 locs15 0 0 Q (F0 m 57 ls []) := by
        intro n25
        induction n25 with
        | zero =>
          intro q325 x25_2 iv25_0 hm25 hEl25 ls25 hl25
          exact absurd hm25 (Nat.not_lt_zero _)
        | succ n25 ih25 =>
          intro q325 x25_2 iv25_0 hm25 hEl25 ls25 hl25
          have hE26 : M = m_X7_reach_L57_25_b (m_X7_reach_L57_25 n25) (AB ad F15) (nI q325) x25_2 p1 := hEl25
          refine lv_iload_n S.1 S.2.1 dX7_reach_57 rfl (lv_at hl25 0 rfl) ?_
          refine lv_aload_n S.1 S.2.1 dX7_reach_58 rfl (lv_at hl25 2 rfl) ?_
          refine r_get S hK hP15 0 (by decide) hF18 (C := RX7) (T := TX7) (N := 15) hiX7 rfl 11 (by decide) (am_at in_wsX7_reach_0 0 rfl) (v := .ref (ad c1)) rfl dX7_reach_59 ?_
          have m27 : (rl ((AB ad F15) 0 11)) = c1 := AB_r hI (lt_C hc1) hF18 rfl
          have hF28 := (hFc15 c1 (by have hh1 := hc1; unfold isC at hh1; simp only [List.mem_cons, List.not_mem_nil, or_false, not_or]; omega)).trans hF4
          refine r_get S hK hP15 c1 (lt_C hc1) hF28 (C := RX0) (T := TX0) (N := 10) hiX0 rfl 2 (by decide) (am_at in_wsX7_reach_0 8 rfl) (v := .int (nI tn4)) rfl dX7_reach_62 ?_
          have m29 : ((AB ad F15) (rl ((AB ad F15) 0 11)) 2) = (nI tn4) := (congrArg (fun q => AB ad F15 q 2) m27).trans (AB_f hF28 rfl)
          refine lv_icmp_ge (tgt := 95) S.1 S.2.1 dX7_reach_65 (by decide) (fun c30 => ?_) (fun c30 => ?_)
          · skip
            have k31 := ci_le (nI_toInt (n := tn4) (by omega)) (nI_toInt (n := q325) (by omega)) c30
            refine lv_iconst (v := (-1)) S.1 S.2.1 dX7_reach_95 (by decide +kernel) ?_
            have hE32 : M = ((-1), AB ad F15) := hE26.trans ((show m_X7_reach_L57_25_b (m_X7_reach_L57_25 n25) (AB ad F15) (nI q325) x25_2 p1 = (((-1) : Int32), (AB ad F15)) from by unfold m_X7_reach_L57_25_b; rw [if_pos (le_cg m29 rfl c30)]).trans (congrArg (fun q => (q, AB ad F15)) rfl))
            exact hret 96 _ _ _ _ _ dX7_reach_96 rfl hP15 hS15 ⟨hW15, hFr15, ⟨trivial, hM.symm.trans hE32⟩⟩
          have k33 := ci_nle (nI_toInt (n := tn4) (by omega)) (nI_toInt (n := q325) (by omega)) c30
          refine lv_iload_n S.1 S.2.1 dX7_reach_68 rfl (lv_at hl25 1 rfl) ?_
          refine lv_iload_n S.1 S.2.1 dX7_reach_69 rfl (lv_at hl25 3 rfl) ?_
          refine lv_ishr S.1 S.2.1 dX7_reach_70 ?_
          refine lv_topi (fun v34 e34 => ?_)
          have m35 : (x25_2 >>> (p1 &&& 31)) = v34 := cg2 (fun (x : Int32) (y : Int32) => x >>> (y &&& 31)) (Eq.refl (x25_2 : Int32)) (Eq.refl (p1 : Int32)) e34
          refine lv_iconst (v := (nI 1)) S.1 S.2.1 dX7_reach_71 (by decide +kernel) ?_
          refine lv_iand S.1 S.2.1 dX7_reach_72 ?_
          refine lv_topi (fun v36 e36 => ?_)
          have m37 : ((x25_2 >>> (p1 &&& 31)) &&& (nI 1)) = v36 := cg2 (fun (x : Int32) (y : Int32) => x &&& y) m35 (Eq.refl ((nI 1) : Int32)) e36
          refine lv_if_eq (tgt := 78) S.1 S.2.1 dX7_reach_73 (by decide) (fun c38 => ?_) (fun c38 => ?_)
          · skip
            have k39 := ci_eq rfl z_ti c38
            refine lv_iload_n S.1 S.2.1 dX7_reach_78 rfl (lv_at hl25 1 rfl) ?_
            refine lv_iload_n S.1 S.2.1 dX7_reach_79 rfl (lv_at hl25 1 rfl) ?_
            refine lv_aload_n S.1 S.2.1 dX7_reach_80 rfl (lv_at hl25 2 rfl) ?_
            refine r_get S hK hP15 0 (by decide) hF18 (C := RX7) (T := TX7) (N := 15) hiX7 rfl 10 (by decide) (am_at in_wsX7_reach_0 5 rfl) (v := .ref (ad 45)) rfl dX7_reach_81 ?_
            refine r_cSp (As := [.int x25_2, .ref (ad 45)]) (rest := [.int x25_2]) S hK hZ hP15 hS15 hl25.1 (c_X7_exitsOf l D cA ad t hI F15 hW15 x25_2 45 (show (45, 8) ∈ rLI by decide) (by decide)) (va_cwS 2 S.2.2.2.2 gX7_reach_X7_exitsOf rfl rfl rfl (by decide +kernel) ⟨Nat.le_of_ble_eq_true rfl, Nat.le_of_ble_eq_true rfl⟩) rfl rfl (Nat.le_of_ble_eq_true rfl) ⟨Nat.zero_le _, Nat.zero_le _⟩ dX7_reach_84 (fun r40 hr40 => ?_)
            obtain ⟨hr40, hm40⟩ := hr40
            have m41 : (m_X7_exitsOf (AB ad F15) x25_2 45) = r40 := (congr (congr (Eq.refl (m_X7_exitsOf (AB ad F15))) (Eq.refl (x25_2 : Int32))) (Eq.refl 45)).trans hm40
            refine lv_ior S.1 S.2.1 dX7_reach_87 ?_
            refine lv_topi (fun v42 e42 => ?_)
            have m43 : (x25_2 ||| (m_X7_exitsOf (AB ad F15) x25_2 45)) = v42 := cg2 (fun (x : Int32) (y : Int32) => x ||| y) (Eq.refl (x25_2 : Int32)) m41 e42
            refine lv_istore_n (lv' := [(2, .int v42), (3, .int (nI q325)), (0, .ref (ad 0)), (1, .int p1)]) S.1 S.2.1 dX7_reach_88 rfl hl25 (by decide) rfl (fun ls44 hl44 => ?_)
            have m46 : ((nI q325) + Int32.ofInt (1)) = (nI (q325 + 1)) := (congrArg (fun q : Int32 => q + Int32.ofInt (1)) rfl).trans (nI_add _ 1)
            refine lv_iinc (v := (nI (q325 + 1))) (lv' := [(3, .int (nI (q325 + 1))), (2, .int v42), (0, .ref (ad 0)), (1, .int p1)]) S.1 S.2.1 dX7_reach_89 hl44 (k := 1) rfl (nI_add _ 1) (by decide) rfl (fun ls45 hl45 => ?_)
            refine lv_goto (tgt := 57) S.1 S.2.1 dX7_reach_92 (by decide) ?_
            have hE47 : M = (m_X7_reach_L57_25 n25) (AB ad F15) (nI (q325 + 1)) v42 p1 := hE26.trans ((show m_X7_reach_L57_25_b (m_X7_reach_L57_25 n25) (AB ad F15) (nI q325) x25_2 p1 = (m_X7_reach_L57_25 n25) (AB ad F15) ((nI q325) + Int32.ofInt (1)) (x25_2 ||| (m_X7_exitsOf (AB ad F15) x25_2 45)) p1 from by unfold m_X7_reach_L57_25_b; rw [if_neg (nle_cg m29 rfl c30), if_pos (eq_cg m37 rfl c38)]).trans (congr (congr (congr (congrArg ((m_X7_reach_L57_25 n25)) (rfl : AB ad F15 = AB ad F15)) m46) m43) (Eq.refl (p1 : Int32))))
            exact ih25 (q325 + 1) (v42) (by omega) (by omega) hE47 ls45 (lv_sub hl45 [0, 1, 2, 3] rfl)
          have k48 := ci_ne rfl z_ti c38
          refine lv_iload_n S.1 S.2.1 dX7_reach_76 rfl (lv_at hl25 0 rfl) ?_
          have hE49 : M = ((nI q325), AB ad F15) := hE26.trans ((show m_X7_reach_L57_25_b (m_X7_reach_L57_25 n25) (AB ad F15) (nI q325) x25_2 p1 = ((nI q325), (AB ad F15)) from by unfold m_X7_reach_L57_25_b; rw [if_neg (nle_cg m29 rfl c30), if_neg (neq_cg m37 rfl c38)]).trans (congrArg (fun q => (q, AB ad F15)) rfl))
          exact hret 77 _ _ _ _ _ dX7_reach_77 rfl hP15 hS15 ⟨hW15, hFr15, ⟨trivial, hM.symm.trans hE49⟩⟩
      have hE50 : M = m_X7_reach_L57_25 2000 (AB ad F15) (nI 0) v21 p1 := hE17.trans ((show m_X7_reach_16 (AB ad F15) p1 = m_X7_reach_L57_25 2000 (AB ad F15) (nI 0) ((nI 1) <<< (((AB ad F15) 3 0) &&& 31)) p1 from rfl).trans (congr (congr (congr (congrArg (m_X7_reach_L57_25 2000) (rfl : AB ad F15 = AB ad F15)) (Eq.refl ((nI 0) : Int32))) m22) (Eq.refl (p1 : Int32))))
      exact lp25 2000 (0) (v21) (by omega) (by omega) hE50 ls24 (lv_sub hl24 [0, 1, 2, 3] rfl)
    have k51 := ci_ne (nI_toInt (n := jk9) (by omega)) z_ti c11
    refine lv_ldc (v := (-1000000003)) S.1 S.2.1 S.2.2.2.1 (S.2.2.2.2 (.constant RX7 181 (-1000000003)) (am_at in_wsX7_reach_0 4 rfl)) dX7_reach_24 ?_
    have hE52 : M = ((-1000000003), AB ad F) := hM.trans ((show m_X7_reach (AB ad F) p1 = (((-1000000003) : Int32), (AB ad F)) from by unfold m_X7_reach; rw [if_neg (neq_cg m6 rfl c7), if_neg (neq_cg m10 rfl c11)]).trans (congrArg (fun q => (q, AB ad F)) rfl))
    exact hret 26 _ _ _ _ _ dX7_reach_26 rfl hP hS ⟨hW, hFr, ⟨trivial, hM.symm.trans hE52⟩⟩
  have k53 := ci_eq (nI_toInt (n := b5) (Nat.lt_of_le_of_lt hb5 (by decide))) z_ti c7
  refine lv_ldc (v := (-1000000001)) S.1 S.2.1 S.2.2.2.1 (S.2.2.2.2 (.constant RX7 147 (-1000000001)) (am_at in_wsX7_reach_0 1 rfl)) dX7_reach_11 ?_
  have hE54 : M = ((-1000000001), AB ad F) := hM.trans ((show m_X7_reach (AB ad F) p1 = (((-1000000001) : Int32), (AB ad F)) from by unfold m_X7_reach; rw [if_pos (eq_cg m6 rfl c7)]).trans (congrArg (fun q => (q, AB ad F)) rfl))
  exact hret 13 _ _ _ _ _ dX7_reach_13 rfl hP hS ⟨hW, hFr, ⟨trivial, hM.symm.trans hE54⟩⟩
set_option maxHeartbeats 4000000 in
set_option maxRecDepth 100000 in
theorem c_X7_best (l : Launch) (D : va_G) (cA ad : Nat → Nat) (t : Nat) (hI : rI ad) (F : Nat → va_E) (hW : WT cA ad F) (p1 : Int32) (p2 : Int32) : MI l D cA ad t yX7_best wsX7_best { frames := 5, cells := 0, slots := 0, locals := 121 } [.ref (ad 0), .int p1, .int p2] F (fun r F' => WT cA ad F' ∧ rFr [45, 27] F F' ∧ (True)) := by
  refine en_I rfl (by decide +kernel) (Nat.le_of_ble_eq_true rfl) ?_
  intro p e s m args below meth c ls0 Q S hK hZ hP hS hl0 hret
  have hl0 : lv_has ls0 4 [(0, .ref (ad 0)), (1, .int p1), (2, .int p2)] := hl0
  have hFr : rFr [45, 27] F F := rFr.rf
  have hiX1 : ∀ w ∈ u_ws RX1 TX1 7, w ∈ wsX7_best := in_wsX7_best_5
  have hiX7 : ∀ w ∈ u_ws RX7 TX7 15, w ∈ wsX7_best := in_wsX7_best_4
  refine lv_iload_n S.1 S.2.1 dX7_best_0 rfl (lv_at hl0 1 rfl) ?_
  refine lv_iconst (v := (nI 1)) S.1 S.2.1 dX7_best_1 (by decide +kernel) ?_
  refine lv_icmp_lt (tgt := 21) S.1 S.2.1 dX7_best_2 (by decide) (fun c1 => ?_) (fun c1 => ?_)
  · skip
    have k2 := ci_lt rfl (nI_toInt (n := 1) (by decide)) c1
    refine lv_ldc (v := (-1000000002)) S.1 S.2.1 S.2.2.2.1 (S.2.2.2.2 (.constant RX7 79 (-1000000002)) (am_at in_wsX7_best_0 0 rfl)) dX7_best_21 ?_
    exact hret 23 _ _ _ _ _ dX7_best_23 rfl hP hS ⟨hW, hFr, trivial⟩
  have k3 := ci_nlt rfl (nI_toInt (n := 1) (by decide)) c1
  refine lv_iload_n S.1 S.2.1 dX7_best_5 rfl (lv_at hl0 1 rfl) ?_
  refine lv_bipush (v := (nI 36)) S.1 S.2.1 dX7_best_6 (by decide +kernel) ?_
  refine lv_icmp_gt (tgt := 21) S.1 S.2.1 dX7_best_8 (by decide) (fun c4 => ?_) (fun c4 => ?_)
  · skip
    have k5 := ci_lt (nI_toInt (n := 36) (by decide)) rfl c4
    refine lv_ldc (v := (-1000000002)) S.1 S.2.1 S.2.2.2.1 (S.2.2.2.2 (.constant RX7 79 (-1000000002)) (am_at in_wsX7_best_0 0 rfl)) dX7_best_21 ?_
    exact hret 23 _ _ _ _ _ dX7_best_23 rfl hP hS ⟨hW, hFr, trivial⟩
  have k6 := ci_nlt (nI_toInt (n := 36) (by decide)) rfl c4
  refine lv_iload_n S.1 S.2.1 dX7_best_11 rfl (lv_at hl0 2 rfl) ?_
  refine lv_iconst (v := (-1)) S.1 S.2.1 dX7_best_12 (by decide +kernel) ?_
  refine lv_icmp_lt (tgt := 21) S.1 S.2.1 dX7_best_13 (by decide) (fun c7 => ?_) (fun c7 => ?_)
  · skip
    have k8 := ci_lt rfl (show ((-1) : Int32).toInt = -1 by decide +kernel) c7
    refine lv_ldc (v := (-1000000002)) S.1 S.2.1 S.2.2.2.1 (S.2.2.2.2 (.constant RX7 79 (-1000000002)) (am_at in_wsX7_best_0 0 rfl)) dX7_best_21 ?_
    exact hret 23 _ _ _ _ _ dX7_best_23 rfl hP hS ⟨hW, hFr, trivial⟩
  have k9 := ci_nlt rfl (show ((-1) : Int32).toInt = -1 by decide +kernel) c7
  refine lv_iload_n S.1 S.2.1 dX7_best_16 rfl (lv_at hl0 2 rfl) ?_
  refine lv_iload_n S.1 S.2.1 dX7_best_17 rfl (lv_at hl0 1 rfl) ?_
  refine lv_icmp_lt (tgt := 24) S.1 S.2.1 dX7_best_18 (by decide) (fun c10 => ?_) (fun c10 => ?_)
  · skip
    have k11 := ci_lt rfl rfl c10
    obtain ⟨j12, hj12, rfl⟩ := nI_of_le (x := p1) (B := 36) (by omega) (by omega)
    have kj12 := nI_toInt (n := j12) (Nat.lt_of_le_of_lt hj12 (by decide))
    refine lv_aload_n S.1 S.2.1 dX7_best_24 rfl (lv_at hl0 0 rfl) ?_
    obtain ⟨c14, d14, k14, dr14, hF14, hc14, hd14, hk14⟩ := wt_main hW
    refine r_cVp (As := []) (rest := []) S hK hZ hP hS hl0.1 0 (by decide) hF14 (C := RX7) rfl (c_X7_cannotGoOn l D cA ad t hI F hW ) (cwV 0 S.2.2.2.2 gX7_best_X7_cannotGoOn rfl rfl rfl (by decide +kernel) ⟨Nat.le_of_ble_eq_true rfl, Nat.le_of_ble_eq_true rfl⟩) rfl rfl (Nat.le_of_ble_eq_true rfl) ⟨Nat.zero_le _, Nat.zero_le _⟩ dX7_best_25 (fun r13 hr13 => ?_)
    obtain ⟨hr13, hm13⟩ := hr13
    obtain ⟨b15, hb15, rfl⟩ := hr13
    refine lv_if_eq (tgt := 34) S.1 S.2.1 dX7_best_28 (by decide) (fun c16 => ?_) (fun c16 => ?_)
    · skip
      have k17 := ci_eq (nI_toInt (n := b15) (Nat.lt_of_le_of_lt hb15 (by decide))) z_ti c16
      refine lv_aload_n S.1 S.2.1 dX7_best_34 rfl (lv_at hl0 0 rfl) ?_
      refine r_get S hK hP 0 (by decide) hF14 (C := RX7) (T := TX7) (N := 15) hiX7 rfl 11 (by decide) (am_at in_wsX7_best_0 2 rfl) (v := .ref (ad c14)) rfl dX7_best_35 ?_
      refine lv_aload_n S.1 S.2.1 dX7_best_38 rfl (lv_at hl0 0 rfl) ?_
      refine r_get S hK hP 0 (by decide) hF14 (C := RX7) (T := TX7) (N := 15) hiX7 rfl 10 (by decide) (am_at in_wsX7_best_0 3 rfl) (v := .ref (ad 45)) rfl dX7_best_39 ?_
      refine lv_aload_n S.1 S.2.1 dX7_best_42 rfl (lv_at hl0 0 rfl) ?_
      refine r_get S hK hP 0 (by decide) hF14 (C := RX7) (T := TX7) (N := 15) hiX7 rfl 1 (by decide) (am_at in_wsX7_best_0 4 rfl) (v := .ref (ad 3)) rfl dX7_best_43 ?_
      obtain ⟨ja18, jb18, jc18, jd18, jx18, jy18, jk18, hF18, hk18⟩ := wt_J hW (show isJ 3 from Or.inl rfl)
      refine r_get S hK hP 3 (by decide) hF18 (C := RX1) (T := TX1) (N := 7) hiX1 rfl 5 (by decide) (am_at in_wsX7_best_0 5 rfl) (v := .int jy18) rfl dX7_best_46 ?_
      obtain ⟨sl20, fm20, tn20, rn20, bn20, hF20, hb20_1, hb20_2, hb20_3⟩ := wt_C hW hc14
      refine r_cVv (As := [.ref (ad 45), .int jy18]) (rest := []) S hK hZ hP hS hl0.1 c14 (lt_C hc14) hF20 (C := RX0) rfl (c_X0_fillExits l D cA ad t hI F hW c14 hc14 45 (show (45, 8) ∈ rLI by decide) (by decide) jy18) (cwV 2 S.2.2.2.2 gX7_best_X0_fillExits rfl rfl rfl (by decide +kernel) ⟨Nat.le_of_ble_eq_true rfl, Nat.le_of_ble_eq_true rfl⟩) rfl rfl (Nat.le_of_ble_eq_true rfl) ⟨Nat.zero_le _, Nat.zero_le _⟩ dX7_best_49 (fun F19 H19 locs19 hr19 hP19 hS19 => ?_)
      obtain ⟨hW19, hFc19, hr19⟩ := hr19
      obtain ⟨hr19, hm19⟩ := hr19
      have hFr19 := hFr.tr hFc19 (by simp <;> first | omega | (simp only [isC, isJ] at *; omega))
      refine lv_aload_n S.1 S.2.1 dX7_best_52 rfl (lv_at hl0 0 rfl) ?_
      have hF21 := (hFc19 0 (by decide)).trans hF14
      refine r_get S hK hP19 0 (by decide) hF21 (C := RX7) (T := TX7) (N := 15) hiX7 rfl 3 (by decide) (am_at in_wsX7_best_0 6 rfl) (v := .ref (ad 26)) rfl dX7_best_53 ?_
      refine lv_aload_n S.1 S.2.1 dX7_best_56 rfl (lv_at hl0 0 rfl) ?_
      refine r_get S hK hP19 0 (by decide) hF21 (C := RX7) (T := TX7) (N := 15) hiX7 rfl 11 (by decide) (am_at in_wsX7_best_0 2 rfl) (v := .ref (ad c14)) rfl dX7_best_57 ?_
      refine lv_aload_n S.1 S.2.1 dX7_best_60 rfl (lv_at hl0 0 rfl) ?_
      refine r_get S hK hP19 0 (by decide) hF21 (C := RX7) (T := TX7) (N := 15) hiX7 rfl 10 (by decide) (am_at in_wsX7_best_0 3 rfl) (v := .ref (ad 45)) rfl dX7_best_61 ?_
      refine lv_aload_n S.1 S.2.1 dX7_best_64 rfl (lv_at hl0 0 rfl) ?_
      refine r_get S hK hP19 0 (by decide) hF21 (C := RX7) (T := TX7) (N := 15) hiX7 rfl 1 (by decide) (am_at in_wsX7_best_0 4 rfl) (v := .ref (ad 3)) rfl dX7_best_65 ?_
      have hF22 := (hFc19 3 (by decide)).trans hF18
      refine r_get S hK hP19 3 (by decide) hF22 (C := RX1) (T := TX1) (N := 7) hiX1 rfl 1 (by decide) (am_at in_wsX7_best_0 7 rfl) (v := .int jb18) rfl dX7_best_68 ?_
      refine lv_iload_n S.1 S.2.1 dX7_best_71 rfl (lv_at hl0 1 rfl) ?_
      have hF24 := wt_plan hW19
      unfold okPlan at hF24
      refine r_cVv (As := [.ref (ad c14), .ref (ad 45), .int jb18, .int (nI j12)]) (rest := []) S hK hZ hP19 hS19 hl0.1 26 (by decide) hF24 (C := RX3) rfl (c_X3_fill l D cA ad t hI F19 hW19 c14 hc14 45 (show (45, 8) ∈ rLI by decide) (by decide) jb18 (j12) (by omega)) (cwV 4 S.2.2.2.2 gX7_best_X3_fill rfl rfl rfl (by decide +kernel) ⟨Nat.le_of_ble_eq_true rfl, Nat.le_of_ble_eq_true rfl⟩) rfl rfl (Nat.le_of_ble_eq_true rfl) ⟨Nat.zero_le _, Nat.zero_le _⟩ dX7_best_72 (fun F23 H23 locs23 hr23 hP23 hS23 => ?_)
      obtain ⟨hW23, hFc23, hr23⟩ := hr23
      have hFr23 := hFr19.tr hFc23 (by simp <;> first | omega | (simp only [isC, isJ] at *; omega))
      refine lv_aload_n S.1 S.2.1 dX7_best_75 rfl (lv_at hl0 0 rfl) ?_
      have hF25 := (hFc23 0 (by decide)).trans hF21
      refine r_get S hK hP23 0 (by decide) hF25 (C := RX7) (T := TX7) (N := 15) hiX7 rfl 3 (by decide) (am_at in_wsX7_best_0 6 rfl) (v := .ref (ad 26)) rfl dX7_best_76 ?_
      refine lv_iconst (v := (nI 0)) S.1 S.2.1 dX7_best_79 (by decide +kernel) ?_
      refine lv_aload_n S.1 S.2.1 dX7_best_80 rfl (lv_at hl0 0 rfl) ?_
      refine r_get S hK hP23 0 (by decide) hF25 (C := RX7) (T := TX7) (N := 15) hiX7 rfl 1 (by decide) (am_at in_wsX7_best_0 4 rfl) (v := .ref (ad 3)) rfl dX7_best_81 ?_
      have hF26 := (hFc23 3 (by decide)).trans hF22
      refine r_get S hK hP23 3 (by decide) hF26 (C := RX1) (T := TX1) (N := 7) hiX1 rfl 0 (by decide) (am_at in_wsX7_best_0 8 rfl) (v := .int ja18) rfl dX7_best_84 ?_
      refine lv_aload_n S.1 S.2.1 dX7_best_87 rfl (lv_at hl0 0 rfl) ?_
      refine r_get S hK hP23 0 (by decide) hF25 (C := RX7) (T := TX7) (N := 15) hiX7 rfl 1 (by decide) (am_at in_wsX7_best_0 4 rfl) (v := .ref (ad 3)) rfl dX7_best_88 ?_
      refine r_get S hK hP23 3 (by decide) hF26 (C := RX1) (T := TX1) (N := 7) hiX1 rfl 2 (by decide) (am_at in_wsX7_best_0 9 rfl) (v := .int jc18) rfl dX7_best_91 ?_
      have hF28 := (hFc23 26 (by decide)).trans hF24
      refine r_cVp (As := [.int (nI 0), .int ja18, .int jc18]) (rest := []) S hK hZ hP23 hS23 hl0.1 26 (by decide) hF28 (C := RX3) rfl (c_X3_mostFrom l D cA ad t hI F23 hW23 (nI 0) ja18 jc18) (cwV 3 S.2.2.2.2 gX7_best_X3_mostFrom rfl rfl rfl (by decide +kernel) ⟨Nat.le_of_ble_eq_true rfl, Nat.le_of_ble_eq_true rfl⟩) rfl rfl (Nat.le_of_ble_eq_true rfl) ⟨Nat.zero_le _, Nat.zero_le _⟩ dX7_best_94 (fun r27 hr27 => ?_)
      refine lv_istore_n (lv' := [(3, .int r27), (0, .ref (ad 0)), (1, .int (nI j12)), (2, .int p2)]) S.1 S.2.1 dX7_best_97 rfl hl0 (by decide) rfl (fun ls29 hl29 => ?_)
      refine lv_iload_n S.1 S.2.1 dX7_best_98 rfl (lv_at hl29 3 rfl) ?_
      refine lv_iconst (v := (-1)) S.1 S.2.1 dX7_best_99 (by decide +kernel) ?_
      refine lv_icmp_eq (tgt := 108) S.1 S.2.1 dX7_best_100 (by decide) (fun c30 => ?_) (fun c30 => ?_)
      · skip
        have k31 := ci_eq rfl (show ((-1) : Int32).toInt = -1 by decide +kernel) c30
        refine lv_iload_n S.1 S.2.1 dX7_best_108 rfl (lv_at hl29 0 rfl) ?_
        exact hret 109 _ _ _ _ _ dX7_best_109 rfl hP23 hS23 ⟨hW23, hFr23, trivial⟩
      have k32 := ci_ne rfl (show ((-1) : Int32).toInt = -1 by decide +kernel) c30
      refine lv_iload_n S.1 S.2.1 dX7_best_103 rfl (lv_at hl29 0 rfl) ?_
      refine lv_iconst (v := (-1)) S.1 S.2.1 dX7_best_104 (by decide +kernel) ?_
      refine lv_icmp_ne (tgt := 110) S.1 S.2.1 dX7_best_105 (by decide) (fun c33 => ?_) (fun c33 => ?_)
      · skip
        have k34 := ci_ne rfl (show ((-1) : Int32).toInt = -1 by decide +kernel) c33
        obtain ⟨j35, hj35, rfl⟩ := nI_of_le (x := p2) (B := 35) (by omega) (by omega)
        have kj35 := nI_toInt (n := j35) (Nat.lt_of_le_of_lt hj35 (by decide))
        refine lv_aload_n S.1 S.2.1 dX7_best_110 rfl (lv_at hl29 1 rfl) ?_
        refine r_get S hK hP23 0 (by decide) hF25 (C := RX7) (T := TX7) (N := 15) hiX7 rfl 3 (by decide) (am_at in_wsX7_best_0 6 rfl) (v := .ref (ad 26)) rfl dX7_best_111 ?_
        refine lv_aload_n S.1 S.2.1 dX7_best_114 rfl (lv_at hl29 1 rfl) ?_
        refine r_get S hK hP23 0 (by decide) hF25 (C := RX7) (T := TX7) (N := 15) hiX7 rfl 11 (by decide) (am_at in_wsX7_best_0 2 rfl) (v := .ref (ad c14)) rfl dX7_best_115 ?_
        refine lv_aload_n S.1 S.2.1 dX7_best_118 rfl (lv_at hl29 1 rfl) ?_
        refine r_get S hK hP23 0 (by decide) hF25 (C := RX7) (T := TX7) (N := 15) hiX7 rfl 10 (by decide) (am_at in_wsX7_best_0 3 rfl) (v := .ref (ad 45)) rfl dX7_best_119 ?_
        refine lv_aload_n S.1 S.2.1 dX7_best_122 rfl (lv_at hl29 1 rfl) ?_
        refine r_get S hK hP23 0 (by decide) hF25 (C := RX7) (T := TX7) (N := 15) hiX7 rfl 1 (by decide) (am_at in_wsX7_best_0 4 rfl) (v := .ref (ad 3)) rfl dX7_best_123 ?_
        refine lv_iload_n S.1 S.2.1 dX7_best_126 rfl (lv_at hl29 3 rfl) ?_
        refine r_cVp (As := [.ref (ad c14), .ref (ad 45), .ref (ad 3), .int (nI j35)]) (rest := []) S hK hZ hP23 hS23 hl29.1 26 (by decide) hF28 (C := RX3) rfl (c_X3_townBehind l D cA ad t hI F23 hW23 c14 hc14 45 (show (45, 8) ∈ rLI by decide) (by decide) 3 (show isJ 3 from Or.inl rfl) (j35) (by omega)) (cwV 4 S.2.2.2.2 gX7_best_X3_townBehind rfl rfl rfl (by decide +kernel) ⟨Nat.le_of_ble_eq_true rfl, Nat.le_of_ble_eq_true rfl⟩) rfl rfl (Nat.le_of_ble_eq_true rfl) ⟨Nat.zero_le _, Nat.zero_le _⟩ dX7_best_127 (fun r36 hr36 => ?_)
        exact hret 130 _ _ _ _ _ dX7_best_130 rfl hP23 hS23 ⟨hW23, hFr23, trivial⟩
      have k37 := ci_eq rfl (show ((-1) : Int32).toInt = -1 by decide +kernel) c33
      refine lv_iload_n S.1 S.2.1 dX7_best_108 rfl (lv_at hl29 0 rfl) ?_
      exact hret 109 _ _ _ _ _ dX7_best_109 rfl hP23 hS23 ⟨hW23, hFr23, trivial⟩
    have k38 := ci_ne (nI_toInt (n := b15) (Nat.lt_of_le_of_lt hb15 (by decide))) z_ti c16
    refine lv_ldc (v := (-1000000003)) S.1 S.2.1 S.2.2.2.1 (S.2.2.2.2 (.constant RX7 181 (-1000000003)) (am_at in_wsX7_best_0 1 rfl)) dX7_best_31 ?_
    exact hret 33 _ _ _ _ _ dX7_best_33 rfl hP hS ⟨hW, hFr, trivial⟩
  have k39 := ci_nlt rfl rfl c10
  refine lv_ldc (v := (-1000000002)) S.1 S.2.1 S.2.2.2.1 (S.2.2.2.2 (.constant RX7 79 (-1000000002)) (am_at in_wsX7_best_0 0 rfl)) dX7_best_21 ?_
  exact hret 23 _ _ _ _ _ dX7_best_23 rfl hP hS ⟨hW, hFr, trivial⟩
set_option maxHeartbeats 4000000 in
set_option maxRecDepth 100000 in
theorem c_X7_seals (l : Launch) (D : va_G) (cA ad : Nat → Nat) (t : Nat) (hI : rI ad) (F : Nat → va_E) (hW : WT cA ad F) (p1 : Int32) : MI l D cA ad t yX7_seals wsX7_seals { frames := 4, cells := 0, slots := 0, locals := 106 } [.ref (ad 0), .int p1] F (fun r F' => WT cA ad F' ∧ rFr [45, 30, 31, 32] F F' ∧ (True)) := by
  refine en_I rfl (by decide +kernel) (Nat.le_of_ble_eq_true rfl) ?_
  intro p e s m args below meth c ls0 Q S hK hZ hP hS hl0 hret
  have hl0 : lv_has ls0 2 [(0, .ref (ad 0)), (1, .int p1)] := hl0
  have hFr : rFr [45, 30, 31, 32] F F := rFr.rf
  have hiX1 : ∀ w ∈ u_ws RX1 TX1 7, w ∈ wsX7_seals := in_wsX7_seals_5
  have hiX7 : ∀ w ∈ u_ws RX7 TX7 15, w ∈ wsX7_seals := in_wsX7_seals_4
  refine lv_iload_n S.1 S.2.1 dX7_seals_0 rfl (lv_at hl0 1 rfl) ?_
  refine lv_aload_n S.1 S.2.1 dX7_seals_1 rfl (lv_at hl0 0 rfl) ?_
  obtain ⟨c1, d1, k1, dr1, hF1, hc1, hd1, hk1⟩ := wt_main hW
  refine r_get S hK hP 0 (by decide) hF1 (C := RX7) (T := TX7) (N := 15) hiX7 rfl 11 (by decide) (am_at in_wsX7_seals_0 0 rfl) (v := .ref (ad c1)) rfl dX7_seals_2 ?_
  obtain ⟨sl3, fm3, tn3, rn3, bn3, hF3, hb3_1, hb3_2, hb3_3⟩ := wt_C hW hc1
  refine r_cVp (As := []) (rest := [.int p1]) S hK hZ hP hS hl0.1 c1 (lt_C hc1) hF3 (C := RX0) rfl (c_X0_allTowns l D cA ad t hI F hW c1 hc1) (cwV 0 S.2.2.2.2 gX7_seals_X0_allTowns rfl rfl rfl (by decide +kernel) ⟨Nat.le_of_ble_eq_true rfl, Nat.le_of_ble_eq_true rfl⟩) rfl rfl (Nat.le_of_ble_eq_true rfl) ⟨Nat.zero_le _, Nat.zero_le _⟩ dX7_seals_5 (fun r2 hr2 => ?_)
  obtain ⟨hr2, hm2⟩ := hr2
  obtain ⟨ka4, hka4, ea4⟩ := hr2
  refine lv_iconst (v := (-1)) S.1 S.2.1 dX7_seals_8 (by decide +kernel) ?_
  refine lv_ixor S.1 S.2.1 dX7_seals_9 ?_
  refine lv_topi (fun v5 e5 => ?_)
  refine lv_iand S.1 S.2.1 dX7_seals_10 ?_
  refine lv_topi (fun v6 e6 => ?_)
  refine lv_if_eq (tgt := 17) S.1 S.2.1 dX7_seals_11 (by decide) (fun c7 => ?_) (fun c7 => ?_)
  · skip
    have k8 := ci_eq rfl z_ti c7
    obtain ⟨j9, hj9, rfl⟩ := and_bd (x := p1) hka4 (by rw [← ea4, ← e5, ← e6]; exact c7)
    refine lv_aload_n S.1 S.2.1 dX7_seals_17 rfl (lv_at hl0 0 rfl) ?_
    refine r_cVp (As := []) (rest := []) S hK hZ hP hS hl0.1 0 (by decide) hF1 (C := RX7) rfl (c_X7_cannotGoOn l D cA ad t hI F hW ) (cwV 0 S.2.2.2.2 gX7_seals_X7_cannotGoOn rfl rfl rfl (by decide +kernel) ⟨Nat.le_of_ble_eq_true rfl, Nat.le_of_ble_eq_true rfl⟩) rfl rfl (Nat.le_of_ble_eq_true rfl) ⟨Nat.zero_le _, Nat.zero_le _⟩ dX7_seals_18 (fun r10 hr10 => ?_)
    obtain ⟨hr10, hm10⟩ := hr10
    obtain ⟨b11, hb11, rfl⟩ := hr10
    refine lv_if_eq (tgt := 27) S.1 S.2.1 dX7_seals_21 (by decide) (fun c12 => ?_) (fun c12 => ?_)
    · skip
      have k13 := ci_eq (nI_toInt (n := b11) (Nat.lt_of_le_of_lt hb11 (by decide))) z_ti c12
      refine lv_aload_n S.1 S.2.1 dX7_seals_27 rfl (lv_at hl0 0 rfl) ?_
      refine r_get S hK hP 0 (by decide) hF1 (C := RX7) (T := TX7) (N := 15) hiX7 rfl 11 (by decide) (am_at in_wsX7_seals_0 0 rfl) (v := .ref (ad c1)) rfl dX7_seals_28 ?_
      refine lv_aload_n S.1 S.2.1 dX7_seals_31 rfl (lv_at hl0 0 rfl) ?_
      refine r_get S hK hP 0 (by decide) hF1 (C := RX7) (T := TX7) (N := 15) hiX7 rfl 10 (by decide) (am_at in_wsX7_seals_0 3 rfl) (v := .ref (ad 45)) rfl dX7_seals_32 ?_
      refine lv_aload_n S.1 S.2.1 dX7_seals_35 rfl (lv_at hl0 0 rfl) ?_
      refine r_get S hK hP 0 (by decide) hF1 (C := RX7) (T := TX7) (N := 15) hiX7 rfl 1 (by decide) (am_at in_wsX7_seals_0 4 rfl) (v := .ref (ad 3)) rfl dX7_seals_36 ?_
      obtain ⟨ja14, jb14, jc14, jd14, jx14, jy14, jk14, hF14, hk14⟩ := wt_J hW (show isJ 3 from Or.inl rfl)
      refine r_get S hK hP 3 (by decide) hF14 (C := RX1) (T := TX1) (N := 7) hiX1 rfl 5 (by decide) (am_at in_wsX7_seals_0 5 rfl) (v := .int jy14) rfl dX7_seals_39 ?_
      refine r_cVv (As := [.ref (ad 45), .int jy14]) (rest := []) S hK hZ hP hS hl0.1 c1 (lt_C hc1) hF3 (C := RX0) rfl (c_X0_fillExits l D cA ad t hI F hW c1 hc1 45 (show (45, 8) ∈ rLI by decide) (by decide) jy14) (cwV 2 S.2.2.2.2 gX7_seals_X0_fillExits rfl rfl rfl (by decide +kernel) ⟨Nat.le_of_ble_eq_true rfl, Nat.le_of_ble_eq_true rfl⟩) rfl rfl (Nat.le_of_ble_eq_true rfl) ⟨Nat.zero_le _, Nat.zero_le _⟩ dX7_seals_42 (fun F15 H15 locs15 hr15 hP15 hS15 => ?_)
      obtain ⟨hW15, hFc15, hr15⟩ := hr15
      obtain ⟨hr15, hm15⟩ := hr15
      have hFr15 := hFr.tr hFc15 (by simp <;> first | omega | (simp only [isC, isJ] at *; omega))
      refine lv_aload_n S.1 S.2.1 dX7_seals_45 rfl (lv_at hl0 0 rfl) ?_
      have hF16 := (hFc15 0 (by decide)).trans hF1
      refine r_get S hK hP15 0 (by decide) hF16 (C := RX7) (T := TX7) (N := 15) hiX7 rfl 4 (by decide) (am_at in_wsX7_seals_0 6 rfl) (v := .ref (ad 30)) rfl dX7_seals_46 ?_
      refine lv_aload_n S.1 S.2.1 dX7_seals_49 rfl (lv_at hl0 0 rfl) ?_
      refine r_get S hK hP15 0 (by decide) hF16 (C := RX7) (T := TX7) (N := 15) hiX7 rfl 11 (by decide) (am_at in_wsX7_seals_0 0 rfl) (v := .ref (ad c1)) rfl dX7_seals_50 ?_
      refine lv_aload_n S.1 S.2.1 dX7_seals_53 rfl (lv_at hl0 0 rfl) ?_
      refine r_get S hK hP15 0 (by decide) hF16 (C := RX7) (T := TX7) (N := 15) hiX7 rfl 10 (by decide) (am_at in_wsX7_seals_0 3 rfl) (v := .ref (ad 45)) rfl dX7_seals_54 ?_
      refine lv_aload_n S.1 S.2.1 dX7_seals_57 rfl (lv_at hl0 0 rfl) ?_
      refine r_get S hK hP15 0 (by decide) hF16 (C := RX7) (T := TX7) (N := 15) hiX7 rfl 1 (by decide) (am_at in_wsX7_seals_0 4 rfl) (v := .ref (ad 3)) rfl dX7_seals_58 ?_
      refine lv_iload_n S.1 S.2.1 dX7_seals_61 rfl (lv_at hl0 1 rfl) ?_
      obtain ⟨a18, b18, hF18, ha18, hb18⟩ := wt_search hW15
      refine r_cVi (As := [.ref (ad c1), .ref (ad 45), .ref (ad 3), .int (nI j9)]) (rest := []) S hK hZ hP15 hS15 hl0.1 30 (by decide) hF18 (C := RX4) rfl (c_X4_fewestMonths l D cA ad t hI F15 hW15 c1 hc1 45 (show (45, 8) ∈ rLI by decide) (by decide) 3 (show isJ 3 from Or.inl rfl) (j9) (by omega)) (cwV 4 S.2.2.2.2 gX7_seals_X4_fewestMonths rfl rfl rfl (by decide +kernel) ⟨Nat.le_of_ble_eq_true rfl, Nat.le_of_ble_eq_true rfl⟩) rfl rfl (Nat.le_of_ble_eq_true rfl) ⟨Nat.zero_le _, Nat.zero_le _⟩ dX7_seals_62 (fun r17 F17 H17 locs17 hr17 hP17 hS17 => ?_)
      obtain ⟨hW17, hFc17, hr17⟩ := hr17
      have hFr17 := hFr15.tr hFc17 (by simp <;> first | omega | (simp only [isC, isJ] at *; omega))
      exact hret 65 _ _ _ _ _ dX7_seals_65 rfl hP17 hS17 ⟨hW17, hFr17, trivial⟩
    have k19 := ci_ne (nI_toInt (n := b11) (Nat.lt_of_le_of_lt hb11 (by decide))) z_ti c12
    refine lv_ldc (v := (-1000000003)) S.1 S.2.1 S.2.2.2.1 (S.2.2.2.2 (.constant RX7 181 (-1000000003)) (am_at in_wsX7_seals_0 2 rfl)) dX7_seals_24 ?_
    exact hret 26 _ _ _ _ _ dX7_seals_26 rfl hP hS ⟨hW, hFr, trivial⟩
  have k20 := ci_ne rfl z_ti c7
  refine lv_ldc (v := (-1000000001)) S.1 S.2.1 S.2.2.2.1 (S.2.2.2.2 (.constant RX7 147 (-1000000001)) (am_at in_wsX7_seals_0 1 rfl)) dX7_seals_14 ?_
  exact hret 16 _ _ _ _ _ dX7_seals_16 rfl hP hS ⟨hW, hFr, trivial⟩
noncomputable def m_X7_two_23 (σ : SS) (a0 : Int32) (a1 : Int32) : Int32 × SS :=
  (a1, σ)
noncomputable def m_X7_two_16 (σ : SS) (a0 : Int32) : Int32 × SS :=
  m_X7_two_23 ((m_X3_monthsToMeet σ (rl (σ 0 11)) 45 3 a0)).2 a0 ((m_X3_monthsToMeet σ (rl (σ 0 11)) 45 3 a0)).1
noncomputable def m_X7_two (σ : SS) (a0 : Int32) : Int32 × SS :=
  if (m_X0_hasTown σ (rl (σ 0 11)) a0) = (0 : Int32) then
    (((-1000000001) : Int32), σ)
  else
    if (σ 3 6) = (0 : Int32) then
      m_X7_two_16 (m_X0_fillExits σ (rl (σ 0 11)) 45 (σ 3 5)) a0
    else
      (((-1000000003) : Int32), σ)
set_option maxHeartbeats 4000000 in
set_option maxRecDepth 100000 in
theorem c_X7_two (l : Launch) (D : va_G) (cA ad : Nat → Nat) (t : Nat) (hI : rI ad) (F : Nat → va_E) (hW : WT cA ad F) (p1 : Int32) : MI l D cA ad t yX7_two wsX7_two { frames := 3, cells := 0, slots := 0, locals := 72 } [.ref (ad 0), .int p1] F (fun r F' => WT cA ad F' ∧ rFr [45, 28, 29] F F' ∧ ((True) ∧ m_X7_two (AB ad F) p1 = (r, AB ad F'))) := by
  refine en_I rfl (by decide +kernel) (Nat.le_of_ble_eq_true rfl) ?_
  intro p e s m args below meth c ls0 Q S hK hZ hP hS hl0 hret
  have hl0 : lv_has ls0 2 [(0, .ref (ad 0)), (1, .int p1)] := hl0
  have hFr : rFr [45, 28, 29] F F := rFr.rf
  have hiX1 : ∀ w ∈ u_ws RX1 TX1 7, w ∈ wsX7_two := in_wsX7_two_4
  have hiX7 : ∀ w ∈ u_ws RX7 TX7 15, w ∈ wsX7_two := in_wsX7_two_3
  obtain ⟨M, hM⟩ : ∃ M, M = m_X7_two (AB ad F) p1 := ⟨_, rfl⟩
  refine lv_aload_n S.1 S.2.1 dX7_two_0 rfl (lv_at hl0 0 rfl) ?_
  obtain ⟨c1, d1, k1, dr1, hF1, hc1, hd1, hk1⟩ := wt_main hW
  refine r_get S hK hP 0 (by decide) hF1 (C := RX7) (T := TX7) (N := 15) hiX7 rfl 11 (by decide) (am_at in_wsX7_two_0 0 rfl) (v := .ref (ad c1)) rfl dX7_two_1 ?_
  have m2 : (rl ((AB ad F) 0 11)) = c1 := AB_r hI (lt_C hc1) hF1 rfl
  refine lv_iload_n S.1 S.2.1 dX7_two_4 rfl (lv_at hl0 1 rfl) ?_
  obtain ⟨sl4, fm4, tn4, rn4, bn4, hF4, hb4_1, hb4_2, hb4_3⟩ := wt_C hW hc1
  refine r_cVp (As := [.int p1]) (rest := []) S hK hZ hP hS hl0.1 c1 (lt_C hc1) hF4 (C := RX0) rfl (c_X0_hasTown l D cA ad t hI F hW c1 hc1 p1) (cwV 1 S.2.2.2.2 gX7_two_X0_hasTown rfl rfl rfl (by decide +kernel) ⟨Nat.le_of_ble_eq_true rfl, Nat.le_of_ble_eq_true rfl⟩) rfl rfl (Nat.le_of_ble_eq_true rfl) ⟨Nat.zero_le _, Nat.zero_le _⟩ dX7_two_5 (fun r3 hr3 => ?_)
  obtain ⟨hr3, hm3⟩ := hr3
  obtain ⟨⟨b5, hb5, rfl⟩, hx5⟩ := hr3
  have hx5 : b5 ≠ 0 → 0 ≤ p1.toInt ∧ p1.toInt ≤ _ := fun q => hx5 (nI_ne0 (by omega) (by omega))
  have m6 : (m_X0_hasTown (AB ad F) (rl ((AB ad F) 0 11)) p1) = (nI b5) := (congr (congr (Eq.refl (m_X0_hasTown (AB ad F))) m2) (Eq.refl (p1 : Int32))).trans hm3
  refine lv_if_ne (tgt := 14) S.1 S.2.1 dX7_two_8 (by decide) (fun c7 => ?_) (fun c7 => ?_)
  · skip
    have k8 := ci_ne (nI_toInt (n := b5) (Nat.lt_of_le_of_lt hb5 (by decide))) z_ti c7
    refine lv_aload_n S.1 S.2.1 dX7_two_14 rfl (lv_at hl0 0 rfl) ?_
    refine r_get S hK hP 0 (by decide) hF1 (C := RX7) (T := TX7) (N := 15) hiX7 rfl 1 (by decide) (am_at in_wsX7_two_0 2 rfl) (v := .ref (ad 3)) rfl dX7_two_15 ?_
    obtain ⟨ja9, jb9, jc9, jd9, jx9, jy9, jk9, hF9, hk9⟩ := wt_J hW (show isJ 3 from Or.inl rfl)
    refine r_get S hK hP 3 (by decide) hF9 (C := RX1) (T := TX1) (N := 7) hiX1 rfl 6 (by decide) (am_at in_wsX7_two_0 3 rfl) (v := .int (nI jk9)) rfl dX7_two_18 ?_
    have m10 : ((AB ad F) 3 6) = (nI jk9) := AB_f hF9 rfl
    refine lv_if_eq (tgt := 27) S.1 S.2.1 dX7_two_21 (by decide) (fun c11 => ?_) (fun c11 => ?_)
    · skip
      have k12 := ci_eq (nI_toInt (n := jk9) (by omega)) z_ti c11
      refine lv_aload_n S.1 S.2.1 dX7_two_27 rfl (lv_at hl0 0 rfl) ?_
      refine r_get S hK hP 0 (by decide) hF1 (C := RX7) (T := TX7) (N := 15) hiX7 rfl 11 (by decide) (am_at in_wsX7_two_0 0 rfl) (v := .ref (ad c1)) rfl dX7_two_28 ?_
      have m13 : (rl ((AB ad F) 0 11)) = c1 := AB_r hI (lt_C hc1) hF1 rfl
      refine lv_aload_n S.1 S.2.1 dX7_two_31 rfl (lv_at hl0 0 rfl) ?_
      refine r_get S hK hP 0 (by decide) hF1 (C := RX7) (T := TX7) (N := 15) hiX7 rfl 10 (by decide) (am_at in_wsX7_two_0 5 rfl) (v := .ref (ad 45)) rfl dX7_two_32 ?_
      refine lv_aload_n S.1 S.2.1 dX7_two_35 rfl (lv_at hl0 0 rfl) ?_
      refine r_get S hK hP 0 (by decide) hF1 (C := RX7) (T := TX7) (N := 15) hiX7 rfl 1 (by decide) (am_at in_wsX7_two_0 2 rfl) (v := .ref (ad 3)) rfl dX7_two_36 ?_
      refine r_get S hK hP 3 (by decide) hF9 (C := RX1) (T := TX1) (N := 7) hiX1 rfl 5 (by decide) (am_at in_wsX7_two_0 6 rfl) (v := .int jy9) rfl dX7_two_39 ?_
      have m14 : ((AB ad F) 3 5) = jy9 := AB_f hF9 rfl
      refine r_cVv (As := [.ref (ad 45), .int jy9]) (rest := []) S hK hZ hP hS hl0.1 c1 (lt_C hc1) hF4 (C := RX0) rfl (c_X0_fillExits l D cA ad t hI F hW c1 hc1 45 (show (45, 8) ∈ rLI by decide) (by decide) jy9) (cwV 2 S.2.2.2.2 gX7_two_X0_fillExits rfl rfl rfl (by decide +kernel) ⟨Nat.le_of_ble_eq_true rfl, Nat.le_of_ble_eq_true rfl⟩) rfl rfl (Nat.le_of_ble_eq_true rfl) ⟨Nat.zero_le _, Nat.zero_le _⟩ dX7_two_42 (fun F15 H15 locs15 hr15 hP15 hS15 => ?_)
      obtain ⟨hW15, hFc15, hr15⟩ := hr15
      obtain ⟨hr15, hm15⟩ := hr15
      have hFr15 := hFr.tr hFc15 (by simp <;> first | omega | (simp only [isC, isJ] at *; omega))
      have hE17 : M = m_X7_two_16 (AB ad F15) p1 := hM.trans ((show m_X7_two (AB ad F) p1 = m_X7_two_16 (m_X0_fillExits (AB ad F) (rl ((AB ad F) 0 11)) 45 ((AB ad F) 3 5)) p1 from by unfold m_X7_two; rw [if_neg (neq_cg m6 rfl c7), if_pos (eq_cg m10 rfl c11)]).trans (congr (congrArg (m_X7_two_16) ((congr (congr (congr (Eq.refl (m_X0_fillExits (AB ad F))) m13) (Eq.refl 45)) m14).trans hm15)) (Eq.refl (p1 : Int32))))
      refine lv_aload_n S.1 S.2.1 dX7_two_45 rfl (lv_at hl0 0 rfl) ?_
      have hF18 := (hFc15 0 (by decide)).trans hF1
      refine r_get S hK hP15 0 (by decide) hF18 (C := RX7) (T := TX7) (N := 15) hiX7 rfl 3 (by decide) (am_at in_wsX7_two_0 7 rfl) (v := .ref (ad 26)) rfl dX7_two_46 ?_
      refine lv_aload_n S.1 S.2.1 dX7_two_49 rfl (lv_at hl0 0 rfl) ?_
      refine r_get S hK hP15 0 (by decide) hF18 (C := RX7) (T := TX7) (N := 15) hiX7 rfl 11 (by decide) (am_at in_wsX7_two_0 0 rfl) (v := .ref (ad c1)) rfl dX7_two_50 ?_
      have m19 : (rl ((AB ad F15) 0 11)) = c1 := AB_r hI (lt_C hc1) hF18 rfl
      refine lv_aload_n S.1 S.2.1 dX7_two_53 rfl (lv_at hl0 0 rfl) ?_
      refine r_get S hK hP15 0 (by decide) hF18 (C := RX7) (T := TX7) (N := 15) hiX7 rfl 10 (by decide) (am_at in_wsX7_two_0 5 rfl) (v := .ref (ad 45)) rfl dX7_two_54 ?_
      refine lv_aload_n S.1 S.2.1 dX7_two_57 rfl (lv_at hl0 0 rfl) ?_
      refine r_get S hK hP15 0 (by decide) hF18 (C := RX7) (T := TX7) (N := 15) hiX7 rfl 1 (by decide) (am_at in_wsX7_two_0 2 rfl) (v := .ref (ad 3)) rfl dX7_two_58 ?_
      refine lv_iload_n S.1 S.2.1 dX7_two_61 rfl (lv_at hl0 1 rfl) ?_
      have hF21 := wt_plan hW15
      unfold okPlan at hF21
      refine r_cVi (As := [.ref (ad c1), .ref (ad 45), .ref (ad 3), .int p1]) (rest := []) S hK hZ hP15 hS15 hl0.1 26 (by decide) hF21 (C := RX3) rfl (c_X3_monthsToMeet l D cA ad t hI F15 hW15 c1 hc1 45 (show (45, 8) ∈ rLI by decide) (by decide) 3 (show isJ 3 from Or.inl rfl) p1) (cwV 4 S.2.2.2.2 gX7_two_X3_monthsToMeet rfl rfl rfl (by decide +kernel) ⟨Nat.le_of_ble_eq_true rfl, Nat.le_of_ble_eq_true rfl⟩) rfl rfl (Nat.le_of_ble_eq_true rfl) ⟨Nat.zero_le _, Nat.zero_le _⟩ dX7_two_62 (fun r20 F20 H20 locs20 hr20 hP20 hS20 => ?_)
      obtain ⟨hW20, hFc20, hr20⟩ := hr20
      obtain ⟨hr20, hm20⟩ := hr20
      have hFr20 := hFr15.tr hFc20 (by simp <;> first | omega | (simp only [isC, isJ] at *; omega))
      have mc22 : (m_X3_monthsToMeet (AB ad F15) (rl ((AB ad F15) 0 11)) 45 3 p1) = (r20, AB ad F20) := (congr (congr (congr (congr (Eq.refl (m_X3_monthsToMeet (AB ad F15))) m19) (Eq.refl 45)) (Eq.refl 3)) (Eq.refl (p1 : Int32))).trans hm20
      have hE24 : M = m_X7_two_23 (AB ad F20) p1 r20 := hE17.trans ((show m_X7_two_16 (AB ad F15) p1 = m_X7_two_23 ((m_X3_monthsToMeet (AB ad F15) (rl ((AB ad F15) 0 11)) 45 3 p1)).2 p1 ((m_X3_monthsToMeet (AB ad F15) (rl ((AB ad F15) 0 11)) 45 3 p1)).1 from rfl).trans (congr (congr (congrArg (m_X7_two_23) (congrArg Prod.snd mc22)) (Eq.refl (p1 : Int32))) (congrArg Prod.fst mc22)))
      have hE25 : M = (r20, AB ad F20) := hE24.trans ((show m_X7_two_23 (AB ad F20) p1 r20 = (r20, (AB ad F20)) from rfl).trans (congrArg (fun q => (q, AB ad F20)) rfl))
      exact hret 65 _ _ _ _ _ dX7_two_65 rfl hP20 hS20 ⟨hW20, hFr20, ⟨trivial, hM.symm.trans hE25⟩⟩
    have k26 := ci_ne (nI_toInt (n := jk9) (by omega)) z_ti c11
    refine lv_ldc (v := (-1000000003)) S.1 S.2.1 S.2.2.2.1 (S.2.2.2.2 (.constant RX7 181 (-1000000003)) (am_at in_wsX7_two_0 4 rfl)) dX7_two_24 ?_
    have hE27 : M = ((-1000000003), AB ad F) := hM.trans ((show m_X7_two (AB ad F) p1 = (((-1000000003) : Int32), (AB ad F)) from by unfold m_X7_two; rw [if_neg (neq_cg m6 rfl c7), if_neg (neq_cg m10 rfl c11)]).trans (congrArg (fun q => (q, AB ad F)) rfl))
    exact hret 26 _ _ _ _ _ dX7_two_26 rfl hP hS ⟨hW, hFr, ⟨trivial, hM.symm.trans hE27⟩⟩
  have k28 := ci_eq (nI_toInt (n := b5) (Nat.lt_of_le_of_lt hb5 (by decide))) z_ti c7
  refine lv_ldc (v := (-1000000001)) S.1 S.2.1 S.2.2.2.1 (S.2.2.2.2 (.constant RX7 147 (-1000000001)) (am_at in_wsX7_two_0 1 rfl)) dX7_two_11 ?_
  have hE29 : M = ((-1000000001), AB ad F) := hM.trans ((show m_X7_two (AB ad F) p1 = (((-1000000001) : Int32), (AB ad F)) from by unfold m_X7_two; rw [if_pos (eq_cg m6 rfl c7)]).trans (congrArg (fun q => (q, AB ad F)) rfl))
  exact hret 13 _ _ _ _ _ dX7_two_13 rfl hP hS ⟨hW, hFr, ⟨trivial, hM.symm.trans hE29⟩⟩
noncomputable def m_X7_idle_L4_3_b (k0 : SS → Int32 → Int32 → Int32) (σ : SS) (a0 : Int32) (a1 : Int32) : Int32 :=
  if (σ (rl (σ 0 11)) 2) ≤ a0 then
    ((nI 4095) &&& (a1 ^^^ ((-1) : Int32)))
  else
    if (m_X0_isBanned σ (rl (σ 0 11)) a0) = (0 : Int32) then
      k0 σ (a0 + Int32.ofInt (1)) (a1 ||| (σ ((rl (σ 0 11)) + 2) (rl a0)))
    else
      k0 σ (a0 + Int32.ofInt (1)) a1
noncomputable def m_X7_idle_L4_3 : Nat → SS → Int32 → Int32 → Int32
  | 0 => fun σ _ _ => 0
  | n + 1 => m_X7_idle_L4_3_b (m_X7_idle_L4_3 n)
noncomputable def m_X7_idle (σ : SS) : Int32 :=
  m_X7_idle_L4_3 2000 σ (nI 0) (nI 0)
set_option maxHeartbeats 4000000 in
set_option maxRecDepth 100000 in
theorem c_X7_idle (l : Launch) (D : va_G) (cA ad : Nat → Nat) (t : Nat) (hI : rI ad) (F : Nat → va_E) (hW : WT cA ad F) : MP l D cA ad t yX7_idle wsX7_idle { frames := 1, cells := 0, slots := 0, locals := 21 } [.ref (ad 0)] F (fun r => (True) ∧ m_X7_idle (AB ad F) = r) := by
  refine en_P rfl (by decide +kernel) (Nat.le_of_ble_eq_true rfl) ?_
  intro p e s m args below meth c ls0 Q S hK hZ hP hS hl0 hret
  have hl0 : lv_has ls0 3 [(0, .ref (ad 0))] := hl0
  have hiX0 : ∀ w ∈ u_ws RX0 TX0 10, w ∈ wsX7_idle := in_wsX7_idle_2
  have hiX7 : ∀ w ∈ u_ws RX7 TX7 15, w ∈ wsX7_idle := in_wsX7_idle_1
  obtain ⟨M, hM⟩ : ∃ M, M = m_X7_idle (AB ad F) := ⟨_, rfl⟩
  refine lv_iconst (v := (nI 0)) S.1 S.2.1 dX7_idle_0 (by decide +kernel) ?_
  refine lv_istore_n (lv' := [(1, .int (nI 0)), (0, .ref (ad 0))]) S.1 S.2.1 dX7_idle_1 rfl hl0 (by decide) rfl (fun ls1 hl1 => ?_)
  refine lv_iconst (v := (nI 0)) S.1 S.2.1 dX7_idle_2 (by decide +kernel) ?_
  refine lv_istore_n (lv' := [(2, .int (nI 0)), (1, .int (nI 0)), (0, .ref (ad 0))]) S.1 S.2.1 dX7_idle_3 rfl hl1 (by decide) rfl (fun ls2 hl2 => ?_)
  have lp3 : ∀ (n3 : Nat) (q23 : Nat) (x3_1 : Int32), q23 ≤ 8 → 8 - q23 < n3 → M = m_X7_idle_L4_3 n3 (AB ad F) (nI q23) x3_1 → ∀ (ls : Array Slot), lv_has ls 3 [(2, .int (nI q23)), (1, .int x3_1), (0, .ref (ad 0))] → W p l e { frames := 1, cells := 0, slots := 0, locals := 21 } s m args below meth c s.heap [] 0 0 Q (F0 m 4 ls []) := by
    intro n3
    induction n3 with
    | zero =>
      intro q23 x3_1 iv3_0 hm3 hEl3 ls3 hl3
      exact absurd hm3 (Nat.not_lt_zero _)
    | succ n3 ih3 =>
      intro q23 x3_1 iv3_0 hm3 hEl3 ls3 hl3
      have hE4 : M = m_X7_idle_L4_3_b (m_X7_idle_L4_3 n3) (AB ad F) (nI q23) x3_1 := hEl3
      refine lv_iload_n S.1 S.2.1 dX7_idle_4 rfl (lv_at hl3 0 rfl) ?_
      refine lv_aload_n S.1 S.2.1 dX7_idle_5 rfl (lv_at hl3 2 rfl) ?_
      obtain ⟨c5, d5, k5, dr5, hF5, hc5, hd5, hk5⟩ := wt_main hW
      refine r_get S hK hP 0 (by decide) hF5 (C := RX7) (T := TX7) (N := 15) hiX7 rfl 11 (by decide) (am_at in_wsX7_idle_0 0 rfl) (v := .ref (ad c5)) rfl dX7_idle_6 ?_
      have m6 : (rl ((AB ad F) 0 11)) = c5 := AB_r hI (lt_C hc5) hF5 rfl
      obtain ⟨sl7, fm7, tn7, rn7, bn7, hF7, hb7_1, hb7_2, hb7_3⟩ := wt_C hW hc5
      refine r_get S hK hP c5 (lt_C hc5) hF7 (C := RX0) (T := TX0) (N := 10) hiX0 rfl 2 (by decide) (am_at in_wsX7_idle_0 1 rfl) (v := .int (nI tn7)) rfl dX7_idle_9 ?_
      have m8 : ((AB ad F) (rl ((AB ad F) 0 11)) 2) = (nI tn7) := (congrArg (fun q => AB ad F q 2) m6).trans (AB_f hF7 rfl)
      refine lv_icmp_ge (tgt := 44) S.1 S.2.1 dX7_idle_12 (by decide) (fun c9 => ?_) (fun c9 => ?_)
      · skip
        have k10 := ci_le (nI_toInt (n := tn7) (by omega)) (nI_toInt (n := q23) (by omega)) c9
        refine lv_sipush (v := (nI 4095)) S.1 S.2.1 dX7_idle_44 (by decide +kernel) ?_
        refine lv_iload_n S.1 S.2.1 dX7_idle_47 rfl (lv_at hl3 1 rfl) ?_
        refine lv_iconst (v := (-1)) S.1 S.2.1 dX7_idle_48 (by decide +kernel) ?_
        refine lv_ixor S.1 S.2.1 dX7_idle_49 ?_
        refine lv_topi (fun v11 e11 => ?_)
        have m12 : (x3_1 ^^^ ((-1) : Int32)) = v11 := cg2 (fun (x : Int32) (y : Int32) => x ^^^ y) (Eq.refl (x3_1 : Int32)) (Eq.refl ((-1) : Int32)) e11
        refine lv_iand S.1 S.2.1 dX7_idle_50 ?_
        refine lv_topi (fun v13 e13 => ?_)
        have m14 : ((nI 4095) &&& (x3_1 ^^^ ((-1) : Int32))) = v13 := cg2 (fun (x : Int32) (y : Int32) => x &&& y) (Eq.refl ((nI 4095) : Int32)) m12 e13
        have hE15 : M = v13 := hE4.trans ((show m_X7_idle_L4_3_b (m_X7_idle_L4_3 n3) (AB ad F) (nI q23) x3_1 = ((nI 4095) &&& (x3_1 ^^^ ((-1) : Int32))) from by unfold m_X7_idle_L4_3_b; rw [if_pos (le_cg m8 rfl c9)]).trans m14)
        exact hret 51 _ _ dX7_idle_51 rfl (⟨trivial, hM.symm.trans hE15⟩)
      have k16 := ci_nle (nI_toInt (n := tn7) (by omega)) (nI_toInt (n := q23) (by omega)) c9
      refine lv_aload_n S.1 S.2.1 dX7_idle_15 rfl (lv_at hl3 2 rfl) ?_
      refine r_get S hK hP 0 (by decide) hF5 (C := RX7) (T := TX7) (N := 15) hiX7 rfl 11 (by decide) (am_at in_wsX7_idle_0 0 rfl) (v := .ref (ad c5)) rfl dX7_idle_16 ?_
      have m17 : (rl ((AB ad F) 0 11)) = c5 := AB_r hI (lt_C hc5) hF5 rfl
      refine lv_iload_n S.1 S.2.1 dX7_idle_19 rfl (lv_at hl3 0 rfl) ?_
      refine r_cVp (As := [.int (nI q23)]) (rest := []) S hK hZ hP hS hl3.1 c5 (lt_C hc5) hF7 (C := RX0) rfl (c_X0_isBanned l D cA ad t hI F hW c5 hc5 (nI q23)) (cwV 1 S.2.2.2.2 gX7_idle_X0_isBanned rfl rfl rfl (by decide +kernel) ⟨Nat.le_of_ble_eq_true rfl, Nat.le_of_ble_eq_true rfl⟩) rfl rfl (Nat.le_of_ble_eq_true rfl) ⟨Nat.zero_le _, Nat.zero_le _⟩ dX7_idle_20 (fun r18 hr18 => ?_)
      obtain ⟨hr18, hm18⟩ := hr18
      obtain ⟨b19, hb19, rfl⟩ := hr18
      have m20 : (m_X0_isBanned (AB ad F) (rl ((AB ad F) 0 11)) (nI q23)) = (nI b19) := (congr (congr (Eq.refl (m_X0_isBanned (AB ad F))) m17) (Eq.refl ((nI q23) : Int32))).trans hm18
      refine lv_if_ne (tgt := 38) S.1 S.2.1 dX7_idle_23 (by decide) (fun c21 => ?_) (fun c21 => ?_)
      · skip
        have k22 := ci_ne (nI_toInt (n := b19) (Nat.lt_of_le_of_lt hb19 (by decide))) z_ti c21
        have m24 : ((nI q23) + Int32.ofInt (1)) = (nI (q23 + 1)) := (congrArg (fun q : Int32 => q + Int32.ofInt (1)) rfl).trans (nI_add _ 1)
        refine lv_iinc (v := (nI (q23 + 1))) (lv' := [(2, .int (nI (q23 + 1))), (1, .int x3_1), (0, .ref (ad 0))]) S.1 S.2.1 dX7_idle_38 hl3 (k := 0) rfl (nI_add _ 1) (by decide) rfl (fun ls23 hl23 => ?_)
        refine lv_goto (tgt := 4) S.1 S.2.1 dX7_idle_41 (by decide) ?_
        have hE25 : M = (m_X7_idle_L4_3 n3) (AB ad F) (nI (q23 + 1)) x3_1 := hE4.trans ((show m_X7_idle_L4_3_b (m_X7_idle_L4_3 n3) (AB ad F) (nI q23) x3_1 = (m_X7_idle_L4_3 n3) (AB ad F) ((nI q23) + Int32.ofInt (1)) x3_1 from by unfold m_X7_idle_L4_3_b; rw [if_neg (nle_cg m8 rfl c9), if_neg (neq_cg m20 rfl c21)]).trans (congr (congr (congrArg ((m_X7_idle_L4_3 n3)) (rfl : AB ad F = AB ad F)) m24) (Eq.refl (x3_1 : Int32))))
        exact ih3 (q23 + 1) (x3_1) (by omega) (by omega) hE25 ls23 (lv_sub hl23 [0, 1, 2] rfl)
      have k26 := ci_eq (nI_toInt (n := b19) (Nat.lt_of_le_of_lt hb19 (by decide))) z_ti c21
      refine lv_iload_n S.1 S.2.1 dX7_idle_26 rfl (lv_at hl3 1 rfl) ?_
      refine lv_aload_n S.1 S.2.1 dX7_idle_27 rfl (lv_at hl3 2 rfl) ?_
      refine r_get S hK hP 0 (by decide) hF5 (C := RX7) (T := TX7) (N := 15) hiX7 rfl 11 (by decide) (am_at in_wsX7_idle_0 0 rfl) (v := .ref (ad c5)) rfl dX7_idle_28 ?_
      have m27 : (rl ((AB ad F) 0 11)) = c5 := AB_r hI (lt_C hc5) hF5 rfl
      refine r_get S hK hP c5 (lt_C hc5) hF7 (C := RX0) (T := TX0) (N := 10) hiX0 rfl 6 (by decide) (am_at in_wsX7_idle_0 2 rfl) (v := .ref (ad (c5 + 2))) rfl dX7_idle_31 ?_
      refine lv_iload_n S.1 S.2.1 dX7_idle_34 rfl (lv_at hl3 0 rfl) ?_
      obtain ⟨g28, hF28, hg28⟩ := wt_I hW (C2_I hc5)
      refine r_iald S hK hP (c5 + 2) (lt_I (C2_I hc5)) hF28 (vp_in_nI (show q23 < 8 by omega) (by omega)) dX7_idle_35 ?_
      refine lv_topi (fun v30 e30 => ?_)
      have m31 : ((AB ad F) ((rl ((AB ad F) 0 11)) + 2) (rl (nI q23))) = v30 := (ab_cg (congrArg (fun q : Nat => q + 2) m27) rfl).trans ((AB_g hF28).trans e30.symm)
      refine lv_ior S.1 S.2.1 dX7_idle_36 ?_
      refine lv_topi (fun v32 e32 => ?_)
      have m33 : (x3_1 ||| ((AB ad F) ((rl ((AB ad F) 0 11)) + 2) (rl (nI q23)))) = v32 := cg2 (fun (x : Int32) (y : Int32) => x ||| y) (Eq.refl (x3_1 : Int32)) m31 e32
      refine lv_istore_n (lv' := [(1, .int v32), (2, .int (nI q23)), (0, .ref (ad 0))]) S.1 S.2.1 dX7_idle_37 rfl hl3 (by decide) rfl (fun ls34 hl34 => ?_)
      have m36 : ((nI q23) + Int32.ofInt (1)) = (nI (q23 + 1)) := (congrArg (fun q : Int32 => q + Int32.ofInt (1)) rfl).trans (nI_add _ 1)
      refine lv_iinc (v := (nI (q23 + 1))) (lv' := [(2, .int (nI (q23 + 1))), (1, .int v32), (0, .ref (ad 0))]) S.1 S.2.1 dX7_idle_38 hl34 (k := 1) rfl (nI_add _ 1) (by decide) rfl (fun ls35 hl35 => ?_)
      refine lv_goto (tgt := 4) S.1 S.2.1 dX7_idle_41 (by decide) ?_
      have hE37 : M = (m_X7_idle_L4_3 n3) (AB ad F) (nI (q23 + 1)) v32 := hE4.trans ((show m_X7_idle_L4_3_b (m_X7_idle_L4_3 n3) (AB ad F) (nI q23) x3_1 = (m_X7_idle_L4_3 n3) (AB ad F) ((nI q23) + Int32.ofInt (1)) (x3_1 ||| ((AB ad F) ((rl ((AB ad F) 0 11)) + 2) (rl (nI q23)))) from by unfold m_X7_idle_L4_3_b; rw [if_neg (nle_cg m8 rfl c9), if_pos (eq_cg m20 rfl c21)]).trans (congr (congr (congrArg ((m_X7_idle_L4_3 n3)) (rfl : AB ad F = AB ad F)) m36) m33))
      exact ih3 (q23 + 1) (v32) (by omega) (by omega) hE37 ls35 (lv_sub hl35 [0, 1, 2] rfl)
  have hE38 : M = m_X7_idle_L4_3 2000 (AB ad F) (nI 0) (nI 0) := hM.trans ((show m_X7_idle (AB ad F) = m_X7_idle_L4_3 2000 (AB ad F) (nI 0) (nI 0) from rfl).trans (congr (congr (congrArg (m_X7_idle_L4_3 2000) (rfl : AB ad F = AB ad F)) (Eq.refl ((nI 0) : Int32))) (Eq.refl ((nI 0) : Int32))))
  exact lp3 2000 (0) ((nI 0)) (by omega) (by omega) hE38 ls2 (lv_sub hl2 [0, 1, 2] rfl)
noncomputable def m_X7_stranded_L22_11_b (k0 : SS → Int32 → Int32 → Int32 × SS) (σ : SS) (a0 : Int32) (a1 : Int32) : Int32 × SS :=
  if (σ (rl (σ 0 11)) 2) ≤ a0 then
    (a1, σ)
  else
    if (σ 45 (rl a0)) = (0 : Int32) then
      k0 σ (a0 + Int32.ofInt (1)) (a1 ||| ((nI 1) <<< (a0 &&& 31)))
    else
      k0 σ (a0 + Int32.ofInt (1)) a1
noncomputable def m_X7_stranded_L22_11 : Nat → SS → Int32 → Int32 → Int32 × SS
  | 0 => fun σ _ _ => (0, σ)
  | n + 1 => m_X7_stranded_L22_11_b (m_X7_stranded_L22_11 n)
noncomputable def m_X7_stranded_7 (σ : SS) : Int32 × SS :=
  m_X7_stranded_L22_11 2000 σ (nI 0) (nI 0)
noncomputable def m_X7_stranded (σ : SS) : Int32 × SS :=
  m_X7_stranded_7 (m_X0_fillExits σ (rl (σ 0 11)) 45 (σ 3 5))
set_option maxHeartbeats 4000000 in
set_option maxRecDepth 100000 in
theorem c_X7_stranded (l : Launch) (D : va_G) (cA ad : Nat → Nat) (t : Nat) (hI : rI ad) (F : Nat → va_E) (hW : WT cA ad F) : MI l D cA ad t yX7_stranded wsX7_stranded { frames := 3, cells := 0, slots := 0, locals := 69 } [.ref (ad 0)] F (fun r F' => WT cA ad F' ∧ rFr [45] F F' ∧ ((True) ∧ m_X7_stranded (AB ad F) = (r, AB ad F'))) := by
  refine en_I rfl (by decide +kernel) (Nat.le_of_ble_eq_true rfl) ?_
  intro p e s m args below meth c ls0 Q S hK hZ hP hS hl0 hret
  have hl0 : lv_has ls0 3 [(0, .ref (ad 0))] := hl0
  have hFr : rFr [45] F F := rFr.rf
  have hiX0 : ∀ w ∈ u_ws RX0 TX0 10, w ∈ wsX7_stranded := in_wsX7_stranded_3
  have hiX1 : ∀ w ∈ u_ws RX1 TX1 7, w ∈ wsX7_stranded := in_wsX7_stranded_2
  have hiX7 : ∀ w ∈ u_ws RX7 TX7 15, w ∈ wsX7_stranded := in_wsX7_stranded_1
  obtain ⟨M, hM⟩ : ∃ M, M = m_X7_stranded (AB ad F) := ⟨_, rfl⟩
  refine lv_aload_n S.1 S.2.1 dX7_stranded_0 rfl (lv_at hl0 0 rfl) ?_
  obtain ⟨c1, d1, k1, dr1, hF1, hc1, hd1, hk1⟩ := wt_main hW
  refine r_get S hK hP 0 (by decide) hF1 (C := RX7) (T := TX7) (N := 15) hiX7 rfl 11 (by decide) (am_at in_wsX7_stranded_0 0 rfl) (v := .ref (ad c1)) rfl dX7_stranded_1 ?_
  have m2 : (rl ((AB ad F) 0 11)) = c1 := AB_r hI (lt_C hc1) hF1 rfl
  refine lv_aload_n S.1 S.2.1 dX7_stranded_4 rfl (lv_at hl0 0 rfl) ?_
  refine r_get S hK hP 0 (by decide) hF1 (C := RX7) (T := TX7) (N := 15) hiX7 rfl 10 (by decide) (am_at in_wsX7_stranded_0 1 rfl) (v := .ref (ad 45)) rfl dX7_stranded_5 ?_
  refine lv_aload_n S.1 S.2.1 dX7_stranded_8 rfl (lv_at hl0 0 rfl) ?_
  refine r_get S hK hP 0 (by decide) hF1 (C := RX7) (T := TX7) (N := 15) hiX7 rfl 1 (by decide) (am_at in_wsX7_stranded_0 2 rfl) (v := .ref (ad 3)) rfl dX7_stranded_9 ?_
  obtain ⟨ja3, jb3, jc3, jd3, jx3, jy3, jk3, hF3, hk3⟩ := wt_J hW (show isJ 3 from Or.inl rfl)
  refine r_get S hK hP 3 (by decide) hF3 (C := RX1) (T := TX1) (N := 7) hiX1 rfl 5 (by decide) (am_at in_wsX7_stranded_0 3 rfl) (v := .int jy3) rfl dX7_stranded_12 ?_
  have m4 : ((AB ad F) 3 5) = jy3 := AB_f hF3 rfl
  obtain ⟨sl6, fm6, tn6, rn6, bn6, hF6, hb6_1, hb6_2, hb6_3⟩ := wt_C hW hc1
  refine r_cVv (As := [.ref (ad 45), .int jy3]) (rest := []) S hK hZ hP hS hl0.1 c1 (lt_C hc1) hF6 (C := RX0) rfl (c_X0_fillExits l D cA ad t hI F hW c1 hc1 45 (show (45, 8) ∈ rLI by decide) (by decide) jy3) (cwV 2 S.2.2.2.2 gX7_stranded_X0_fillExits rfl rfl rfl (by decide +kernel) ⟨Nat.le_of_ble_eq_true rfl, Nat.le_of_ble_eq_true rfl⟩) rfl rfl (Nat.le_of_ble_eq_true rfl) ⟨Nat.zero_le _, Nat.zero_le _⟩ dX7_stranded_15 (fun F5 H5 locs5 hr5 hP5 hS5 => ?_)
  obtain ⟨hW5, hFc5, hr5⟩ := hr5
  obtain ⟨hr5, hm5⟩ := hr5
  have hFr5 := hFr.tr hFc5 (by simp <;> first | omega | (simp only [isC, isJ] at *; omega))
  have hE8 : M = m_X7_stranded_7 (AB ad F5) := hM.trans ((show m_X7_stranded (AB ad F) = m_X7_stranded_7 (m_X0_fillExits (AB ad F) (rl ((AB ad F) 0 11)) 45 ((AB ad F) 3 5)) from rfl).trans (congrArg (m_X7_stranded_7) ((congr (congr (congr (Eq.refl (m_X0_fillExits (AB ad F))) m2) (Eq.refl 45)) m4).trans hm5)))
  refine lv_iconst (v := (nI 0)) S.1 S.2.1 dX7_stranded_18 (by decide +kernel) ?_
  refine lv_istore_n (lv' := [(1, .int (nI 0)), (0, .ref (ad 0))]) S.1 S.2.1 dX7_stranded_19 rfl hl0 (by decide) rfl (fun ls9 hl9 => ?_)
  refine lv_iconst (v := (nI 0)) S.1 S.2.1 dX7_stranded_20 (by decide +kernel) ?_
  refine lv_istore_n (lv' := [(2, .int (nI 0)), (1, .int (nI 0)), (0, .ref (ad 0))]) S.1 S.2.1 dX7_stranded_21 rfl hl9 (by decide) rfl (fun ls10 hl10 => ?_)
  have lp11 : ∀ (n11 : Nat) (q211 : Nat) (x11_1 : Int32), q211 ≤ 8 → 8 - q211 < n11 → M = m_X7_stranded_L22_11 n11 (AB ad F5) (nI q211) x11_1 → ∀ (ls : Array Slot), lv_has ls 3 [(2, .int (nI q211)), (1, .int x11_1), (0, .ref (ad 0))] → W p l e { frames := 3, cells := 0, slots := 0, locals := 69 } s m args below meth c H5 locs5 0 0 Q (F0 m 22 ls []) := by
    intro n11
    induction n11 with
    | zero =>
      intro q211 x11_1 iv11_0 hm11 hEl11 ls11 hl11
      exact absurd hm11 (Nat.not_lt_zero _)
    | succ n11 ih11 =>
      intro q211 x11_1 iv11_0 hm11 hEl11 ls11 hl11
      have hE12 : M = m_X7_stranded_L22_11_b (m_X7_stranded_L22_11 n11) (AB ad F5) (nI q211) x11_1 := hEl11
      refine lv_iload_n S.1 S.2.1 dX7_stranded_22 rfl (lv_at hl11 0 rfl) ?_
      refine lv_aload_n S.1 S.2.1 dX7_stranded_23 rfl (lv_at hl11 2 rfl) ?_
      have hF13 := (hFc5 0 (by decide)).trans hF1
      refine r_get S hK hP5 0 (by decide) hF13 (C := RX7) (T := TX7) (N := 15) hiX7 rfl 11 (by decide) (am_at in_wsX7_stranded_0 0 rfl) (v := .ref (ad c1)) rfl dX7_stranded_24 ?_
      have m14 : (rl ((AB ad F5) 0 11)) = c1 := AB_r hI (lt_C hc1) hF13 rfl
      have hF15 := (hFc5 c1 (by have hh1 := hc1; unfold isC at hh1; simp only [List.mem_cons, List.not_mem_nil, or_false, not_or]; omega)).trans hF6
      refine r_get S hK hP5 c1 (lt_C hc1) hF15 (C := RX0) (T := TX0) (N := 10) hiX0 rfl 2 (by decide) (am_at in_wsX7_stranded_0 4 rfl) (v := .int (nI tn6)) rfl dX7_stranded_27 ?_
      have m16 : ((AB ad F5) (rl ((AB ad F5) 0 11)) 2) = (nI tn6) := (congrArg (fun q => AB ad F5 q 2) m14).trans (AB_f hF15 rfl)
      refine lv_icmp_ge (tgt := 54) S.1 S.2.1 dX7_stranded_30 (by decide) (fun c17 => ?_) (fun c17 => ?_)
      · skip
        have k18 := ci_le (nI_toInt (n := tn6) (by omega)) (nI_toInt (n := q211) (by omega)) c17
        refine lv_iload_n S.1 S.2.1 dX7_stranded_54 rfl (lv_at hl11 1 rfl) ?_
        have hE19 : M = (x11_1, AB ad F5) := hE12.trans ((show m_X7_stranded_L22_11_b (m_X7_stranded_L22_11 n11) (AB ad F5) (nI q211) x11_1 = (x11_1, (AB ad F5)) from by unfold m_X7_stranded_L22_11_b; rw [if_pos (le_cg m16 rfl c17)]).trans (congrArg (fun q => (q, AB ad F5)) rfl))
        exact hret 55 _ _ _ _ _ dX7_stranded_55 rfl hP5 hS5 ⟨hW5, hFr5, ⟨trivial, hM.symm.trans hE19⟩⟩
      have k20 := ci_nle (nI_toInt (n := tn6) (by omega)) (nI_toInt (n := q211) (by omega)) c17
      refine lv_aload_n S.1 S.2.1 dX7_stranded_33 rfl (lv_at hl11 2 rfl) ?_
      refine r_get S hK hP5 0 (by decide) hF13 (C := RX7) (T := TX7) (N := 15) hiX7 rfl 10 (by decide) (am_at in_wsX7_stranded_0 1 rfl) (v := .ref (ad 45)) rfl dX7_stranded_34 ?_
      refine lv_iload_n S.1 S.2.1 dX7_stranded_37 rfl (lv_at hl11 0 rfl) ?_
      obtain ⟨g21, hF21, hg21⟩ := wt_I hW5 (show (45, 8) ∈ rLI by decide)
      refine r_iald S hK hP5 45 (by decide) hF21 (vp_in_nI (show q211 < 8 by omega) (by omega)) dX7_stranded_38 ?_
      refine lv_topi (fun v23 e23 => ?_)
      have m24 : ((AB ad F5) 45 (rl (nI q211))) = v23 := (ab_cg rfl rfl).trans ((AB_g hF21).trans e23.symm)
      refine lv_if_ne (tgt := 48) S.1 S.2.1 dX7_stranded_39 (by decide) (fun c25 => ?_) (fun c25 => ?_)
      · skip
        have k26 := ci_ne rfl z_ti c25
        have m28 : ((nI q211) + Int32.ofInt (1)) = (nI (q211 + 1)) := (congrArg (fun q : Int32 => q + Int32.ofInt (1)) rfl).trans (nI_add _ 1)
        refine lv_iinc (v := (nI (q211 + 1))) (lv' := [(2, .int (nI (q211 + 1))), (1, .int x11_1), (0, .ref (ad 0))]) S.1 S.2.1 dX7_stranded_48 hl11 (k := 0) rfl (nI_add _ 1) (by decide) rfl (fun ls27 hl27 => ?_)
        refine lv_goto (tgt := 22) S.1 S.2.1 dX7_stranded_51 (by decide) ?_
        have hE29 : M = (m_X7_stranded_L22_11 n11) (AB ad F5) (nI (q211 + 1)) x11_1 := hE12.trans ((show m_X7_stranded_L22_11_b (m_X7_stranded_L22_11 n11) (AB ad F5) (nI q211) x11_1 = (m_X7_stranded_L22_11 n11) (AB ad F5) ((nI q211) + Int32.ofInt (1)) x11_1 from by unfold m_X7_stranded_L22_11_b; rw [if_neg (nle_cg m16 rfl c17), if_neg (neq_cg m24 rfl c25)]).trans (congr (congr (congrArg ((m_X7_stranded_L22_11 n11)) (rfl : AB ad F5 = AB ad F5)) m28) (Eq.refl (x11_1 : Int32))))
        exact ih11 (q211 + 1) (x11_1) (by omega) (by omega) hE29 ls27 (lv_sub hl27 [0, 1, 2] rfl)
      have k30 := ci_eq rfl z_ti c25
      refine lv_iload_n S.1 S.2.1 dX7_stranded_42 rfl (lv_at hl11 1 rfl) ?_
      refine lv_iconst (v := (nI 1)) S.1 S.2.1 dX7_stranded_43 (by decide +kernel) ?_
      refine lv_iload_n S.1 S.2.1 dX7_stranded_44 rfl (lv_at hl11 0 rfl) ?_
      refine lv_ishl S.1 S.2.1 dX7_stranded_45 ?_
      refine lv_topi (fun v31 e31 => ?_)
      have m32 : ((nI 1) <<< ((nI q211) &&& 31)) = v31 := cg2 (fun (x : Int32) (y : Int32) => x <<< (y &&& 31)) (Eq.refl ((nI 1) : Int32)) (Eq.refl ((nI q211) : Int32)) e31
      refine lv_ior S.1 S.2.1 dX7_stranded_46 ?_
      refine lv_topi (fun v33 e33 => ?_)
      have m34 : (x11_1 ||| ((nI 1) <<< ((nI q211) &&& 31))) = v33 := cg2 (fun (x : Int32) (y : Int32) => x ||| y) (Eq.refl (x11_1 : Int32)) m32 e33
      refine lv_istore_n (lv' := [(1, .int v33), (2, .int (nI q211)), (0, .ref (ad 0))]) S.1 S.2.1 dX7_stranded_47 rfl hl11 (by decide) rfl (fun ls35 hl35 => ?_)
      have m37 : ((nI q211) + Int32.ofInt (1)) = (nI (q211 + 1)) := (congrArg (fun q : Int32 => q + Int32.ofInt (1)) rfl).trans (nI_add _ 1)
      refine lv_iinc (v := (nI (q211 + 1))) (lv' := [(2, .int (nI (q211 + 1))), (1, .int v33), (0, .ref (ad 0))]) S.1 S.2.1 dX7_stranded_48 hl35 (k := 1) rfl (nI_add _ 1) (by decide) rfl (fun ls36 hl36 => ?_)
      refine lv_goto (tgt := 22) S.1 S.2.1 dX7_stranded_51 (by decide) ?_
      have hE38 : M = (m_X7_stranded_L22_11 n11) (AB ad F5) (nI (q211 + 1)) v33 := hE12.trans ((show m_X7_stranded_L22_11_b (m_X7_stranded_L22_11 n11) (AB ad F5) (nI q211) x11_1 = (m_X7_stranded_L22_11 n11) (AB ad F5) ((nI q211) + Int32.ofInt (1)) (x11_1 ||| ((nI 1) <<< ((nI q211) &&& 31))) from by unfold m_X7_stranded_L22_11_b; rw [if_neg (nle_cg m16 rfl c17), if_pos (eq_cg m24 rfl c25)]).trans (congr (congr (congrArg ((m_X7_stranded_L22_11 n11)) (rfl : AB ad F5 = AB ad F5)) m37) m34))
      exact ih11 (q211 + 1) (v33) (by omega) (by omega) hE38 ls36 (lv_sub hl36 [0, 1, 2] rfl)
  have hE39 : M = m_X7_stranded_L22_11 2000 (AB ad F5) (nI 0) (nI 0) := hE8.trans ((show m_X7_stranded_7 (AB ad F5) = m_X7_stranded_L22_11 2000 (AB ad F5) (nI 0) (nI 0) from rfl).trans (congr (congr (congrArg (m_X7_stranded_L22_11 2000) (rfl : AB ad F5 = AB ad F5)) (Eq.refl ((nI 0) : Int32))) (Eq.refl ((nI 0) : Int32))))
  exact lp11 2000 (0) ((nI 0)) (by omega) (by omega) hE39 ls10 (lv_sub hl10 [0, 1, 2] rfl)
set_option maxHeartbeats 4000000 in
set_option maxRecDepth 100000 in
theorem c_X7_snow (l : Launch) (D : va_G) (cA ad : Nat → Nat) (t : Nat) (hI : rI ad) (F : Nat → va_E) (hW : WT cA ad F) (p1 : Int32) (p2 : Int32) : MP l D cA ad t yX7_snow wsX7_snow { frames := 0, cells := 0, slots := 0, locals := 0 } [.ref (ad 0), .int p1, .int p2] F (fun r => r = snR p1 p2) := by
  refine en_P rfl (by decide +kernel) (Nat.le_of_ble_eq_true rfl) ?_
  intro p e s m args below meth c ls0 Q S hK hZ hP hS hl0 hret
  have hl0 : lv_has ls0 6 [(0, .ref (ad 0)), (1, .int p1), (2, .int p2)] := hl0
  refine lv_iload_n S.1 S.2.1 dX7_snow_0 rfl (lv_at hl0 1 rfl) ?_
  refine lv_if_lt (tgt := 20) S.1 S.2.1 dX7_snow_1 (by decide) (fun c1 => ?_) (fun c1 => ?_)
  · skip
    have k2 := ci_lt rfl z_ti c1
    refine lv_ldc (v := (-1000000002)) S.1 S.2.1 S.2.2.2.1 (S.2.2.2.2 (.constant RX7 79 (-1000000002)) (am_at in_wsX7_snow_0 0 rfl)) dX7_snow_20 ?_
    exact hret 22 _ _ dX7_snow_22 rfl (by unfold snR; rw [if_pos (by omega)])
  have k3 := ci_nlt rfl z_ti c1
  refine lv_iload_n S.1 S.2.1 dX7_snow_4 rfl (lv_at hl0 1 rfl) ?_
  refine lv_bipush (v := (nI 60)) S.1 S.2.1 dX7_snow_5 (by decide +kernel) ?_
  refine lv_icmp_gt (tgt := 20) S.1 S.2.1 dX7_snow_7 (by decide) (fun c4 => ?_) (fun c4 => ?_)
  · skip
    have k5 := ci_lt (nI_toInt (n := 60) (by decide)) rfl c4
    refine lv_ldc (v := (-1000000002)) S.1 S.2.1 S.2.2.2.1 (S.2.2.2.2 (.constant RX7 79 (-1000000002)) (am_at in_wsX7_snow_0 0 rfl)) dX7_snow_20 ?_
    exact hret 22 _ _ dX7_snow_22 rfl (by unfold snR; rw [if_pos (by omega)])
  have k6 := ci_nlt (nI_toInt (n := 60) (by decide)) rfl c4
  refine lv_iload_n S.1 S.2.1 dX7_snow_10 rfl (lv_at hl0 2 rfl) ?_
  refine lv_if_lt (tgt := 20) S.1 S.2.1 dX7_snow_11 (by decide) (fun c7 => ?_) (fun c7 => ?_)
  · skip
    have k8 := ci_lt rfl z_ti c7
    refine lv_ldc (v := (-1000000002)) S.1 S.2.1 S.2.2.2.1 (S.2.2.2.2 (.constant RX7 79 (-1000000002)) (am_at in_wsX7_snow_0 0 rfl)) dX7_snow_20 ?_
    exact hret 22 _ _ dX7_snow_22 rfl (by unfold snR; rw [if_pos (by omega)])
  have k9 := ci_nlt rfl z_ti c7
  refine lv_iload_n S.1 S.2.1 dX7_snow_14 rfl (lv_at hl0 2 rfl) ?_
  refine lv_bipush (v := (nI 100)) S.1 S.2.1 dX7_snow_15 (by decide +kernel) ?_
  refine lv_icmp_le (tgt := 23) S.1 S.2.1 dX7_snow_17 (by decide) (fun c10 => ?_) (fun c10 => ?_)
  · skip
    have k11 := ci_le rfl (nI_toInt (n := 100) (by decide)) c10
    obtain ⟨j12, hj12, rfl⟩ := nI_of_le (x := p1) (B := 60) (by omega) (by omega)
    have kj12 := nI_toInt (n := j12) (Nat.lt_of_le_of_lt hj12 (by decide))
    refine lv_ldc2 (v := 1000000000) S.1 S.2.1 S.2.2.2.1 (S.2.2.2.2 (.constantLong RX7 233 (1000000000)) (am_at in_wsX7_snow_0 1 rfl)) dX7_snow_23 ?_
    refine lv_lstore_n (lv' := [(3, .long (1000000000)), (0, .ref (ad 0)), (1, .int (nI j12)), (2, .int p2)]) S.1 S.2.1 dX7_snow_26 rfl hl0 (by decide) rfl (fun ls13 hl13 => ?_)
    refine lv_iconst (v := (nI 0)) S.1 S.2.1 dX7_snow_27 (by decide +kernel) ?_
    refine lv_istore (lv' := [(5, .int (nI 0)), (3, .long (1000000000)), (0, .ref (ad 0)), (1, .int (nI j12)), (2, .int p2)]) S.1 S.2.1 dX7_snow_28 hl13 (by decide) rfl (fun ls14 hl14 => ?_)
    have lp15 : ∀ (n15 : Nat) (q515 : Nat) (x15_3 : Int64), q515 ≤ j12 → x15_3 = snS p2 q515 → j12 - q515 < n15 → ∀ (ls : Array Slot), lv_has ls 6 [(5, .int (nI q515)), (3, .long x15_3), (0, .ref (ad 0)), (1, .int (nI j12)), (2, .int p2)] → W p l e { frames := 0, cells := 0, slots := 0, locals := 0 } s m args below meth c s.heap [] 0 0 Q (F0 m 30 ls []) := by
      intro n15
      induction n15 with
      | zero =>
        intro q515 x15_3 iv15_0 ix15_o hm15 ls15 hl15
        exact absurd hm15 (Nat.not_lt_zero _)
      | succ n15 ih15 =>
        intro q515 x15_3 iv15_0 ix15_o hm15 ls15 hl15
        refine lv_iload S.1 S.2.1 dX7_snow_30 (lv_at hl15 0 rfl) ?_
        refine lv_iload_n S.1 S.2.1 dX7_snow_32 rfl (lv_at hl15 3 rfl) ?_
        refine lv_icmp_ge (tgt := 54) S.1 S.2.1 dX7_snow_33 (by decide) (fun c16 => ?_) (fun c16 => ?_)
        · skip
          have k17 := ci_le (nI_toInt (n := j12) (Nat.lt_of_le_of_lt hj12 (by decide))) (nI_toInt (n := q515) (by omega)) c16
          refine lv_lload_n S.1 S.2.1 dX7_snow_54 rfl (lv_at hl15 1 rfl) ?_
          refine lv_l2i S.1 S.2.1 dX7_snow_55 rfl ?_
          refine lv_topi (fun v18 e18 => ?_)
          exact hret 56 _ _ dX7_snow_56 rfl (by rw [e18, ix15_o, show q515 = j12 by omega]; unfold snR; rw [if_neg (by omega), nI_clamp (by omega)])
        have k19 := ci_nle (nI_toInt (n := j12) (Nat.lt_of_le_of_lt hj12 (by decide))) (nI_toInt (n := q515) (by omega)) c16
        refine lv_lload_n S.1 S.2.1 dX7_snow_36 rfl (lv_at hl15 1 rfl) ?_
        refine lv_bipush (v := (nI 100)) S.1 S.2.1 dX7_snow_37 (by decide +kernel) ?_
        refine lv_iload_n S.1 S.2.1 dX7_snow_39 rfl (lv_at hl15 4 rfl) ?_
        refine lv_isub S.1 S.2.1 dX7_snow_40 ?_
        refine lv_topi (fun v20 e20 => ?_)
        refine lv_i2l S.1 S.2.1 dX7_snow_41 rfl ?_
        refine lv_topl (fun v21 e21 => ?_)
        refine lv_lmul S.1 S.2.1 dX7_snow_42 ?_
        refine lv_topl (fun v22 e22 => ?_)
        refine lv_ldc2 (v := 100) S.1 S.2.1 S.2.2.2.1 (S.2.2.2.2 (.constantLong RX7 235 (100)) (am_at in_wsX7_snow_0 2 rfl)) dX7_snow_43 ?_
        refine lv_ldiv S.1 S.2.1 dX7_snow_46 (by decide +kernel) ?_
        refine lv_topl (fun v23 e23 => ?_)
        refine lv_lstore_n (lv' := [(3, .long v23), (5, .int (nI q515)), (0, .ref (ad 0)), (1, .int (nI j12)), (2, .int p2)]) S.1 S.2.1 dX7_snow_47 rfl hl15 (by decide) rfl (fun ls24 hl24 => ?_)
        refine lv_iinc (v := (nI (q515 + 1))) (lv' := [(5, .int (nI (q515 + 1))), (3, .long v23), (0, .ref (ad 0)), (1, .int (nI j12)), (2, .int p2)]) S.1 S.2.1 dX7_snow_48 hl24 (k := 1) rfl (nI_add _ 1) (by decide) rfl (fun ls25 hl25 => ?_)
        refine lv_goto (tgt := 30) S.1 S.2.1 dX7_snow_51 (by decide) ?_
        exact ih15 (q515 + 1) (v23) (by omega) (by rw [e23, e22, e21, e20, ix15_o]; rfl) (by omega) ls25 (lv_sub hl25 [0, 1, 2, 3, 4] rfl)
    exact lp15 (j12 - (0) + 1) (0) ((1000000000)) (by omega) (rfl) (by omega) ls14 (lv_sub hl14 [0, 1, 2, 3, 4] rfl)
  have k26 := ci_nle rfl (nI_toInt (n := 100) (by decide)) c10
  refine lv_ldc (v := (-1000000002)) S.1 S.2.1 S.2.2.2.1 (S.2.2.2.2 (.constant RX7 79 (-1000000002)) (am_at in_wsX7_snow_0 0 rfl)) dX7_snow_20 ?_
  exact hret 22 _ _ dX7_snow_22 rfl (by unfold snR; rw [if_pos (by omega)])
noncomputable def m_X7_seal_20 (σ : SS) (a0 : Int32) (a1 : Int32) : Int32 × SS :=
  ((σ 33 0), σ)
noncomputable def m_X7_seal (σ : SS) (a0 : Int32) (a1 : Int32) : Int32 × SS :=
  if (m_X0_hasTown σ (rl (σ 0 11)) a0) = (0 : Int32) then
    (((-1000000001) : Int32), σ)
  else
    if a1 < (0 : Int32) then
      (((-1000000002) : Int32), σ)
    else
      if a1 < (nI 48) then
        if (σ 33 0) < (nI 8) then
          m_X7_seal_20 (m_X6_add σ a0 a1) a0 a1
        else
          (((-1000000004) : Int32), σ)
      else
        (((-1000000002) : Int32), σ)
set_option maxHeartbeats 4000000 in
set_option maxRecDepth 100000 in
theorem c_X7_seal (l : Launch) (D : va_G) (cA ad : Nat → Nat) (t : Nat) (hI : rI ad) (F : Nat → va_E) (hW : WT cA ad F) (p1 : Int32) (p2 : Int32) : MI l D cA ad t yX7_seal wsX7_seal { frames := 1, cells := 0, slots := 0, locals := 22 } [.ref (ad 0), .int p1, .int p2] F (fun r F' => WT cA ad F' ∧ rFr [33, 34, 35] F F' ∧ ((True) ∧ m_X7_seal (AB ad F) p1 p2 = (r, AB ad F'))) := by
  refine en_I rfl (by decide +kernel) (Nat.le_of_ble_eq_true rfl) ?_
  intro p e s m args below meth c ls0 Q S hK hZ hP hS hl0 hret
  have hl0 : lv_has ls0 3 [(0, .ref (ad 0)), (1, .int p1), (2, .int p2)] := hl0
  have hFr : rFr [33, 34, 35] F F := rFr.rf
  have hiX6 : ∀ w ∈ u_ws RX6 TX6 6, w ∈ wsX7_seal := in_wsX7_seal_2
  have hiX7 : ∀ w ∈ u_ws RX7 TX7 15, w ∈ wsX7_seal := in_wsX7_seal_1
  obtain ⟨M, hM⟩ : ∃ M, M = m_X7_seal (AB ad F) p1 p2 := ⟨_, rfl⟩
  refine lv_aload_n S.1 S.2.1 dX7_seal_0 rfl (lv_at hl0 0 rfl) ?_
  obtain ⟨c1, d1, k1, dr1, hF1, hc1, hd1, hk1⟩ := wt_main hW
  refine r_get S hK hP 0 (by decide) hF1 (C := RX7) (T := TX7) (N := 15) hiX7 rfl 11 (by decide) (am_at in_wsX7_seal_0 0 rfl) (v := .ref (ad c1)) rfl dX7_seal_1 ?_
  have m2 : (rl ((AB ad F) 0 11)) = c1 := AB_r hI (lt_C hc1) hF1 rfl
  refine lv_iload_n S.1 S.2.1 dX7_seal_4 rfl (lv_at hl0 1 rfl) ?_
  obtain ⟨sl4, fm4, tn4, rn4, bn4, hF4, hb4_1, hb4_2, hb4_3⟩ := wt_C hW hc1
  refine r_cVp (As := [.int p1]) (rest := []) S hK hZ hP hS hl0.1 c1 (lt_C hc1) hF4 (C := RX0) rfl (c_X0_hasTown l D cA ad t hI F hW c1 hc1 p1) (cwV 1 S.2.2.2.2 gX7_seal_X0_hasTown rfl rfl rfl (by decide +kernel) ⟨Nat.le_of_ble_eq_true rfl, Nat.le_of_ble_eq_true rfl⟩) rfl rfl (Nat.le_of_ble_eq_true rfl) ⟨Nat.zero_le _, Nat.zero_le _⟩ dX7_seal_5 (fun r3 hr3 => ?_)
  obtain ⟨hr3, hm3⟩ := hr3
  obtain ⟨⟨b5, hb5, rfl⟩, hx5⟩ := hr3
  have hx5 : b5 ≠ 0 → 0 ≤ p1.toInt ∧ p1.toInt ≤ _ := fun q => hx5 (nI_ne0 (by omega) (by omega))
  have m6 : (m_X0_hasTown (AB ad F) (rl ((AB ad F) 0 11)) p1) = (nI b5) := (congr (congr (Eq.refl (m_X0_hasTown (AB ad F))) m2) (Eq.refl (p1 : Int32))).trans hm3
  refine lv_if_ne (tgt := 14) S.1 S.2.1 dX7_seal_8 (by decide) (fun c7 => ?_) (fun c7 => ?_)
  · skip
    have k8 := ci_ne (nI_toInt (n := b5) (Nat.lt_of_le_of_lt hb5 (by decide))) z_ti c7
    refine lv_iload_n S.1 S.2.1 dX7_seal_14 rfl (lv_at hl0 2 rfl) ?_
    refine lv_if_lt (tgt := 24) S.1 S.2.1 dX7_seal_15 (by decide) (fun c9 => ?_) (fun c9 => ?_)
    · skip
      have k10 := ci_lt rfl z_ti c9
      refine lv_ldc (v := (-1000000002)) S.1 S.2.1 S.2.2.2.1 (S.2.2.2.2 (.constant RX7 79 (-1000000002)) (am_at in_wsX7_seal_0 2 rfl)) dX7_seal_24 ?_
      have hE11 : M = ((-1000000002), AB ad F) := hM.trans ((show m_X7_seal (AB ad F) p1 p2 = (((-1000000002) : Int32), (AB ad F)) from by unfold m_X7_seal; rw [if_neg (neq_cg m6 rfl c7), if_pos (lt_cg rfl rfl c9)]).trans (congrArg (fun q => (q, AB ad F)) rfl))
      exact hret 26 _ _ _ _ _ dX7_seal_26 rfl hP hS ⟨hW, hFr, ⟨trivial, hM.symm.trans hE11⟩⟩
    have k12 := ci_nlt rfl z_ti c9
    refine lv_iload_n S.1 S.2.1 dX7_seal_18 rfl (lv_at hl0 2 rfl) ?_
    refine lv_bipush (v := (nI 48)) S.1 S.2.1 dX7_seal_19 (by decide +kernel) ?_
    refine lv_icmp_lt (tgt := 27) S.1 S.2.1 dX7_seal_21 (by decide) (fun c13 => ?_) (fun c13 => ?_)
    · skip
      have k14 := ci_lt rfl (nI_toInt (n := 48) (by decide)) c13
      refine lv_aload_n S.1 S.2.1 dX7_seal_27 rfl (lv_at hl0 0 rfl) ?_
      refine r_get S hK hP 0 (by decide) hF1 (C := RX7) (T := TX7) (N := 15) hiX7 rfl 5 (by decide) (am_at in_wsX7_seal_0 3 rfl) (v := .ref (ad 33)) rfl dX7_seal_28 ?_
      obtain ⟨k15, hF15, hk15⟩ := wt_ways hW
      refine r_get S hK hP 33 (by decide) hF15 (C := RX6) (T := TX6) (N := 6) hiX6 rfl 0 (by decide) (am_at in_wsX7_seal_0 4 rfl) (v := .int (nI k15)) rfl dX7_seal_31 ?_
      have m16 : ((AB ad F) 33 0) = (nI k15) := AB_f hF15 rfl
      refine lv_bipush (v := (nI 8)) S.1 S.2.1 dX7_seal_34 (by decide +kernel) ?_
      refine lv_icmp_lt (tgt := 42) S.1 S.2.1 dX7_seal_36 (by decide) (fun c17 => ?_) (fun c17 => ?_)
      · skip
        have k18 := ci_lt (nI_toInt (n := k15) (by omega)) (nI_toInt (n := 8) (by decide)) c17
        refine lv_aload_n S.1 S.2.1 dX7_seal_42 rfl (lv_at hl0 0 rfl) ?_
        refine r_get S hK hP 0 (by decide) hF1 (C := RX7) (T := TX7) (N := 15) hiX7 rfl 5 (by decide) (am_at in_wsX7_seal_0 3 rfl) (v := .ref (ad 33)) rfl dX7_seal_43 ?_
        refine lv_iload_n S.1 S.2.1 dX7_seal_46 rfl (lv_at hl0 1 rfl) ?_
        refine lv_iload_n S.1 S.2.1 dX7_seal_47 rfl (lv_at hl0 2 rfl) ?_
        refine r_cVv (As := [.int p1, .int p2]) (rest := []) S hK hZ hP hS hl0.1 33 (by decide) hF15 (C := RX6) rfl (c_X6_add l D cA ad t hI F hW p1 p2) (cwV 2 S.2.2.2.2 gX7_seal_X6_add rfl rfl rfl (by decide +kernel) ⟨Nat.le_of_ble_eq_true rfl, Nat.le_of_ble_eq_true rfl⟩) rfl rfl (Nat.le_of_ble_eq_true rfl) ⟨Nat.zero_le _, Nat.zero_le _⟩ dX7_seal_48 (fun F19 H19 locs19 hr19 hP19 hS19 => ?_)
        obtain ⟨hW19, hFc19, hr19⟩ := hr19
        obtain ⟨hr19, hm19⟩ := hr19
        have hFr19 := hFr.tr hFc19 (by simp <;> first | omega | (simp only [isC, isJ] at *; omega))
        have hE21 : M = m_X7_seal_20 (AB ad F19) p1 p2 := hM.trans ((show m_X7_seal (AB ad F) p1 p2 = m_X7_seal_20 (m_X6_add (AB ad F) p1 p2) p1 p2 from by unfold m_X7_seal; rw [if_neg (neq_cg m6 rfl c7), if_neg (nlt_cg rfl rfl c9), if_pos (lt_cg rfl rfl c13), if_pos (lt_cg m16 rfl c17)]).trans (congr (congr (congrArg (m_X7_seal_20) ((congr (congr (Eq.refl (m_X6_add (AB ad F))) (Eq.refl (p1 : Int32))) (Eq.refl (p2 : Int32))).trans hm19)) (Eq.refl (p1 : Int32))) (Eq.refl (p2 : Int32))))
        refine lv_aload_n S.1 S.2.1 dX7_seal_51 rfl (lv_at hl0 0 rfl) ?_
        have hF22 := (hFc19 0 (by decide)).trans hF1
        refine r_get S hK hP19 0 (by decide) hF22 (C := RX7) (T := TX7) (N := 15) hiX7 rfl 5 (by decide) (am_at in_wsX7_seal_0 3 rfl) (v := .ref (ad 33)) rfl dX7_seal_52 ?_
        obtain ⟨k23, hF23, hk23⟩ := wt_ways hW19
        refine r_get S hK hP19 33 (by decide) hF23 (C := RX6) (T := TX6) (N := 6) hiX6 rfl 0 (by decide) (am_at in_wsX7_seal_0 4 rfl) (v := .int (nI k23)) rfl dX7_seal_55 ?_
        have m24 : ((AB ad F19) 33 0) = (nI k23) := AB_f hF23 rfl
        have hE25 : M = ((nI k23), AB ad F19) := hE21.trans ((show m_X7_seal_20 (AB ad F19) p1 p2 = (((AB ad F19) 33 0), (AB ad F19)) from rfl).trans (congrArg (fun q => (q, AB ad F19)) m24))
        exact hret 58 _ _ _ _ _ dX7_seal_58 rfl hP19 hS19 ⟨hW19, hFr19, ⟨trivial, hM.symm.trans hE25⟩⟩
      have k26 := ci_nlt (nI_toInt (n := k15) (by omega)) (nI_toInt (n := 8) (by decide)) c17
      refine lv_ldc (v := (-1000000004)) S.1 S.2.1 S.2.2.2.1 (S.2.2.2.2 (.constant RX7 84 (-1000000004)) (am_at in_wsX7_seal_0 5 rfl)) dX7_seal_39 ?_
      have hE27 : M = ((-1000000004), AB ad F) := hM.trans ((show m_X7_seal (AB ad F) p1 p2 = (((-1000000004) : Int32), (AB ad F)) from by unfold m_X7_seal; rw [if_neg (neq_cg m6 rfl c7), if_neg (nlt_cg rfl rfl c9), if_pos (lt_cg rfl rfl c13), if_neg (nlt_cg m16 rfl c17)]).trans (congrArg (fun q => (q, AB ad F)) rfl))
      exact hret 41 _ _ _ _ _ dX7_seal_41 rfl hP hS ⟨hW, hFr, ⟨trivial, hM.symm.trans hE27⟩⟩
    have k28 := ci_nlt rfl (nI_toInt (n := 48) (by decide)) c13
    refine lv_ldc (v := (-1000000002)) S.1 S.2.1 S.2.2.2.1 (S.2.2.2.2 (.constant RX7 79 (-1000000002)) (am_at in_wsX7_seal_0 2 rfl)) dX7_seal_24 ?_
    have hE29 : M = ((-1000000002), AB ad F) := hM.trans ((show m_X7_seal (AB ad F) p1 p2 = (((-1000000002) : Int32), (AB ad F)) from by unfold m_X7_seal; rw [if_neg (neq_cg m6 rfl c7), if_neg (nlt_cg rfl rfl c9), if_neg (nlt_cg rfl rfl c13)]).trans (congrArg (fun q => (q, AB ad F)) rfl))
    exact hret 26 _ _ _ _ _ dX7_seal_26 rfl hP hS ⟨hW, hFr, ⟨trivial, hM.symm.trans hE29⟩⟩
  have k30 := ci_eq (nI_toInt (n := b5) (Nat.lt_of_le_of_lt hb5 (by decide))) z_ti c7
  refine lv_ldc (v := (-1000000001)) S.1 S.2.1 S.2.2.2.1 (S.2.2.2.2 (.constant RX7 147 (-1000000001)) (am_at in_wsX7_seal_0 1 rfl)) dX7_seal_11 ?_
  have hE31 : M = ((-1000000001), AB ad F) := hM.trans ((show m_X7_seal (AB ad F) p1 p2 = (((-1000000001) : Int32), (AB ad F)) from by unfold m_X7_seal; rw [if_pos (eq_cg m6 rfl c7)]).trans (congrArg (fun q => (q, AB ad F)) rfl))
  exact hret 13 _ _ _ _ _ dX7_seal_13 rfl hP hS ⟨hW, hFr, ⟨trivial, hM.symm.trans hE31⟩⟩
noncomputable def m_X7_fits_7 (σ : SS) (a0 : Int32) : Int32 × SS :=
  if a0 = (0 : Int32) then
    ((nI 0), σ)
  else
    ((nI 1), σ)
noncomputable def m_X7_fits (σ : SS) : Int32 × SS :=
  m_X7_fits_7 ((m_X6_someWay σ (rl (σ 0 11)) ((-1) : Int32))).2 ((m_X6_someWay σ (rl (σ 0 11)) ((-1) : Int32))).1
set_option maxHeartbeats 4000000 in
set_option maxRecDepth 100000 in
theorem c_X7_fits (l : Launch) (D : va_G) (cA ad : Nat → Nat) (t : Nat) (hI : rI ad) (F : Nat → va_E) (hW : WT cA ad F) : MI l D cA ad t yX7_fits wsX7_fits { frames := 5, cells := 0, slots := 0, locals := 118 } [.ref (ad 0)] F (fun r F' => WT cA ad F' ∧ rFr [36, 37] F F' ∧ ((True) ∧ m_X7_fits (AB ad F) = (r, AB ad F'))) := by
  refine en_I rfl (by decide +kernel) (Nat.le_of_ble_eq_true rfl) ?_
  intro p e s m args below meth c ls0 Q S hK hZ hP hS hl0 hret
  have hl0 : lv_has ls0 1 [(0, .ref (ad 0))] := hl0
  have hFr : rFr [36, 37] F F := rFr.rf
  have hiX7 : ∀ w ∈ u_ws RX7 TX7 15, w ∈ wsX7_fits := in_wsX7_fits_3
  obtain ⟨M, hM⟩ : ∃ M, M = m_X7_fits (AB ad F) := ⟨_, rfl⟩
  refine lv_aload_n S.1 S.2.1 dX7_fits_0 rfl (lv_at hl0 0 rfl) ?_
  obtain ⟨c1, d1, k1, dr1, hF1, hc1, hd1, hk1⟩ := wt_main hW
  refine r_get S hK hP 0 (by decide) hF1 (C := RX7) (T := TX7) (N := 15) hiX7 rfl 5 (by decide) (am_at in_wsX7_fits_0 0 rfl) (v := .ref (ad 33)) rfl dX7_fits_1 ?_
  refine lv_aload_n S.1 S.2.1 dX7_fits_4 rfl (lv_at hl0 0 rfl) ?_
  refine r_get S hK hP 0 (by decide) hF1 (C := RX7) (T := TX7) (N := 15) hiX7 rfl 11 (by decide) (am_at in_wsX7_fits_0 1 rfl) (v := .ref (ad c1)) rfl dX7_fits_5 ?_
  have m2 : (rl ((AB ad F) 0 11)) = c1 := AB_r hI (lt_C hc1) hF1 rfl
  refine lv_iconst (v := (-1)) S.1 S.2.1 dX7_fits_8 (by decide +kernel) ?_
  obtain ⟨k4, hF4, hk4⟩ := wt_ways hW
  refine r_cVi (As := [.ref (ad c1), .int (-1)]) (rest := []) S hK hZ hP hS hl0.1 33 (by decide) hF4 (C := RX6) rfl (c_X6_someWay l D cA ad t hI F hW c1 hc1 (-1)) (cwV 2 S.2.2.2.2 gX7_fits_X6_someWay rfl rfl rfl (by decide +kernel) ⟨Nat.le_of_ble_eq_true rfl, Nat.le_of_ble_eq_true rfl⟩) rfl rfl (Nat.le_of_ble_eq_true rfl) ⟨Nat.zero_le _, Nat.zero_le _⟩ dX7_fits_9 (fun r3 F3 H3 locs3 hr3 hP3 hS3 => ?_)
  obtain ⟨hW3, hFc3, hr3⟩ := hr3
  obtain ⟨hr3, hm3⟩ := hr3
  have hFr3 := hFr.tr hFc3 (by simp <;> first | omega | (simp only [isC, isJ] at *; omega))
  obtain ⟨b5, hb5, rfl⟩ := hr3
  have mc6 : (m_X6_someWay (AB ad F) (rl ((AB ad F) 0 11)) ((-1) : Int32)) = ((nI b5), AB ad F3) := (congr (congr (Eq.refl (m_X6_someWay (AB ad F))) m2) (Eq.refl ((-1) : Int32))).trans hm3
  have hE8 : M = m_X7_fits_7 (AB ad F3) (nI b5) := hM.trans ((show m_X7_fits (AB ad F) = m_X7_fits_7 ((m_X6_someWay (AB ad F) (rl ((AB ad F) 0 11)) ((-1) : Int32))).2 ((m_X6_someWay (AB ad F) (rl ((AB ad F) 0 11)) ((-1) : Int32))).1 from rfl).trans (congr (congrArg (m_X7_fits_7) (congrArg Prod.snd mc6)) (congrArg Prod.fst mc6)))
  refine lv_if_eq (tgt := 19) S.1 S.2.1 dX7_fits_12 (by decide) (fun c9 => ?_) (fun c9 => ?_)
  · skip
    have k10 := ci_eq (nI_toInt (n := b5) (Nat.lt_of_le_of_lt hb5 (by decide))) z_ti c9
    refine lv_iconst (v := (nI 0)) S.1 S.2.1 dX7_fits_19 (by decide +kernel) ?_
    have hE11 : M = ((nI 0), AB ad F3) := hE8.trans ((show m_X7_fits_7 (AB ad F3) (nI b5) = ((nI 0), (AB ad F3)) from by unfold m_X7_fits_7; rw [if_pos (eq_cg rfl rfl c9)]).trans (congrArg (fun q => (q, AB ad F3)) rfl))
    exact hret 20 _ _ _ _ _ dX7_fits_20 rfl hP3 hS3 ⟨hW3, hFr3, ⟨trivial, hM.symm.trans hE11⟩⟩
  have k12 := ci_ne (nI_toInt (n := b5) (Nat.lt_of_le_of_lt hb5 (by decide))) z_ti c9
  refine lv_iconst (v := (nI 1)) S.1 S.2.1 dX7_fits_15 (by decide +kernel) ?_
  refine lv_goto (tgt := 20) S.1 S.2.1 dX7_fits_16 (by decide) ?_
  have hE13 : M = ((nI 1), AB ad F3) := hE8.trans ((show m_X7_fits_7 (AB ad F3) (nI b5) = ((nI 1), (AB ad F3)) from by unfold m_X7_fits_7; rw [if_neg (neq_cg rfl rfl c9)]).trans (congrArg (fun q => (q, AB ad F3)) rfl))
  exact hret 20 _ _ _ _ _ dX7_fits_20 rfl hP3 hS3 ⟨hW3, hFr3, ⟨trivial, hM.symm.trans hE13⟩⟩
noncomputable def m_X7_bought_6 (σ : SS) (a0 : Int32) : Int32 × SS :=
  (a0, σ)
noncomputable def m_X7_bought (σ : SS) : Int32 × SS :=
  m_X7_bought_6 ((m_X6_boughtSeals σ (rl (σ 0 11)))).2 ((m_X6_boughtSeals σ (rl (σ 0 11)))).1
set_option maxHeartbeats 4000000 in
set_option maxRecDepth 100000 in
theorem c_X7_bought (l : Launch) (D : va_G) (cA ad : Nat → Nat) (t : Nat) (hI : rI ad) (F : Nat → va_E) (hW : WT cA ad F) : MI l D cA ad t yX7_bought wsX7_bought { frames := 6, cells := 0, slots := 0, locals := 141 } [.ref (ad 0)] F (fun r F' => WT cA ad F' ∧ rFr [36, 37] F F' ∧ ((True) ∧ m_X7_bought (AB ad F) = (r, AB ad F'))) := by
  refine en_I rfl (by decide +kernel) (Nat.le_of_ble_eq_true rfl) ?_
  intro p e s m args below meth c ls0 Q S hK hZ hP hS hl0 hret
  have hl0 : lv_has ls0 1 [(0, .ref (ad 0))] := hl0
  have hFr : rFr [36, 37] F F := rFr.rf
  have hiX7 : ∀ w ∈ u_ws RX7 TX7 15, w ∈ wsX7_bought := in_wsX7_bought_3
  obtain ⟨M, hM⟩ : ∃ M, M = m_X7_bought (AB ad F) := ⟨_, rfl⟩
  refine lv_aload_n S.1 S.2.1 dX7_bought_0 rfl (lv_at hl0 0 rfl) ?_
  obtain ⟨c1, d1, k1, dr1, hF1, hc1, hd1, hk1⟩ := wt_main hW
  refine r_get S hK hP 0 (by decide) hF1 (C := RX7) (T := TX7) (N := 15) hiX7 rfl 5 (by decide) (am_at in_wsX7_bought_0 0 rfl) (v := .ref (ad 33)) rfl dX7_bought_1 ?_
  refine lv_aload_n S.1 S.2.1 dX7_bought_4 rfl (lv_at hl0 0 rfl) ?_
  refine r_get S hK hP 0 (by decide) hF1 (C := RX7) (T := TX7) (N := 15) hiX7 rfl 11 (by decide) (am_at in_wsX7_bought_0 1 rfl) (v := .ref (ad c1)) rfl dX7_bought_5 ?_
  have m2 : (rl ((AB ad F) 0 11)) = c1 := AB_r hI (lt_C hc1) hF1 rfl
  obtain ⟨k4, hF4, hk4⟩ := wt_ways hW
  refine r_cVi (As := [.ref (ad c1)]) (rest := []) S hK hZ hP hS hl0.1 33 (by decide) hF4 (C := RX6) rfl (c_X6_boughtSeals l D cA ad t hI F hW c1 hc1) (cwV 1 S.2.2.2.2 gX7_bought_X6_boughtSeals rfl rfl rfl (by decide +kernel) ⟨Nat.le_of_ble_eq_true rfl, Nat.le_of_ble_eq_true rfl⟩) rfl rfl (Nat.le_of_ble_eq_true rfl) ⟨Nat.zero_le _, Nat.zero_le _⟩ dX7_bought_8 (fun r3 F3 H3 locs3 hr3 hP3 hS3 => ?_)
  obtain ⟨hW3, hFc3, hr3⟩ := hr3
  obtain ⟨hr3, hm3⟩ := hr3
  have hFr3 := hFr.tr hFc3 (by simp <;> first | omega | (simp only [isC, isJ] at *; omega))
  have mc5 : (m_X6_boughtSeals (AB ad F) (rl ((AB ad F) 0 11))) = (r3, AB ad F3) := (congr (Eq.refl (m_X6_boughtSeals (AB ad F))) m2).trans hm3
  have hE7 : M = m_X7_bought_6 (AB ad F3) r3 := hM.trans ((show m_X7_bought (AB ad F) = m_X7_bought_6 ((m_X6_boughtSeals (AB ad F) (rl ((AB ad F) 0 11)))).2 ((m_X6_boughtSeals (AB ad F) (rl ((AB ad F) 0 11)))).1 from rfl).trans (congr (congrArg (m_X7_bought_6) (congrArg Prod.snd mc5)) (congrArg Prod.fst mc5)))
  have hE8 : M = (r3, AB ad F3) := hE7.trans ((show m_X7_bought_6 (AB ad F3) r3 = (r3, (AB ad F3)) from rfl).trans (congrArg (fun q => (q, AB ad F3)) rfl))
  exact hret 11 _ _ _ _ _ dX7_bought_11 rfl hP3 hS3 ⟨hW3, hFr3, ⟨trivial, hM.symm.trans hE8⟩⟩
noncomputable def m_X7_was_12 (σ : SS) (a0 : Int32) : Int32 × SS :=
  ((m_X6_townsAt σ a0), σ)
noncomputable def m_X7_was (σ : SS) (a0 : Int32) : Int32 × SS :=
  if a0 < (0 : Int32) then
    (((-1000000002) : Int32), σ)
  else
    if a0 ≤ (nI 48) then
      m_X7_was_12 (m_X6_sweepBoth σ (rl (σ 0 11))) a0
    else
      (((-1000000002) : Int32), σ)
set_option maxHeartbeats 4000000 in
set_option maxRecDepth 100000 in
theorem c_X7_was (l : Launch) (D : va_G) (cA ad : Nat → Nat) (t : Nat) (hI : rI ad) (F : Nat → va_E) (hW : WT cA ad F) (p1 : Int32) : MI l D cA ad t yX7_was wsX7_was { frames := 5, cells := 0, slots := 0, locals := 117 } [.ref (ad 0), .int p1] F (fun r F' => WT cA ad F' ∧ rFr [36, 37, 38] F F' ∧ ((True) ∧ m_X7_was (AB ad F) p1 = (r, AB ad F'))) := by
  refine en_I rfl (by decide +kernel) (Nat.le_of_ble_eq_true rfl) ?_
  intro p e s m args below meth c ls0 Q S hK hZ hP hS hl0 hret
  have hl0 : lv_has ls0 2 [(0, .ref (ad 0)), (1, .int p1)] := hl0
  have hFr : rFr [36, 37, 38] F F := rFr.rf
  have hiX7 : ∀ w ∈ u_ws RX7 TX7 15, w ∈ wsX7_was := in_wsX7_was_4
  obtain ⟨M, hM⟩ : ∃ M, M = m_X7_was (AB ad F) p1 := ⟨_, rfl⟩
  refine lv_iload_n S.1 S.2.1 dX7_was_0 rfl (lv_at hl0 1 rfl) ?_
  refine lv_if_lt (tgt := 10) S.1 S.2.1 dX7_was_1 (by decide) (fun c1 => ?_) (fun c1 => ?_)
  · skip
    have k2 := ci_lt rfl z_ti c1
    refine lv_ldc (v := (-1000000002)) S.1 S.2.1 S.2.2.2.1 (S.2.2.2.2 (.constant RX7 79 (-1000000002)) (am_at in_wsX7_was_0 0 rfl)) dX7_was_10 ?_
    have hE3 : M = ((-1000000002), AB ad F) := hM.trans ((show m_X7_was (AB ad F) p1 = (((-1000000002) : Int32), (AB ad F)) from by unfold m_X7_was; rw [if_pos (lt_cg rfl rfl c1)]).trans (congrArg (fun q => (q, AB ad F)) rfl))
    exact hret 12 _ _ _ _ _ dX7_was_12 rfl hP hS ⟨hW, hFr, ⟨trivial, hM.symm.trans hE3⟩⟩
  have k4 := ci_nlt rfl z_ti c1
  refine lv_iload_n S.1 S.2.1 dX7_was_4 rfl (lv_at hl0 1 rfl) ?_
  refine lv_bipush (v := (nI 48)) S.1 S.2.1 dX7_was_5 (by decide +kernel) ?_
  refine lv_icmp_le (tgt := 13) S.1 S.2.1 dX7_was_7 (by decide) (fun c5 => ?_) (fun c5 => ?_)
  · skip
    have k6 := ci_le rfl (nI_toInt (n := 48) (by decide)) c5
    obtain ⟨j7, hj7, rfl⟩ := nI_of_le (x := p1) (B := 48) (by omega) (by omega)
    have kj7 := nI_toInt (n := j7) (Nat.lt_of_le_of_lt hj7 (by decide))
    refine lv_aload_n S.1 S.2.1 dX7_was_13 rfl (lv_at hl0 0 rfl) ?_
    obtain ⟨c8, d8, k8, dr8, hF8, hc8, hd8, hk8⟩ := wt_main hW
    refine r_get S hK hP 0 (by decide) hF8 (C := RX7) (T := TX7) (N := 15) hiX7 rfl 5 (by decide) (am_at in_wsX7_was_0 1 rfl) (v := .ref (ad 33)) rfl dX7_was_14 ?_
    refine lv_aload_n S.1 S.2.1 dX7_was_17 rfl (lv_at hl0 0 rfl) ?_
    refine r_get S hK hP 0 (by decide) hF8 (C := RX7) (T := TX7) (N := 15) hiX7 rfl 11 (by decide) (am_at in_wsX7_was_0 2 rfl) (v := .ref (ad c8)) rfl dX7_was_18 ?_
    have m9 : (rl ((AB ad F) 0 11)) = c8 := AB_r hI (lt_C hc8) hF8 rfl
    obtain ⟨k11, hF11, hk11⟩ := wt_ways hW
    refine r_cVv (As := [.ref (ad c8)]) (rest := []) S hK hZ hP hS hl0.1 33 (by decide) hF11 (C := RX6) rfl (c_X6_sweepBoth l D cA ad t hI F hW c8 hc8) (cwV 1 S.2.2.2.2 gX7_was_X6_sweepBoth rfl rfl rfl (by decide +kernel) ⟨Nat.le_of_ble_eq_true rfl, Nat.le_of_ble_eq_true rfl⟩) rfl rfl (Nat.le_of_ble_eq_true rfl) ⟨Nat.zero_le _, Nat.zero_le _⟩ dX7_was_21 (fun F10 H10 locs10 hr10 hP10 hS10 => ?_)
    obtain ⟨hW10, hFc10, hr10⟩ := hr10
    obtain ⟨hr10, hm10⟩ := hr10
    have hFr10 := hFr.tr hFc10 (by simp <;> first | omega | (simp only [isC, isJ] at *; omega))
    have hE13 : M = m_X7_was_12 (AB ad F10) (nI j7) := hM.trans ((show m_X7_was (AB ad F) (nI j7) = m_X7_was_12 (m_X6_sweepBoth (AB ad F) (rl ((AB ad F) 0 11))) (nI j7) from by unfold m_X7_was; rw [if_neg (nlt_cg rfl rfl c1), if_pos (le_cg rfl rfl c5)]).trans (congr (congrArg (m_X7_was_12) ((congr (Eq.refl (m_X6_sweepBoth (AB ad F))) m9).trans hm10)) (Eq.refl ((nI j7) : Int32))))
    refine lv_aload_n S.1 S.2.1 dX7_was_24 rfl (lv_at hl0 0 rfl) ?_
    have hF14 := (hFc10 0 (by decide)).trans hF8
    refine r_get S hK hP10 0 (by decide) hF14 (C := RX7) (T := TX7) (N := 15) hiX7 rfl 5 (by decide) (am_at in_wsX7_was_0 1 rfl) (v := .ref (ad 33)) rfl dX7_was_25 ?_
    refine lv_iload_n S.1 S.2.1 dX7_was_28 rfl (lv_at hl0 1 rfl) ?_
    have hF16 := (hFc10 33 (by decide)).trans hF11
    refine r_cVp (As := [.int (nI j7)]) (rest := []) S hK hZ hP10 hS10 hl0.1 33 (by decide) hF16 (C := RX6) rfl (c_X6_townsAt l D cA ad t hI F10 hW10 (j7) (by omega)) (cwV 1 S.2.2.2.2 gX7_was_X6_townsAt rfl rfl rfl (by decide +kernel) ⟨Nat.le_of_ble_eq_true rfl, Nat.le_of_ble_eq_true rfl⟩) rfl rfl (Nat.le_of_ble_eq_true rfl) ⟨Nat.zero_le _, Nat.zero_le _⟩ dX7_was_29 (fun r15 hr15 => ?_)
    obtain ⟨hr15, hm15⟩ := hr15
    have m17 : (m_X6_townsAt (AB ad F10) (nI j7)) = r15 := (congr (Eq.refl (m_X6_townsAt (AB ad F10))) (Eq.refl ((nI j7) : Int32))).trans hm15
    have hE18 : M = (r15, AB ad F10) := hE13.trans ((show m_X7_was_12 (AB ad F10) (nI j7) = ((m_X6_townsAt (AB ad F10) (nI j7)), (AB ad F10)) from rfl).trans (congrArg (fun q => (q, AB ad F10)) m17))
    exact hret 32 _ _ _ _ _ dX7_was_32 rfl hP10 hS10 ⟨hW10, hFr10, ⟨trivial, hM.symm.trans hE18⟩⟩
  have k19 := ci_nle rfl (nI_toInt (n := 48) (by decide)) c5
  refine lv_ldc (v := (-1000000002)) S.1 S.2.1 S.2.2.2.1 (S.2.2.2.2 (.constant RX7 79 (-1000000002)) (am_at in_wsX7_was_0 0 rfl)) dX7_was_10 ?_
  have hE20 : M = ((-1000000002), AB ad F) := hM.trans ((show m_X7_was (AB ad F) p1 = (((-1000000002) : Int32), (AB ad F)) from by unfold m_X7_was; rw [if_neg (nlt_cg rfl rfl c1), if_neg (nle_cg rfl rfl c5)]).trans (congrArg (fun q => (q, AB ad F)) rfl))
  exact hret 12 _ _ _ _ _ dX7_was_12 rfl hP hS ⟨hW, hFr, ⟨trivial, hM.symm.trans hE20⟩⟩
noncomputable def m_X7_ask_5 (σ : SS) : Int32 × SS :=
  ((m_X6_widestMonth σ), σ)
noncomputable def m_X7_ask (σ : SS) : Int32 × SS :=
  m_X7_ask_5 (m_X6_sweepBoth σ (rl (σ 0 11)))
set_option maxHeartbeats 4000000 in
set_option maxRecDepth 100000 in
theorem c_X7_ask (l : Launch) (D : va_G) (cA ad : Nat → Nat) (t : Nat) (hI : rI ad) (F : Nat → va_E) (hW : WT cA ad F) : MI l D cA ad t yX7_ask wsX7_ask { frames := 5, cells := 0, slots := 0, locals := 117 } [.ref (ad 0)] F (fun r F' => WT cA ad F' ∧ rFr [36, 37, 38] F F' ∧ ((True) ∧ m_X7_ask (AB ad F) = (r, AB ad F'))) := by
  refine en_I rfl (by decide +kernel) (Nat.le_of_ble_eq_true rfl) ?_
  intro p e s m args below meth c ls0 Q S hK hZ hP hS hl0 hret
  have hl0 : lv_has ls0 1 [(0, .ref (ad 0))] := hl0
  have hFr : rFr [36, 37, 38] F F := rFr.rf
  have hiX7 : ∀ w ∈ u_ws RX7 TX7 15, w ∈ wsX7_ask := in_wsX7_ask_4
  obtain ⟨M, hM⟩ : ∃ M, M = m_X7_ask (AB ad F) := ⟨_, rfl⟩
  refine lv_aload_n S.1 S.2.1 dX7_ask_0 rfl (lv_at hl0 0 rfl) ?_
  obtain ⟨c1, d1, k1, dr1, hF1, hc1, hd1, hk1⟩ := wt_main hW
  refine r_get S hK hP 0 (by decide) hF1 (C := RX7) (T := TX7) (N := 15) hiX7 rfl 5 (by decide) (am_at in_wsX7_ask_0 0 rfl) (v := .ref (ad 33)) rfl dX7_ask_1 ?_
  refine lv_aload_n S.1 S.2.1 dX7_ask_4 rfl (lv_at hl0 0 rfl) ?_
  refine r_get S hK hP 0 (by decide) hF1 (C := RX7) (T := TX7) (N := 15) hiX7 rfl 11 (by decide) (am_at in_wsX7_ask_0 1 rfl) (v := .ref (ad c1)) rfl dX7_ask_5 ?_
  have m2 : (rl ((AB ad F) 0 11)) = c1 := AB_r hI (lt_C hc1) hF1 rfl
  obtain ⟨k4, hF4, hk4⟩ := wt_ways hW
  refine r_cVv (As := [.ref (ad c1)]) (rest := []) S hK hZ hP hS hl0.1 33 (by decide) hF4 (C := RX6) rfl (c_X6_sweepBoth l D cA ad t hI F hW c1 hc1) (cwV 1 S.2.2.2.2 gX7_ask_X6_sweepBoth rfl rfl rfl (by decide +kernel) ⟨Nat.le_of_ble_eq_true rfl, Nat.le_of_ble_eq_true rfl⟩) rfl rfl (Nat.le_of_ble_eq_true rfl) ⟨Nat.zero_le _, Nat.zero_le _⟩ dX7_ask_8 (fun F3 H3 locs3 hr3 hP3 hS3 => ?_)
  obtain ⟨hW3, hFc3, hr3⟩ := hr3
  obtain ⟨hr3, hm3⟩ := hr3
  have hFr3 := hFr.tr hFc3 (by simp <;> first | omega | (simp only [isC, isJ] at *; omega))
  have hE6 : M = m_X7_ask_5 (AB ad F3) := hM.trans ((show m_X7_ask (AB ad F) = m_X7_ask_5 (m_X6_sweepBoth (AB ad F) (rl ((AB ad F) 0 11))) from rfl).trans (congrArg (m_X7_ask_5) ((congr (Eq.refl (m_X6_sweepBoth (AB ad F))) m2).trans hm3)))
  refine lv_aload_n S.1 S.2.1 dX7_ask_11 rfl (lv_at hl0 0 rfl) ?_
  have hF7 := (hFc3 0 (by decide)).trans hF1
  refine r_get S hK hP3 0 (by decide) hF7 (C := RX7) (T := TX7) (N := 15) hiX7 rfl 5 (by decide) (am_at in_wsX7_ask_0 0 rfl) (v := .ref (ad 33)) rfl dX7_ask_12 ?_
  have hF9 := (hFc3 33 (by decide)).trans hF4
  refine r_cVp (As := []) (rest := []) S hK hZ hP3 hS3 hl0.1 33 (by decide) hF9 (C := RX6) rfl (c_X6_widestMonth l D cA ad t hI F3 hW3 ) (cwV 0 S.2.2.2.2 gX7_ask_X6_widestMonth rfl rfl rfl (by decide +kernel) ⟨Nat.le_of_ble_eq_true rfl, Nat.le_of_ble_eq_true rfl⟩) rfl rfl (Nat.le_of_ble_eq_true rfl) ⟨Nat.zero_le _, Nat.zero_le _⟩ dX7_ask_15 (fun r8 hr8 => ?_)
  obtain ⟨hr8, hm8⟩ := hr8
  have m10 : (m_X6_widestMonth (AB ad F3)) = r8 := (Eq.refl (m_X6_widestMonth (AB ad F3))).trans hm8
  have hE11 : M = (r8, AB ad F3) := hE6.trans ((show m_X7_ask_5 (AB ad F3) = ((m_X6_widestMonth (AB ad F3)), (AB ad F3)) from rfl).trans (congrArg (fun q => (q, AB ad F3)) m10))
  exact hret 18 _ _ _ _ _ dX7_ask_18 rfl hP3 hS3 ⟨hW3, hFr3, ⟨trivial, hM.symm.trans hE11⟩⟩
noncomputable def m_X7_write_21 (σ : SS) (a0 : Int32) : Int32 × SS :=
  ((σ 0 13), σ)
noncomputable def m_X7_write_14 (σ : SS) (a0 : Int32) : Int32 × SS :=
  m_X7_write_21 (st σ 0 13 ((σ 0 13) + (nI 1))) a0
noncomputable def m_X7_write (σ : SS) (a0 : Int32) : Int32 × SS :=
  if a0 < (0 : Int32) then
    (((-1000000002) : Int32), σ)
  else
    if a0 ≤ (nI 9999) then
      if (σ 0 13) < (nI 15) then
        m_X7_write_14 (st σ 44 (rl (σ 0 13)) a0) a0
      else
        (((-1000000004) : Int32), σ)
    else
      (((-1000000002) : Int32), σ)
set_option maxHeartbeats 4000000 in
set_option maxRecDepth 100000 in
theorem c_X7_write (l : Launch) (D : va_G) (cA ad : Nat → Nat) (t : Nat) (hI : rI ad) (F : Nat → va_E) (hW : WT cA ad F) (p1 : Int32) : MI l D cA ad t yX7_write wsX7_write { frames := 0, cells := 0, slots := 0, locals := 0 } [.ref (ad 0), .int p1] F (fun r F' => WT cA ad F' ∧ rFr [0, 44] F F' ∧ ((True) ∧ m_X7_write (AB ad F) p1 = (r, AB ad F'))) := by
  refine en_I rfl (by decide +kernel) (Nat.le_of_ble_eq_true rfl) ?_
  intro p e s m args below meth c ls0 Q S hK hZ hP hS hl0 hret
  have hl0 : lv_has ls0 2 [(0, .ref (ad 0)), (1, .int p1)] := hl0
  have hFr : rFr [0, 44] F F := rFr.rf
  have hiX7 : ∀ w ∈ u_ws RX7 TX7 15, w ∈ wsX7_write := in_wsX7_write_1
  obtain ⟨M, hM⟩ : ∃ M, M = m_X7_write (AB ad F) p1 := ⟨_, rfl⟩
  refine lv_iload_n S.1 S.2.1 dX7_write_0 rfl (lv_at hl0 1 rfl) ?_
  refine lv_if_lt (tgt := 11) S.1 S.2.1 dX7_write_1 (by decide) (fun c1 => ?_) (fun c1 => ?_)
  · skip
    have k2 := ci_lt rfl z_ti c1
    refine lv_ldc (v := (-1000000002)) S.1 S.2.1 S.2.2.2.1 (S.2.2.2.2 (.constant RX7 79 (-1000000002)) (am_at in_wsX7_write_0 0 rfl)) dX7_write_11 ?_
    have hE3 : M = ((-1000000002), AB ad F) := hM.trans ((show m_X7_write (AB ad F) p1 = (((-1000000002) : Int32), (AB ad F)) from by unfold m_X7_write; rw [if_pos (lt_cg rfl rfl c1)]).trans (congrArg (fun q => (q, AB ad F)) rfl))
    exact hret 13 _ _ _ _ _ dX7_write_13 rfl hP hS ⟨hW, hFr, ⟨trivial, hM.symm.trans hE3⟩⟩
  have k4 := ci_nlt rfl z_ti c1
  refine lv_iload_n S.1 S.2.1 dX7_write_4 rfl (lv_at hl0 1 rfl) ?_
  refine lv_sipush (v := (nI 9999)) S.1 S.2.1 dX7_write_5 (by decide +kernel) ?_
  refine lv_icmp_le (tgt := 14) S.1 S.2.1 dX7_write_8 (by decide) (fun c5 => ?_) (fun c5 => ?_)
  · skip
    have k6 := ci_le rfl (nI_toInt (n := 9999) (by decide)) c5
    refine lv_aload_n S.1 S.2.1 dX7_write_14 rfl (lv_at hl0 0 rfl) ?_
    obtain ⟨c7, d7, k7, dr7, hF7, hc7, hd7, hk7⟩ := wt_main hW
    refine r_get S hK hP 0 (by decide) hF7 (C := RX7) (T := TX7) (N := 15) hiX7 rfl 13 (by decide) (am_at in_wsX7_write_0 1 rfl) (v := .int (nI k7)) rfl dX7_write_15 ?_
    have m8 : ((AB ad F) 0 13) = (nI k7) := AB_f hF7 rfl
    refine lv_bipush (v := (nI 15)) S.1 S.2.1 dX7_write_18 (by decide +kernel) ?_
    refine lv_icmp_lt (tgt := 26) S.1 S.2.1 dX7_write_20 (by decide) (fun c9 => ?_) (fun c9 => ?_)
    · skip
      have k10 := ci_lt (nI_toInt (n := k7) (by omega)) (nI_toInt (n := 15) (by decide)) c9
      refine lv_aload_n S.1 S.2.1 dX7_write_26 rfl (lv_at hl0 0 rfl) ?_
      refine r_get S hK hP 0 (by decide) hF7 (C := RX7) (T := TX7) (N := 15) hiX7 rfl 9 (by decide) (am_at in_wsX7_write_0 3 rfl) (v := .ref (ad 44)) rfl dX7_write_27 ?_
      refine lv_aload_n S.1 S.2.1 dX7_write_30 rfl (lv_at hl0 0 rfl) ?_
      refine r_get S hK hP 0 (by decide) hF7 (C := RX7) (T := TX7) (N := 15) hiX7 rfl 13 (by decide) (am_at in_wsX7_write_0 1 rfl) (v := .int (nI k7)) rfl dX7_write_31 ?_
      have m11 : ((AB ad F) 0 13) = (nI k7) := AB_f hF7 rfl
      refine lv_iload_n S.1 S.2.1 dX7_write_34 rfl (lv_at hl0 1 rfl) ?_
      obtain ⟨g12, hF12, hg12⟩ := wt_I hW (show (44, 15) ∈ rLI by decide)
      refine r_iast S hI hK hP hS 44 (by decide) hF12 (vp_in_nI (show k7 < 15 by omega) (by omega)) dX7_write_35 (fun F13 H13 locs13 eF13 hP13 hS13 => ?_)
      have hW13 := hW.up eF13 (ok_I (show (44, 15) ∈ rLI by decide) (okI_up hg12 (pr_of (by decide))))
      have hFr13 := hFr.up eF13 (by simp <;> first | omega | (simp only [isC, isJ] at *; omega))
      have hE15 : M = m_X7_write_14 (AB ad F13) p1 := hM.trans ((show m_X7_write (AB ad F) p1 = m_X7_write_14 (st (AB ad F) 44 (rl ((AB ad F) 0 13)) p1) p1 from by unfold m_X7_write; rw [if_neg (nlt_cg rfl rfl c1), if_pos (le_cg rfl rfl c5), if_pos (lt_cg m8 rfl c9)]).trans (congr (congrArg (m_X7_write_14) ((st_cg rfl (congrArg rl m11) rfl).trans (AB_ast hF12 eF13).symm)) (Eq.refl (p1 : Int32))))
      refine lv_aload_n S.1 S.2.1 dX7_write_36 rfl (lv_at hl0 0 rfl) ?_
      refine lv_dup S.1 S.2.1 dX7_write_37 rfl ?_
      have hF16 := (show F13 0 = F 0 by rw [eF13]; exact va_up_ne _ _ (by decide)).trans hF7
      refine r_get S hK hP13 0 (by decide) hF16 (C := RX7) (T := TX7) (N := 15) hiX7 rfl 13 (by decide) (am_at in_wsX7_write_0 1 rfl) (v := .int (nI k7)) rfl dX7_write_38 ?_
      have m17 : ((AB ad F13) 0 13) = (nI k7) := AB_f hF16 rfl
      refine lv_iconst (v := (nI 1)) S.1 S.2.1 dX7_write_41 (by decide +kernel) ?_
      refine lv_iadd S.1 S.2.1 dX7_write_42 ?_
      refine lv_topi (fun v18 e18 => ?_)
      obtain rfl : v18 = nI (k7 + 1) := e18.trans (nI_add _ _)
      have m19 : (((AB ad F13) 0 13) + (nI 1)) = (nI (k7 + 1)) := cg2 (fun (x : Int32) (y : Int32) => x + y) m17 (Eq.refl ((nI 1) : Int32)) e18
      refine r_put S hI hK hP13 hS13 0 (by decide) hF16 (C := RX7) (T := TX7) (N := 15) hiX7 tyX7_ok nmX7 rfl 13 (by decide) (am_at in_wsX7_write_0 1 rfl) rfl rfl rfl (Nat.le_of_ble_eq_true rfl) dX7_write_43 (fun F20 H20 locs20 eF20 hP20 hS20 => ?_)
      have hF20 : F20 0 = .inr (7, [.ref (ad 1), .ref (ad 3), .ref (ad 4), .ref (ad 26), .ref (ad 30), .ref (ad 33), .ref (ad 39), .ref (ad 42), .ref (ad 43), .ref (ad 44), .ref (ad 45), .ref (ad c7), .ref (ad d7), .int (nI (k7 + 1)), .int dr7]) := by rw [eF20]; exact va_up_self _ _ _
      have hW20 := hW13.up eF20 (ok_main ⟨c7, d7, k7 + 1, dr7, rfl, hc7, hd7, by omega⟩)
      have hFr20 := hFr13.up eF20 (by simp <;> first | omega | (simp only [isC, isJ] at *; omega))
      have hE22 : M = m_X7_write_21 (AB ad F20) p1 := hE15.trans ((show m_X7_write_14 (AB ad F13) p1 = m_X7_write_21 (st (AB ad F13) 0 13 (((AB ad F13) 0 13) + (nI 1))) p1 from rfl).trans (congr (congrArg (m_X7_write_21) ((st_cg rfl rfl m19).trans (AB_put hF16 (Nat.le_of_ble_eq_true rfl) eF20).symm)) (Eq.refl (p1 : Int32))))
      refine lv_aload_n S.1 S.2.1 dX7_write_46 rfl (lv_at hl0 0 rfl) ?_
      refine r_get S hK hP20 0 (by decide) hF20 (C := RX7) (T := TX7) (N := 15) hiX7 rfl 13 (by decide) (am_at in_wsX7_write_0 1 rfl) (v := .int (nI (k7 + 1))) rfl dX7_write_47 ?_
      have m23 : ((AB ad F20) 0 13) = (nI (k7 + 1)) := AB_f hF20 rfl
      have hE24 : M = ((nI (k7 + 1)), AB ad F20) := hE22.trans ((show m_X7_write_21 (AB ad F20) p1 = (((AB ad F20) 0 13), (AB ad F20)) from rfl).trans (congrArg (fun q => (q, AB ad F20)) m23))
      exact hret 50 _ _ _ _ _ dX7_write_50 rfl hP20 hS20 ⟨hW20, hFr20, ⟨trivial, hM.symm.trans hE24⟩⟩
    have k25 := ci_nlt (nI_toInt (n := k7) (by omega)) (nI_toInt (n := 15) (by decide)) c9
    refine lv_ldc (v := (-1000000004)) S.1 S.2.1 S.2.2.2.1 (S.2.2.2.2 (.constant RX7 84 (-1000000004)) (am_at in_wsX7_write_0 2 rfl)) dX7_write_23 ?_
    have hE26 : M = ((-1000000004), AB ad F) := hM.trans ((show m_X7_write (AB ad F) p1 = (((-1000000004) : Int32), (AB ad F)) from by unfold m_X7_write; rw [if_neg (nlt_cg rfl rfl c1), if_pos (le_cg rfl rfl c5), if_neg (nlt_cg m8 rfl c9)]).trans (congrArg (fun q => (q, AB ad F)) rfl))
    exact hret 25 _ _ _ _ _ dX7_write_25 rfl hP hS ⟨hW, hFr, ⟨trivial, hM.symm.trans hE26⟩⟩
  have k27 := ci_nle rfl (nI_toInt (n := 9999) (by decide)) c5
  refine lv_ldc (v := (-1000000002)) S.1 S.2.1 S.2.2.2.1 (S.2.2.2.2 (.constant RX7 79 (-1000000002)) (am_at in_wsX7_write_0 0 rfl)) dX7_write_11 ?_
  have hE28 : M = ((-1000000002), AB ad F) := hM.trans ((show m_X7_write (AB ad F) p1 = (((-1000000002) : Int32), (AB ad F)) from by unfold m_X7_write; rw [if_neg (nlt_cg rfl rfl c1), if_neg (nle_cg rfl rfl c5)]).trans (congrArg (fun q => (q, AB ad F)) rfl))
  exact hret 13 _ _ _ _ _ dX7_write_13 rfl hP hS ⟨hW, hFr, ⟨trivial, hM.symm.trans hE28⟩⟩
noncomputable def m_X7_tear_13 (σ : SS) (a0 : Int32) : Int32 × SS :=
  (a0, σ)
noncomputable def m_X7_tear_9 (σ : SS) (a0 : Int32) : Int32 × SS :=
  m_X7_tear_13 (st σ 0 13 (nI 0)) a0
noncomputable def m_X7_tear (σ : SS) : Int32 × SS :=
  m_X7_tear_9 (st σ 33 0 (nI 0)) ((σ 33 0) + (σ 0 13))
set_option maxHeartbeats 4000000 in
set_option maxRecDepth 100000 in
theorem c_X7_tear (l : Launch) (D : va_G) (cA ad : Nat → Nat) (t : Nat) (hI : rI ad) (F : Nat → va_E) (hW : WT cA ad F) : MI l D cA ad t yX7_tear wsX7_tear { frames := 0, cells := 0, slots := 0, locals := 0 } [.ref (ad 0)] F (fun r F' => WT cA ad F' ∧ rFr [0, 33] F F' ∧ ((True) ∧ m_X7_tear (AB ad F) = (r, AB ad F'))) := by
  refine en_I rfl (by decide +kernel) (Nat.le_of_ble_eq_true rfl) ?_
  intro p e s m args below meth c ls0 Q S hK hZ hP hS hl0 hret
  have hl0 : lv_has ls0 2 [(0, .ref (ad 0))] := hl0
  have hFr : rFr [0, 33] F F := rFr.rf
  have hiX6 : ∀ w ∈ u_ws RX6 TX6 6, w ∈ wsX7_tear := in_wsX7_tear_2
  have hiX7 : ∀ w ∈ u_ws RX7 TX7 15, w ∈ wsX7_tear := in_wsX7_tear_1
  obtain ⟨M, hM⟩ : ∃ M, M = m_X7_tear (AB ad F) := ⟨_, rfl⟩
  refine lv_aload_n S.1 S.2.1 dX7_tear_0 rfl (lv_at hl0 0 rfl) ?_
  obtain ⟨c1, d1, k1, dr1, hF1, hc1, hd1, hk1⟩ := wt_main hW
  refine r_get S hK hP 0 (by decide) hF1 (C := RX7) (T := TX7) (N := 15) hiX7 rfl 5 (by decide) (am_at in_wsX7_tear_0 0 rfl) (v := .ref (ad 33)) rfl dX7_tear_1 ?_
  obtain ⟨k2, hF2, hk2⟩ := wt_ways hW
  refine r_get S hK hP 33 (by decide) hF2 (C := RX6) (T := TX6) (N := 6) hiX6 rfl 0 (by decide) (am_at in_wsX7_tear_0 1 rfl) (v := .int (nI k2)) rfl dX7_tear_4 ?_
  have m3 : ((AB ad F) 33 0) = (nI k2) := AB_f hF2 rfl
  refine lv_aload_n S.1 S.2.1 dX7_tear_7 rfl (lv_at hl0 0 rfl) ?_
  refine r_get S hK hP 0 (by decide) hF1 (C := RX7) (T := TX7) (N := 15) hiX7 rfl 13 (by decide) (am_at in_wsX7_tear_0 2 rfl) (v := .int (nI k1)) rfl dX7_tear_8 ?_
  have m4 : ((AB ad F) 0 13) = (nI k1) := AB_f hF1 rfl
  refine lv_iadd S.1 S.2.1 dX7_tear_11 ?_
  refine lv_topi (fun v5 e5 => ?_)
  obtain rfl : v5 = nI (k2 + k1) := e5.trans (nI_add _ _)
  have m6 : (((AB ad F) 33 0) + ((AB ad F) 0 13)) = (nI (k2 + k1)) := cg2 (fun (x : Int32) (y : Int32) => x + y) m3 m4 e5
  refine lv_istore_n (lv' := [(1, .int (nI (k2 + k1))), (0, .ref (ad 0))]) S.1 S.2.1 dX7_tear_12 rfl hl0 (by decide) rfl (fun ls7 hl7 => ?_)
  refine lv_aload_n S.1 S.2.1 dX7_tear_13 rfl (lv_at hl7 1 rfl) ?_
  refine r_get S hK hP 0 (by decide) hF1 (C := RX7) (T := TX7) (N := 15) hiX7 rfl 5 (by decide) (am_at in_wsX7_tear_0 0 rfl) (v := .ref (ad 33)) rfl dX7_tear_14 ?_
  refine lv_iconst (v := (nI 0)) S.1 S.2.1 dX7_tear_17 (by decide +kernel) ?_
  refine r_put S hI hK hP hS 33 (by decide) hF2 (C := RX6) (T := TX6) (N := 6) hiX6 tyX6_ok nmX6 rfl 0 (by decide) (am_at in_wsX7_tear_0 1 rfl) rfl rfl rfl (Nat.le_of_ble_eq_true rfl) dX7_tear_18 (fun F8 H8 locs8 eF8 hP8 hS8 => ?_)
  have hF8 : F8 33 = .inr (6, [.int (nI 0), .ref (ad 34), .ref (ad 35), .ref (ad 36), .ref (ad 37), .ref (ad 38)]) := by rw [eF8]; exact va_up_self _ _ _
  have hW8 := hW.up eF8 (ok_ways ⟨0, rfl, by omega⟩)
  have hFr8 := hFr.up eF8 (by simp <;> first | omega | (simp only [isC, isJ] at *; omega))
  have hE10 : M = m_X7_tear_9 (AB ad F8) (nI (k2 + k1)) := hM.trans ((show m_X7_tear (AB ad F) = m_X7_tear_9 (st (AB ad F) 33 0 (nI 0)) (((AB ad F) 33 0) + ((AB ad F) 0 13)) from rfl).trans (congr (congrArg (m_X7_tear_9) ((st_cg rfl rfl rfl).trans (AB_put hF2 (Nat.le_of_ble_eq_true rfl) eF8).symm)) m6))
  refine lv_aload_n S.1 S.2.1 dX7_tear_21 rfl (lv_at hl7 1 rfl) ?_
  refine lv_iconst (v := (nI 0)) S.1 S.2.1 dX7_tear_22 (by decide +kernel) ?_
  have hF11 := (show F8 0 = F 0 by rw [eF8]; exact va_up_ne _ _ (by decide)).trans hF1
  refine r_put S hI hK hP8 hS8 0 (by decide) hF11 (C := RX7) (T := TX7) (N := 15) hiX7 tyX7_ok nmX7 rfl 13 (by decide) (am_at in_wsX7_tear_0 2 rfl) rfl rfl rfl (Nat.le_of_ble_eq_true rfl) dX7_tear_23 (fun F12 H12 locs12 eF12 hP12 hS12 => ?_)
  have hF12 : F12 0 = .inr (7, [.ref (ad 1), .ref (ad 3), .ref (ad 4), .ref (ad 26), .ref (ad 30), .ref (ad 33), .ref (ad 39), .ref (ad 42), .ref (ad 43), .ref (ad 44), .ref (ad 45), .ref (ad c1), .ref (ad d1), .int (nI 0), .int dr1]) := by rw [eF12]; exact va_up_self _ _ _
  have hW12 := hW8.up eF12 (ok_main ⟨c1, d1, 0, dr1, rfl, hc1, hd1, by omega⟩)
  have hFr12 := hFr8.up eF12 (by simp <;> first | omega | (simp only [isC, isJ] at *; omega))
  have hE14 : M = m_X7_tear_13 (AB ad F12) (nI (k2 + k1)) := hE10.trans ((show m_X7_tear_9 (AB ad F8) (nI (k2 + k1)) = m_X7_tear_13 (st (AB ad F8) 0 13 (nI 0)) (nI (k2 + k1)) from rfl).trans (congr (congrArg (m_X7_tear_13) ((st_cg rfl rfl rfl).trans (AB_put hF11 (Nat.le_of_ble_eq_true rfl) eF12).symm)) (Eq.refl ((nI (k2 + k1)) : Int32))))
  refine lv_iload_n S.1 S.2.1 dX7_tear_26 rfl (lv_at hl7 0 rfl) ?_
  have hE15 : M = ((nI (k2 + k1)), AB ad F12) := hE14.trans ((show m_X7_tear_13 (AB ad F12) (nI (k2 + k1)) = ((nI (k2 + k1)), (AB ad F12)) from rfl).trans (congrArg (fun q => (q, AB ad F12)) rfl))
  exact hret 27 _ _ _ _ _ dX7_tear_27 rfl hP12 hS12 ⟨hW12, hFr12, ⟨trivial, hM.symm.trans hE15⟩⟩
noncomputable def m_X7_judge_L2_2_b (k0 : SS → Int32 → Int32) (σ : SS) (a0 : Int32) : Int32 :=
  if (σ 0 13) ≤ a0 then
    ((-1) : Int32)
  else
    if (nI 15) ≤ a0 then
      ((-1) : Int32)
    else
      if (σ 44 (rl a0)) = (σ 3 3) then
        k0 σ (a0 + Int32.ofInt (1))
      else
        a0
noncomputable def m_X7_judge_L2_2 : Nat → SS → Int32 → Int32
  | 0 => fun σ _ => 0
  | n + 1 => m_X7_judge_L2_2_b (m_X7_judge_L2_2 n)
noncomputable def m_X7_judge (σ : SS) : Int32 :=
  m_X7_judge_L2_2 2000 σ (nI 0)
set_option maxHeartbeats 4000000 in
set_option maxRecDepth 100000 in
theorem c_X7_judge (l : Launch) (D : va_G) (cA ad : Nat → Nat) (t : Nat) (hI : rI ad) (F : Nat → va_E) (hW : WT cA ad F) : MP l D cA ad t yX7_judge wsX7_judge { frames := 0, cells := 0, slots := 0, locals := 0 } [.ref (ad 0)] F (fun r => (True) ∧ m_X7_judge (AB ad F) = r) := by
  refine en_P rfl (by decide +kernel) (Nat.le_of_ble_eq_true rfl) ?_
  intro p e s m args below meth c ls0 Q S hK hZ hP hS hl0 hret
  have hl0 : lv_has ls0 2 [(0, .ref (ad 0))] := hl0
  have hiX1 : ∀ w ∈ u_ws RX1 TX1 7, w ∈ wsX7_judge := in_wsX7_judge_2
  have hiX7 : ∀ w ∈ u_ws RX7 TX7 15, w ∈ wsX7_judge := in_wsX7_judge_1
  obtain ⟨M, hM⟩ : ∃ M, M = m_X7_judge (AB ad F) := ⟨_, rfl⟩
  refine lv_iconst (v := (nI 0)) S.1 S.2.1 dX7_judge_0 (by decide +kernel) ?_
  refine lv_istore_n (lv' := [(1, .int (nI 0)), (0, .ref (ad 0))]) S.1 S.2.1 dX7_judge_1 rfl hl0 (by decide) rfl (fun ls1 hl1 => ?_)
  have lp2 : ∀ (n2 : Nat) (q12 : Nat), q12 ≤ 15 → 15 - q12 < n2 → M = m_X7_judge_L2_2 n2 (AB ad F) (nI q12) → ∀ (ls : Array Slot), lv_has ls 2 [(1, .int (nI q12)), (0, .ref (ad 0))] → W p l e { frames := 0, cells := 0, slots := 0, locals := 0 } s m args below meth c s.heap [] 0 0 Q (F0 m 2 ls []) := by
    intro n2
    induction n2 with
    | zero =>
      intro q12 iv2_0 hm2 hEl2 ls2 hl2
      exact absurd hm2 (Nat.not_lt_zero _)
    | succ n2 ih2 =>
      intro q12 iv2_0 hm2 hEl2 ls2 hl2
      have hE3 : M = m_X7_judge_L2_2_b (m_X7_judge_L2_2 n2) (AB ad F) (nI q12) := hEl2
      refine lv_iload_n S.1 S.2.1 dX7_judge_2 rfl (lv_at hl2 0 rfl) ?_
      refine lv_aload_n S.1 S.2.1 dX7_judge_3 rfl (lv_at hl2 1 rfl) ?_
      obtain ⟨c4, d4, k4, dr4, hF4, hc4, hd4, hk4⟩ := wt_main hW
      refine r_get S hK hP 0 (by decide) hF4 (C := RX7) (T := TX7) (N := 15) hiX7 rfl 13 (by decide) (am_at in_wsX7_judge_0 0 rfl) (v := .int (nI k4)) rfl dX7_judge_4 ?_
      have m5 : ((AB ad F) 0 13) = (nI k4) := AB_f hF4 rfl
      refine lv_icmp_ge (tgt := 40) S.1 S.2.1 dX7_judge_7 (by decide) (fun c6 => ?_) (fun c6 => ?_)
      · skip
        have k7 := ci_le (nI_toInt (n := k4) (by omega)) (nI_toInt (n := q12) (by omega)) c6
        refine lv_iconst (v := (-1)) S.1 S.2.1 dX7_judge_40 (by decide +kernel) ?_
        have hE8 : M = (-1) := hE3.trans ((show m_X7_judge_L2_2_b (m_X7_judge_L2_2 n2) (AB ad F) (nI q12) = ((-1) : Int32) from by unfold m_X7_judge_L2_2_b; rw [if_pos (le_cg m5 rfl c6)]).trans rfl)
        exact hret 41 _ _ dX7_judge_41 rfl (⟨trivial, hM.symm.trans hE8⟩)
      have k9 := ci_nle (nI_toInt (n := k4) (by omega)) (nI_toInt (n := q12) (by omega)) c6
      refine lv_iload_n S.1 S.2.1 dX7_judge_10 rfl (lv_at hl2 0 rfl) ?_
      refine lv_bipush (v := (nI 15)) S.1 S.2.1 dX7_judge_11 (by decide +kernel) ?_
      refine lv_icmp_ge (tgt := 40) S.1 S.2.1 dX7_judge_13 (by decide) (fun c10 => ?_) (fun c10 => ?_)
      · skip
        have k11 := ci_le (nI_toInt (n := 15) (by decide)) (nI_toInt (n := q12) (by omega)) c10
        refine lv_iconst (v := (-1)) S.1 S.2.1 dX7_judge_40 (by decide +kernel) ?_
        have hE12 : M = (-1) := hE3.trans ((show m_X7_judge_L2_2_b (m_X7_judge_L2_2 n2) (AB ad F) (nI q12) = ((-1) : Int32) from by unfold m_X7_judge_L2_2_b; rw [if_neg (nle_cg m5 rfl c6), if_pos (le_cg rfl rfl c10)]).trans rfl)
        exact hret 41 _ _ dX7_judge_41 rfl (⟨trivial, hM.symm.trans hE12⟩)
      have k13 := ci_nle (nI_toInt (n := 15) (by decide)) (nI_toInt (n := q12) (by omega)) c10
      refine lv_aload_n S.1 S.2.1 dX7_judge_16 rfl (lv_at hl2 1 rfl) ?_
      refine r_get S hK hP 0 (by decide) hF4 (C := RX7) (T := TX7) (N := 15) hiX7 rfl 9 (by decide) (am_at in_wsX7_judge_0 1 rfl) (v := .ref (ad 44)) rfl dX7_judge_17 ?_
      refine lv_iload_n S.1 S.2.1 dX7_judge_20 rfl (lv_at hl2 0 rfl) ?_
      obtain ⟨g14, hF14, hg14⟩ := wt_I hW (show (44, 15) ∈ rLI by decide)
      refine r_iald S hK hP 44 (by decide) hF14 (vp_in_nI (show q12 < 15 by omega) (by omega)) dX7_judge_21 ?_
      refine lv_topi (fun v16 e16 => ?_)
      have m17 : ((AB ad F) 44 (rl (nI q12))) = v16 := (ab_cg rfl rfl).trans ((AB_g hF14).trans e16.symm)
      refine lv_aload_n S.1 S.2.1 dX7_judge_22 rfl (lv_at hl2 1 rfl) ?_
      refine r_get S hK hP 0 (by decide) hF4 (C := RX7) (T := TX7) (N := 15) hiX7 rfl 1 (by decide) (am_at in_wsX7_judge_0 2 rfl) (v := .ref (ad 3)) rfl dX7_judge_23 ?_
      obtain ⟨ja18, jb18, jc18, jd18, jx18, jy18, jk18, hF18, hk18⟩ := wt_J hW (show isJ 3 from Or.inl rfl)
      refine r_get S hK hP 3 (by decide) hF18 (C := RX1) (T := TX1) (N := 7) hiX1 rfl 3 (by decide) (am_at in_wsX7_judge_0 3 rfl) (v := .int jd18) rfl dX7_judge_26 ?_
      have m19 : ((AB ad F) 3 3) = jd18 := AB_f hF18 rfl
      refine lv_icmp_eq (tgt := 34) S.1 S.2.1 dX7_judge_29 (by decide) (fun c20 => ?_) (fun c20 => ?_)
      · skip
        have k21 := ci_eq rfl rfl c20
        have m23 : ((nI q12) + Int32.ofInt (1)) = (nI (q12 + 1)) := (congrArg (fun q : Int32 => q + Int32.ofInt (1)) rfl).trans (nI_add _ 1)
        refine lv_iinc (v := (nI (q12 + 1))) (lv' := [(1, .int (nI (q12 + 1))), (0, .ref (ad 0))]) S.1 S.2.1 dX7_judge_34 hl2 (k := 0) rfl (nI_add _ 1) (by decide) rfl (fun ls22 hl22 => ?_)
        refine lv_goto (tgt := 2) S.1 S.2.1 dX7_judge_37 (by decide) ?_
        have hE24 : M = (m_X7_judge_L2_2 n2) (AB ad F) (nI (q12 + 1)) := hE3.trans ((show m_X7_judge_L2_2_b (m_X7_judge_L2_2 n2) (AB ad F) (nI q12) = (m_X7_judge_L2_2 n2) (AB ad F) ((nI q12) + Int32.ofInt (1)) from by unfold m_X7_judge_L2_2_b; rw [if_neg (nle_cg m5 rfl c6), if_neg (nle_cg rfl rfl c10), if_pos (eq_cg m17 m19 c20)]).trans (congr (congrArg ((m_X7_judge_L2_2 n2)) (rfl : AB ad F = AB ad F)) m23))
        exact ih2 (q12 + 1) (by omega) (by omega) hE24 ls22 (lv_sub hl22 [0, 1] rfl)
      have k25 := ci_ne rfl rfl c20
      refine lv_iload_n S.1 S.2.1 dX7_judge_32 rfl (lv_at hl2 0 rfl) ?_
      have hE26 : M = (nI q12) := hE3.trans ((show m_X7_judge_L2_2_b (m_X7_judge_L2_2 n2) (AB ad F) (nI q12) = (nI q12) from by unfold m_X7_judge_L2_2_b; rw [if_neg (nle_cg m5 rfl c6), if_neg (nle_cg rfl rfl c10), if_neg (neq_cg m17 m19 c20)]).trans rfl)
      exact hret 33 _ _ dX7_judge_33 rfl (⟨trivial, hM.symm.trans hE26⟩)
  have hE27 : M = m_X7_judge_L2_2 2000 (AB ad F) (nI 0) := hM.trans ((show m_X7_judge (AB ad F) = m_X7_judge_L2_2 2000 (AB ad F) (nI 0) from rfl).trans (congr (congrArg (m_X7_judge_L2_2 2000) (rfl : AB ad F = AB ad F)) (Eq.refl ((nI 0) : Int32))))
  exact lp2 2000 (0) (by omega) (by omega) hE27 ls1 (lv_sub hl1 [0, 1] rfl)
noncomputable def m_X7_seed_7 (σ : SS) (a0 : Int32) (a1 : Int32) : Int32 × SS :=
  (a0, σ)
noncomputable def m_X7_seed (σ : SS) (a0 : Int32) : Int32 × SS :=
  if (0 : Int32) ≤ a0 then
    m_X7_seed_7 (st σ 0 14 a0) (σ 0 14) a0
  else
    (((-1000000002) : Int32), σ)
set_option maxHeartbeats 4000000 in
set_option maxRecDepth 100000 in
theorem c_X7_seed (l : Launch) (D : va_G) (cA ad : Nat → Nat) (t : Nat) (hI : rI ad) (F : Nat → va_E) (hW : WT cA ad F) (p1 : Int32) : MI l D cA ad t yX7_seed wsX7_seed { frames := 0, cells := 0, slots := 0, locals := 0 } [.ref (ad 0), .int p1] F (fun r F' => WT cA ad F' ∧ rFr [0] F F' ∧ ((True) ∧ m_X7_seed (AB ad F) p1 = (r, AB ad F'))) := by
  refine en_I rfl (by decide +kernel) (Nat.le_of_ble_eq_true rfl) ?_
  intro p e s m args below meth c ls0 Q S hK hZ hP hS hl0 hret
  have hl0 : lv_has ls0 3 [(0, .ref (ad 0)), (1, .int p1)] := hl0
  have hFr : rFr [0] F F := rFr.rf
  have hiX7 : ∀ w ∈ u_ws RX7 TX7 15, w ∈ wsX7_seed := in_wsX7_seed_1
  obtain ⟨M, hM⟩ : ∃ M, M = m_X7_seed (AB ad F) p1 := ⟨_, rfl⟩
  refine lv_iload_n S.1 S.2.1 dX7_seed_0 rfl (lv_at hl0 1 rfl) ?_
  refine lv_if_ge (tgt := 7) S.1 S.2.1 dX7_seed_1 (by decide) (fun c1 => ?_) (fun c1 => ?_)
  · skip
    have k2 := ci_le z_ti rfl c1
    refine lv_aload_n S.1 S.2.1 dX7_seed_7 rfl (lv_at hl0 0 rfl) ?_
    obtain ⟨c3, d3, k3, dr3, hF3, hc3, hd3, hk3⟩ := wt_main hW
    refine r_get S hK hP 0 (by decide) hF3 (C := RX7) (T := TX7) (N := 15) hiX7 rfl 14 (by decide) (am_at in_wsX7_seed_0 1 rfl) (v := .int dr3) rfl dX7_seed_8 ?_
    have m4 : ((AB ad F) 0 14) = dr3 := AB_f hF3 rfl
    refine lv_istore_n (lv' := [(2, .int dr3), (0, .ref (ad 0)), (1, .int p1)]) S.1 S.2.1 dX7_seed_11 rfl hl0 (by decide) rfl (fun ls5 hl5 => ?_)
    refine lv_aload_n S.1 S.2.1 dX7_seed_12 rfl (lv_at hl5 1 rfl) ?_
    refine lv_iload_n S.1 S.2.1 dX7_seed_13 rfl (lv_at hl5 2 rfl) ?_
    refine r_put S hI hK hP hS 0 (by decide) hF3 (C := RX7) (T := TX7) (N := 15) hiX7 tyX7_ok nmX7 rfl 14 (by decide) (am_at in_wsX7_seed_0 1 rfl) rfl rfl rfl (Nat.le_of_ble_eq_true rfl) dX7_seed_14 (fun F6 H6 locs6 eF6 hP6 hS6 => ?_)
    have hF6 : F6 0 = .inr (7, [.ref (ad 1), .ref (ad 3), .ref (ad 4), .ref (ad 26), .ref (ad 30), .ref (ad 33), .ref (ad 39), .ref (ad 42), .ref (ad 43), .ref (ad 44), .ref (ad 45), .ref (ad c3), .ref (ad d3), .int (nI k3), .int p1]) := by rw [eF6]; exact va_up_self _ _ _
    have hW6 := hW.up eF6 (ok_main ⟨c3, d3, k3, p1, rfl, hc3, hd3, by omega⟩)
    have hFr6 := hFr.up eF6 (by simp <;> first | omega | (simp only [isC, isJ] at *; omega))
    have hE8 : M = m_X7_seed_7 (AB ad F6) dr3 p1 := hM.trans ((show m_X7_seed (AB ad F) p1 = m_X7_seed_7 (st (AB ad F) 0 14 p1) ((AB ad F) 0 14) p1 from by unfold m_X7_seed; rw [if_pos (le_cg rfl rfl c1)]).trans (congr (congr (congrArg (m_X7_seed_7) ((st_cg rfl rfl rfl).trans (AB_put hF3 (Nat.le_of_ble_eq_true rfl) eF6).symm)) m4) (Eq.refl (p1 : Int32))))
    refine lv_iload_n S.1 S.2.1 dX7_seed_17 rfl (lv_at hl5 0 rfl) ?_
    have hE9 : M = (dr3, AB ad F6) := hE8.trans ((show m_X7_seed_7 (AB ad F6) dr3 p1 = (dr3, (AB ad F6)) from rfl).trans (congrArg (fun q => (q, AB ad F6)) rfl))
    exact hret 18 _ _ _ _ _ dX7_seed_18 rfl hP6 hS6 ⟨hW6, hFr6, ⟨trivial, hM.symm.trans hE9⟩⟩
  have k10 := ci_nle z_ti rfl c1
  refine lv_ldc (v := (-1000000002)) S.1 S.2.1 S.2.2.2.1 (S.2.2.2.2 (.constant RX7 79 (-1000000002)) (am_at in_wsX7_seed_0 0 rfl)) dX7_seed_4 ?_
  have hE11 : M = ((-1000000002), AB ad F) := hM.trans ((show m_X7_seed (AB ad F) p1 = (((-1000000002) : Int32), (AB ad F)) from by unfold m_X7_seed; rw [if_neg (nle_cg rfl rfl c1)]).trans (congrArg (fun q => (q, AB ad F)) rfl))
  exact hret 6 _ _ _ _ _ dX7_seed_6 rfl hP hS ⟨hW, hFr, ⟨trivial, hM.symm.trans hE11⟩⟩
noncomputable def m_X7_keep_30 (σ : SS) (a0 : Int32) : Int32 × SS :=
  ((nI 1), σ)
noncomputable def m_X7_keep_25 (σ : SS) (a0 : Int32) : Int32 × SS :=
  m_X7_keep_30 (st σ 4 1 (nI 0)) a0
noncomputable def m_X7_keep_20 (σ : SS) (a0 : Int32) : Int32 × SS :=
  m_X7_keep_25 (st σ 43 (rl a0) (vp_nar .boolean (nI 1))) a0
noncomputable def m_X7_keep_14 (σ : SS) (a0 : Int32) : Int32 × SS :=
  m_X7_keep_20 (st σ 42 (rl a0) (σ 0 14)) a0
noncomputable def m_X7_keep (σ : SS) (a0 : Int32) : Int32 × SS :=
  if a0 < (0 : Int32) then
    (((-1000000001) : Int32), σ)
  else
    if a0 < (nI 2) then
      m_X7_keep_14 (m_X1_copy σ (rl (σ 39 (rl a0))) 3) a0
    else
      (((-1000000001) : Int32), σ)
set_option maxHeartbeats 4000000 in
set_option maxRecDepth 100000 in
theorem c_X7_keep (l : Launch) (D : va_G) (cA ad : Nat → Nat) (t : Nat) (hI : rI ad) (F : Nat → va_E) (hW : WT cA ad F) (p1 : Int32) : MI l D cA ad t yX7_keep wsX7_keep { frames := 1, cells := 0, slots := 0, locals := 21 } [.ref (ad 0), .int p1] F (fun r F' => WT cA ad F' ∧ rFr [4, 40, 41, 42, 43] F F' ∧ ((r = kpR p1) ∧ m_X7_keep (AB ad F) p1 = (r, AB ad F'))) := by
  refine en_I rfl (by decide +kernel) (Nat.le_of_ble_eq_true rfl) ?_
  intro p e s m args below meth c ls0 Q S hK hZ hP hS hl0 hret
  have hl0 : lv_has ls0 2 [(0, .ref (ad 0)), (1, .int p1)] := hl0
  have hFr : rFr [4, 40, 41, 42, 43] F F := rFr.rf
  have hiX2 : ∀ w ∈ u_ws RX2 TX2 2, w ∈ wsX7_keep := in_wsX7_keep_2
  have hiX7 : ∀ w ∈ u_ws RX7 TX7 15, w ∈ wsX7_keep := in_wsX7_keep_1
  obtain ⟨M, hM⟩ : ∃ M, M = m_X7_keep (AB ad F) p1 := ⟨_, rfl⟩
  refine lv_iload_n S.1 S.2.1 dX7_keep_0 rfl (lv_at hl0 1 rfl) ?_
  refine lv_if_lt (tgt := 9) S.1 S.2.1 dX7_keep_1 (by decide) (fun c1 => ?_) (fun c1 => ?_)
  · skip
    have k2 := ci_lt rfl z_ti c1
    refine lv_ldc (v := (-1000000001)) S.1 S.2.1 S.2.2.2.1 (S.2.2.2.2 (.constant RX7 147 (-1000000001)) (am_at in_wsX7_keep_0 0 rfl)) dX7_keep_9 ?_
    have hE3 : M = ((-1000000001), AB ad F) := hM.trans ((show m_X7_keep (AB ad F) p1 = (((-1000000001) : Int32), (AB ad F)) from by unfold m_X7_keep; rw [if_pos (lt_cg rfl rfl c1)]).trans (congrArg (fun q => (q, AB ad F)) rfl))
    exact hret 11 _ _ _ _ _ dX7_keep_11 rfl hP hS ⟨hW, hFr, ⟨by unfold kpR; rw [if_neg (by omega)], hM.symm.trans hE3⟩⟩
  have k4 := ci_nlt rfl z_ti c1
  refine lv_iload_n S.1 S.2.1 dX7_keep_4 rfl (lv_at hl0 1 rfl) ?_
  refine lv_iconst (v := (nI 2)) S.1 S.2.1 dX7_keep_5 (by decide +kernel) ?_
  refine lv_icmp_lt (tgt := 12) S.1 S.2.1 dX7_keep_6 (by decide) (fun c5 => ?_) (fun c5 => ?_)
  · skip
    have k6 := ci_lt rfl (nI_toInt (n := 2) (by decide)) c5
    obtain ⟨j7, hj7, rfl⟩ := nI_of_le (x := p1) (B := 1) (by omega) (by omega)
    have kj7 := nI_toInt (n := j7) (Nat.lt_of_le_of_lt hj7 (by decide))
    refine lv_aload_n S.1 S.2.1 dX7_keep_12 rfl (lv_at hl0 0 rfl) ?_
    obtain ⟨c8, d8, k8, dr8, hF8, hc8, hd8, hk8⟩ := wt_main hW
    refine r_get S hK hP 0 (by decide) hF8 (C := RX7) (T := TX7) (N := 15) hiX7 rfl 6 (by decide) (am_at in_wsX7_keep_0 1 rfl) (v := .ref (ad 39)) rfl dX7_keep_13 ?_
    refine lv_iload_n S.1 S.2.1 dX7_keep_16 rfl (lv_at hl0 1 rfl) ?_
    obtain ⟨g9, hF9, hg9⟩ := wt_img hW
    obtain ⟨j10, hj10, hg10⟩ := hg9 j7 (by omega)
    refine r_aald S hK hP 39 (by decide) hF9 (vp_in_nI (show j7 < 2 by omega) (by omega)) (a := ad j10) (by rw [nI_clamp (by omega)]; exact hg10) dX7_keep_17 ?_
    have m11 : (rl ((AB ad F) 39 (rl (nI j7)))) = j10 := (congrArg rl (ab_cg (σ := AB ad F) rfl rfl)).trans (AB_q hI (lt_J (show isJ j10 from Or.inr (Or.inr hj10))) hF9 (by rw [show rl (nI j7) = j7 from nI_clamp (by omega)]; exact hg10))
    refine lv_aload_n S.1 S.2.1 dX7_keep_18 rfl (lv_at hl0 0 rfl) ?_
    refine r_get S hK hP 0 (by decide) hF8 (C := RX7) (T := TX7) (N := 15) hiX7 rfl 1 (by decide) (am_at in_wsX7_keep_0 2 rfl) (v := .ref (ad 3)) rfl dX7_keep_19 ?_
    obtain ⟨ja13, jb13, jc13, jd13, jx13, jy13, jk13, hF13, hk13⟩ := wt_J hW (show isJ j10 from Or.inr (Or.inr hj10))
    refine r_cVv (As := [.ref (ad 3)]) (rest := []) S hK hZ hP hS hl0.1 j10 (lt_J (show isJ j10 from Or.inr (Or.inr hj10))) hF13 (C := RX1) rfl (c_X1_copy l D cA ad t hI F hW j10 (show isJ j10 from Or.inr (Or.inr hj10)) 3 (show isJ 3 from Or.inl rfl)) (cwV 1 S.2.2.2.2 gX7_keep_X1_copy rfl rfl rfl (by decide +kernel) ⟨Nat.le_of_ble_eq_true rfl, Nat.le_of_ble_eq_true rfl⟩) rfl rfl (Nat.le_of_ble_eq_true rfl) ⟨Nat.zero_le _, Nat.zero_le _⟩ dX7_keep_22 (fun F12 H12 locs12 hr12 hP12 hS12 => ?_)
    obtain ⟨hW12, hFc12, hr12⟩ := hr12
    obtain ⟨hr12, hm12⟩ := hr12
    have hFr12 := hFr.tr hFc12 (by simp <;> first | omega | (simp only [isC, isJ] at *; omega))
    have hE15 : M = m_X7_keep_14 (AB ad F12) (nI j7) := hM.trans ((show m_X7_keep (AB ad F) (nI j7) = m_X7_keep_14 (m_X1_copy (AB ad F) (rl ((AB ad F) 39 (rl (nI j7)))) 3) (nI j7) from by unfold m_X7_keep; rw [if_neg (nlt_cg rfl rfl c1), if_pos (lt_cg rfl rfl c5)]).trans (congr (congrArg (m_X7_keep_14) ((congr (congr (Eq.refl (m_X1_copy (AB ad F))) m11) (Eq.refl 3)).trans hm12)) (Eq.refl ((nI j7) : Int32))))
    refine lv_aload_n S.1 S.2.1 dX7_keep_25 rfl (lv_at hl0 0 rfl) ?_
    have hF16 := (hFc12 0 (by have hh_j10 := (show isJ j10 from Or.inr (Or.inr hj10)); unfold isJ at hh_j10; simp only [List.mem_cons, List.not_mem_nil, or_false, not_or]; omega)).trans hF8
    refine r_get S hK hP12 0 (by decide) hF16 (C := RX7) (T := TX7) (N := 15) hiX7 rfl 7 (by decide) (am_at in_wsX7_keep_0 3 rfl) (v := .ref (ad 42)) rfl dX7_keep_26 ?_
    refine lv_iload_n S.1 S.2.1 dX7_keep_29 rfl (lv_at hl0 1 rfl) ?_
    refine lv_aload_n S.1 S.2.1 dX7_keep_30 rfl (lv_at hl0 0 rfl) ?_
    refine r_get S hK hP12 0 (by decide) hF16 (C := RX7) (T := TX7) (N := 15) hiX7 rfl 14 (by decide) (am_at in_wsX7_keep_0 4 rfl) (v := .int dr8) rfl dX7_keep_31 ?_
    have m17 : ((AB ad F12) 0 14) = dr8 := AB_f hF16 rfl
    obtain ⟨g18, hF18, hg18⟩ := wt_I hW12 (show (42, 2) ∈ rLI by decide)
    refine r_iast S hI hK hP12 hS12 42 (by decide) hF18 (vp_in_nI (show j7 < 2 by omega) (by omega)) dX7_keep_34 (fun F19 H19 locs19 eF19 hP19 hS19 => ?_)
    have hW19 := hW12.up eF19 (ok_I (show (42, 2) ∈ rLI by decide) (okI_up hg18 (pr_of (by decide))))
    have hFr19 := hFr12.up eF19 (by simp <;> first | omega | (simp only [isC, isJ] at *; omega))
    have hE21 : M = m_X7_keep_20 (AB ad F19) (nI j7) := hE15.trans ((show m_X7_keep_14 (AB ad F12) (nI j7) = m_X7_keep_20 (st (AB ad F12) 42 (rl (nI j7)) ((AB ad F12) 0 14)) (nI j7) from rfl).trans (congr (congrArg (m_X7_keep_20) ((st_cg rfl (congrArg rl rfl) m17).trans (AB_ast hF18 eF19).symm)) (Eq.refl ((nI j7) : Int32))))
    refine lv_aload_n S.1 S.2.1 dX7_keep_35 rfl (lv_at hl0 0 rfl) ?_
    have hF22 := (show F19 0 = F12 0 by rw [eF19]; exact va_up_ne _ _ (by decide)).trans hF16
    refine r_get S hK hP19 0 (by decide) hF22 (C := RX7) (T := TX7) (N := 15) hiX7 rfl 8 (by decide) (am_at in_wsX7_keep_0 5 rfl) (v := .ref (ad 43)) rfl dX7_keep_36 ?_
    refine lv_iload_n S.1 S.2.1 dX7_keep_39 rfl (lv_at hl0 1 rfl) ?_
    refine lv_iconst (v := (nI 1)) S.1 S.2.1 dX7_keep_40 (by decide +kernel) ?_
    obtain ⟨g23, hF23⟩ := wt_Z hW19 (show (43, 2) ∈ rLZ by decide)
    refine r_zast S hI hK hP19 hS19 43 (by decide) hF23 (vp_in_nI (show j7 < 2 by omega) (by omega)) dX7_keep_41 (fun F24 H24 locs24 eF24 hP24 hS24 => ?_)
    have hW24 := hW19.up eF24 (ok_Z (show (43, 2) ∈ rLZ by decide) ⟨_, rfl⟩)
    have hFr24 := hFr19.up eF24 (by simp <;> first | omega | (simp only [isC, isJ] at *; omega))
    have hE26 : M = m_X7_keep_25 (AB ad F24) (nI j7) := hE21.trans ((show m_X7_keep_20 (AB ad F19) (nI j7) = m_X7_keep_25 (st (AB ad F19) 43 (rl (nI j7)) (vp_nar .boolean (nI 1))) (nI j7) from rfl).trans (congr (congrArg (m_X7_keep_25) ((st_cg rfl (congrArg rl rfl) (congrArg (vp_nar .boolean) rfl)).trans (AB_ast hF23 eF24).symm)) (Eq.refl ((nI j7) : Int32))))
    refine lv_aload_n S.1 S.2.1 dX7_keep_42 rfl (lv_at hl0 0 rfl) ?_
    have hF27 := (show F24 0 = F19 0 by rw [eF24]; exact va_up_ne _ _ (by decide)).trans hF22
    refine r_get S hK hP24 0 (by decide) hF27 (C := RX7) (T := TX7) (N := 15) hiX7 rfl 2 (by decide) (am_at in_wsX7_keep_0 6 rfl) (v := .ref (ad 4)) rfl dX7_keep_43 ?_
    refine lv_iconst (v := (nI 0)) S.1 S.2.1 dX7_keep_46 (by decide +kernel) ?_
    obtain ⟨k28, hF28, hk28⟩ := wt_past hW24
    refine r_put S hI hK hP24 hS24 4 (by decide) hF28 (C := RX2) (T := TX2) (N := 2) hiX2 tyX2_ok nmX2 rfl 1 (by decide) (am_at in_wsX7_keep_0 7 rfl) rfl rfl rfl (Nat.le_of_ble_eq_true rfl) dX7_keep_47 (fun F29 H29 locs29 eF29 hP29 hS29 => ?_)
    have hF29 : F29 4 = .inr (2, [.ref (ad 5), .int (nI 0)]) := by rw [eF29]; exact va_up_self _ _ _
    have hW29 := hW24.up eF29 (ok_past ⟨0, rfl, by omega⟩)
    have hFr29 := hFr24.up eF29 (by simp <;> first | omega | (simp only [isC, isJ] at *; omega))
    have hE31 : M = m_X7_keep_30 (AB ad F29) (nI j7) := hE26.trans ((show m_X7_keep_25 (AB ad F24) (nI j7) = m_X7_keep_30 (st (AB ad F24) 4 1 (nI 0)) (nI j7) from rfl).trans (congr (congrArg (m_X7_keep_30) ((st_cg rfl rfl rfl).trans (AB_put hF28 (Nat.le_of_ble_eq_true rfl) eF29).symm)) (Eq.refl ((nI j7) : Int32))))
    refine lv_iconst (v := (nI 1)) S.1 S.2.1 dX7_keep_50 (by decide +kernel) ?_
    have hE32 : M = ((nI 1), AB ad F29) := hE31.trans ((show m_X7_keep_30 (AB ad F29) (nI j7) = ((nI 1), (AB ad F29)) from rfl).trans (congrArg (fun q => (q, AB ad F29)) rfl))
    exact hret 51 _ _ _ _ _ dX7_keep_51 rfl hP29 hS29 ⟨hW29, hFr29, ⟨by unfold kpR; rw [if_pos (by omega)], hM.symm.trans hE32⟩⟩
  have k33 := ci_nlt rfl (nI_toInt (n := 2) (by decide)) c5
  refine lv_ldc (v := (-1000000001)) S.1 S.2.1 S.2.2.2.1 (S.2.2.2.2 (.constant RX7 147 (-1000000001)) (am_at in_wsX7_keep_0 0 rfl)) dX7_keep_9 ?_
  have hE34 : M = ((-1000000001), AB ad F) := hM.trans ((show m_X7_keep (AB ad F) p1 = (((-1000000001) : Int32), (AB ad F)) from by unfold m_X7_keep; rw [if_neg (nlt_cg rfl rfl c1), if_neg (nlt_cg rfl rfl c5)]).trans (congrArg (fun q => (q, AB ad F)) rfl))
  exact hret 11 _ _ _ _ _ dX7_keep_11 rfl hP hS ⟨hW, hFr, ⟨by unfold kpR; rw [if_neg (by omega)], hM.symm.trans hE34⟩⟩
noncomputable def m_X7_goBack_32 (σ : SS) (a0 : Int32) : Int32 × SS :=
  ((nI 1), σ)
noncomputable def m_X7_goBack_28 (σ : SS) (a0 : Int32) : Int32 × SS :=
  m_X7_goBack_32 (st σ 4 1 (nI 0)) a0
noncomputable def m_X7_goBack_20 (σ : SS) (a0 : Int32) : Int32 × SS :=
  m_X7_goBack_28 (st σ 0 14 (σ 42 (rl a0))) a0
noncomputable def m_X7_goBack (σ : SS) (a0 : Int32) : Int32 × SS :=
  if a0 < (0 : Int32) then
    (((-1000000001) : Int32), σ)
  else
    if a0 < (nI 2) then
      if (σ 43 (rl a0)) = (0 : Int32) then
        (((-1000000003) : Int32), σ)
      else
        m_X7_goBack_20 (m_X1_copy σ 3 (rl (σ 39 (rl a0)))) a0
    else
      (((-1000000001) : Int32), σ)
set_option maxHeartbeats 4000000 in
set_option maxRecDepth 100000 in
theorem c_X7_goBack (l : Launch) (D : va_G) (cA ad : Nat → Nat) (t : Nat) (hI : rI ad) (F : Nat → va_E) (hW : WT cA ad F) (p1 : Int32) : MI l D cA ad t yX7_goBack wsX7_goBack { frames := 1, cells := 0, slots := 0, locals := 21 } [.ref (ad 0), .int p1] F (fun r F' => WT cA ad F' ∧ rFr [0, 3, 4] F F' ∧ ((True) ∧ m_X7_goBack (AB ad F) p1 = (r, AB ad F'))) := by
  refine en_I rfl (by decide +kernel) (Nat.le_of_ble_eq_true rfl) ?_
  intro p e s m args below meth c ls0 Q S hK hZ hP hS hl0 hret
  have hl0 : lv_has ls0 2 [(0, .ref (ad 0)), (1, .int p1)] := hl0
  have hFr : rFr [0, 3, 4] F F := rFr.rf
  have hiX2 : ∀ w ∈ u_ws RX2 TX2 2, w ∈ wsX7_goBack := in_wsX7_goBack_2
  have hiX7 : ∀ w ∈ u_ws RX7 TX7 15, w ∈ wsX7_goBack := in_wsX7_goBack_1
  obtain ⟨M, hM⟩ : ∃ M, M = m_X7_goBack (AB ad F) p1 := ⟨_, rfl⟩
  refine lv_iload_n S.1 S.2.1 dX7_goBack_0 rfl (lv_at hl0 1 rfl) ?_
  refine lv_if_lt (tgt := 9) S.1 S.2.1 dX7_goBack_1 (by decide) (fun c1 => ?_) (fun c1 => ?_)
  · skip
    have k2 := ci_lt rfl z_ti c1
    refine lv_ldc (v := (-1000000001)) S.1 S.2.1 S.2.2.2.1 (S.2.2.2.2 (.constant RX7 147 (-1000000001)) (am_at in_wsX7_goBack_0 0 rfl)) dX7_goBack_9 ?_
    have hE3 : M = ((-1000000001), AB ad F) := hM.trans ((show m_X7_goBack (AB ad F) p1 = (((-1000000001) : Int32), (AB ad F)) from by unfold m_X7_goBack; rw [if_pos (lt_cg rfl rfl c1)]).trans (congrArg (fun q => (q, AB ad F)) rfl))
    exact hret 11 _ _ _ _ _ dX7_goBack_11 rfl hP hS ⟨hW, hFr, ⟨trivial, hM.symm.trans hE3⟩⟩
  have k4 := ci_nlt rfl z_ti c1
  refine lv_iload_n S.1 S.2.1 dX7_goBack_4 rfl (lv_at hl0 1 rfl) ?_
  refine lv_iconst (v := (nI 2)) S.1 S.2.1 dX7_goBack_5 (by decide +kernel) ?_
  refine lv_icmp_lt (tgt := 12) S.1 S.2.1 dX7_goBack_6 (by decide) (fun c5 => ?_) (fun c5 => ?_)
  · skip
    have k6 := ci_lt rfl (nI_toInt (n := 2) (by decide)) c5
    obtain ⟨j7, hj7, rfl⟩ := nI_of_le (x := p1) (B := 1) (by omega) (by omega)
    have kj7 := nI_toInt (n := j7) (Nat.lt_of_le_of_lt hj7 (by decide))
    refine lv_aload_n S.1 S.2.1 dX7_goBack_12 rfl (lv_at hl0 0 rfl) ?_
    obtain ⟨c8, d8, k8, dr8, hF8, hc8, hd8, hk8⟩ := wt_main hW
    refine r_get S hK hP 0 (by decide) hF8 (C := RX7) (T := TX7) (N := 15) hiX7 rfl 8 (by decide) (am_at in_wsX7_goBack_0 1 rfl) (v := .ref (ad 43)) rfl dX7_goBack_13 ?_
    refine lv_iload_n S.1 S.2.1 dX7_goBack_16 rfl (lv_at hl0 1 rfl) ?_
    obtain ⟨g9, hF9⟩ := wt_Z hW (show (43, 2) ∈ rLZ by decide)
    refine r_zald S hK hP 43 (by decide) hF9 (vp_in_nI (show j7 < 2 by omega) (by omega)) dX7_goBack_17 ?_
    refine lv_topi (fun v11 e11 => ?_)
    have m12 : ((AB ad F) 43 (rl (nI j7))) = v11 := (ab_cg rfl rfl).trans ((AB_g hF9).trans e11.symm)
    refine lv_if_ne (tgt := 24) S.1 S.2.1 dX7_goBack_18 (by decide) (fun c13 => ?_) (fun c13 => ?_)
    · skip
      have k14 := ci_ne rfl z_ti c13
      refine lv_aload_n S.1 S.2.1 dX7_goBack_24 rfl (lv_at hl0 0 rfl) ?_
      refine r_get S hK hP 0 (by decide) hF8 (C := RX7) (T := TX7) (N := 15) hiX7 rfl 1 (by decide) (am_at in_wsX7_goBack_0 3 rfl) (v := .ref (ad 3)) rfl dX7_goBack_25 ?_
      refine lv_aload_n S.1 S.2.1 dX7_goBack_28 rfl (lv_at hl0 0 rfl) ?_
      refine r_get S hK hP 0 (by decide) hF8 (C := RX7) (T := TX7) (N := 15) hiX7 rfl 6 (by decide) (am_at in_wsX7_goBack_0 4 rfl) (v := .ref (ad 39)) rfl dX7_goBack_29 ?_
      refine lv_iload_n S.1 S.2.1 dX7_goBack_32 rfl (lv_at hl0 1 rfl) ?_
      obtain ⟨g15, hF15, hg15⟩ := wt_img hW
      obtain ⟨j16, hj16, hg16⟩ := hg15 j7 (by omega)
      refine r_aald S hK hP 39 (by decide) hF15 (vp_in_nI (show j7 < 2 by omega) (by omega)) (a := ad j16) (by rw [nI_clamp (by omega)]; exact hg16) dX7_goBack_33 ?_
      have m17 : (rl ((AB ad F) 39 (rl (nI j7)))) = j16 := (congrArg rl (ab_cg (σ := AB ad F) rfl rfl)).trans (AB_q hI (lt_J (show isJ j16 from Or.inr (Or.inr hj16))) hF15 (by rw [show rl (nI j7) = j7 from nI_clamp (by omega)]; exact hg16))
      obtain ⟨ja19, jb19, jc19, jd19, jx19, jy19, jk19, hF19, hk19⟩ := wt_J hW (show isJ 3 from Or.inl rfl)
      refine r_cVv (As := [.ref (ad j16)]) (rest := []) S hK hZ hP hS hl0.1 3 (by decide) hF19 (C := RX1) rfl (c_X1_copy l D cA ad t hI F hW 3 (show isJ 3 from Or.inl rfl) j16 (show isJ j16 from Or.inr (Or.inr hj16))) (cwV 1 S.2.2.2.2 gX7_goBack_X1_copy rfl rfl rfl (by decide +kernel) ⟨Nat.le_of_ble_eq_true rfl, Nat.le_of_ble_eq_true rfl⟩) rfl rfl (Nat.le_of_ble_eq_true rfl) ⟨Nat.zero_le _, Nat.zero_le _⟩ dX7_goBack_34 (fun F18 H18 locs18 hr18 hP18 hS18 => ?_)
      obtain ⟨hW18, hFc18, hr18⟩ := hr18
      obtain ⟨hr18, hm18⟩ := hr18
      have hFr18 := hFr.tr hFc18 (by simp <;> first | omega | (simp only [isC, isJ] at *; omega))
      have hE21 : M = m_X7_goBack_20 (AB ad F18) (nI j7) := hM.trans ((show m_X7_goBack (AB ad F) (nI j7) = m_X7_goBack_20 (m_X1_copy (AB ad F) 3 (rl ((AB ad F) 39 (rl (nI j7))))) (nI j7) from by unfold m_X7_goBack; rw [if_neg (nlt_cg rfl rfl c1), if_pos (lt_cg rfl rfl c5), if_neg (neq_cg m12 rfl c13)]).trans (congr (congrArg (m_X7_goBack_20) ((congr (congr (Eq.refl (m_X1_copy (AB ad F))) (Eq.refl 3)) m17).trans hm18)) (Eq.refl ((nI j7) : Int32))))
      refine lv_aload_n S.1 S.2.1 dX7_goBack_37 rfl (lv_at hl0 0 rfl) ?_
      refine lv_aload_n S.1 S.2.1 dX7_goBack_38 rfl (lv_at hl0 0 rfl) ?_
      have hF22 := (hFc18 0 (by decide)).trans hF8
      refine r_get S hK hP18 0 (by decide) hF22 (C := RX7) (T := TX7) (N := 15) hiX7 rfl 7 (by decide) (am_at in_wsX7_goBack_0 5 rfl) (v := .ref (ad 42)) rfl dX7_goBack_39 ?_
      refine lv_iload_n S.1 S.2.1 dX7_goBack_42 rfl (lv_at hl0 1 rfl) ?_
      obtain ⟨g23, hF23, hg23⟩ := wt_I hW18 (show (42, 2) ∈ rLI by decide)
      refine r_iald S hK hP18 42 (by decide) hF23 (vp_in_nI (show j7 < 2 by omega) (by omega)) dX7_goBack_43 ?_
      refine lv_topi (fun v25 e25 => ?_)
      have m26 : ((AB ad F18) 42 (rl (nI j7))) = v25 := (ab_cg rfl rfl).trans ((AB_g hF23).trans e25.symm)
      refine r_put S hI hK hP18 hS18 0 (by decide) hF22 (C := RX7) (T := TX7) (N := 15) hiX7 tyX7_ok nmX7 rfl 14 (by decide) (am_at in_wsX7_goBack_0 6 rfl) rfl rfl rfl (Nat.le_of_ble_eq_true rfl) dX7_goBack_44 (fun F27 H27 locs27 eF27 hP27 hS27 => ?_)
      have hF27 : F27 0 = .inr (7, [.ref (ad 1), .ref (ad 3), .ref (ad 4), .ref (ad 26), .ref (ad 30), .ref (ad 33), .ref (ad 39), .ref (ad 42), .ref (ad 43), .ref (ad 44), .ref (ad 45), .ref (ad c8), .ref (ad d8), .int (nI k8), .int v25]) := by rw [eF27]; exact va_up_self _ _ _
      have hW27 := hW18.up eF27 (ok_main ⟨c8, d8, k8, v25, rfl, hc8, hd8, by omega⟩)
      have hFr27 := hFr18.up eF27 (by simp <;> first | omega | (simp only [isC, isJ] at *; omega))
      have hE29 : M = m_X7_goBack_28 (AB ad F27) (nI j7) := hE21.trans ((show m_X7_goBack_20 (AB ad F18) (nI j7) = m_X7_goBack_28 (st (AB ad F18) 0 14 ((AB ad F18) 42 (rl (nI j7)))) (nI j7) from rfl).trans (congr (congrArg (m_X7_goBack_28) ((st_cg rfl rfl m26).trans (AB_put hF22 (Nat.le_of_ble_eq_true rfl) eF27).symm)) (Eq.refl ((nI j7) : Int32))))
      refine lv_aload_n S.1 S.2.1 dX7_goBack_47 rfl (lv_at hl0 0 rfl) ?_
      refine r_get S hK hP27 0 (by decide) hF27 (C := RX7) (T := TX7) (N := 15) hiX7 rfl 2 (by decide) (am_at in_wsX7_goBack_0 7 rfl) (v := .ref (ad 4)) rfl dX7_goBack_48 ?_
      refine lv_iconst (v := (nI 0)) S.1 S.2.1 dX7_goBack_51 (by decide +kernel) ?_
      obtain ⟨k30, hF30, hk30⟩ := wt_past hW27
      refine r_put S hI hK hP27 hS27 4 (by decide) hF30 (C := RX2) (T := TX2) (N := 2) hiX2 tyX2_ok nmX2 rfl 1 (by decide) (am_at in_wsX7_goBack_0 8 rfl) rfl rfl rfl (Nat.le_of_ble_eq_true rfl) dX7_goBack_52 (fun F31 H31 locs31 eF31 hP31 hS31 => ?_)
      have hF31 : F31 4 = .inr (2, [.ref (ad 5), .int (nI 0)]) := by rw [eF31]; exact va_up_self _ _ _
      have hW31 := hW27.up eF31 (ok_past ⟨0, rfl, by omega⟩)
      have hFr31 := hFr27.up eF31 (by simp <;> first | omega | (simp only [isC, isJ] at *; omega))
      have hE33 : M = m_X7_goBack_32 (AB ad F31) (nI j7) := hE29.trans ((show m_X7_goBack_28 (AB ad F27) (nI j7) = m_X7_goBack_32 (st (AB ad F27) 4 1 (nI 0)) (nI j7) from rfl).trans (congr (congrArg (m_X7_goBack_32) ((st_cg rfl rfl rfl).trans (AB_put hF30 (Nat.le_of_ble_eq_true rfl) eF31).symm)) (Eq.refl ((nI j7) : Int32))))
      refine lv_iconst (v := (nI 1)) S.1 S.2.1 dX7_goBack_55 (by decide +kernel) ?_
      have hE34 : M = ((nI 1), AB ad F31) := hE33.trans ((show m_X7_goBack_32 (AB ad F31) (nI j7) = ((nI 1), (AB ad F31)) from rfl).trans (congrArg (fun q => (q, AB ad F31)) rfl))
      exact hret 56 _ _ _ _ _ dX7_goBack_56 rfl hP31 hS31 ⟨hW31, hFr31, ⟨trivial, hM.symm.trans hE34⟩⟩
    have k35 := ci_eq rfl z_ti c13
    refine lv_ldc (v := (-1000000003)) S.1 S.2.1 S.2.2.2.1 (S.2.2.2.2 (.constant RX7 181 (-1000000003)) (am_at in_wsX7_goBack_0 2 rfl)) dX7_goBack_21 ?_
    have hE36 : M = ((-1000000003), AB ad F) := hM.trans ((show m_X7_goBack (AB ad F) (nI j7) = (((-1000000003) : Int32), (AB ad F)) from by unfold m_X7_goBack; rw [if_neg (nlt_cg rfl rfl c1), if_pos (lt_cg rfl rfl c5), if_pos (eq_cg m12 rfl c13)]).trans (congrArg (fun q => (q, AB ad F)) rfl))
    exact hret 23 _ _ _ _ _ dX7_goBack_23 rfl hP hS ⟨hW, hFr, ⟨trivial, hM.symm.trans hE36⟩⟩
  have k37 := ci_nlt rfl (nI_toInt (n := 2) (by decide)) c5
  refine lv_ldc (v := (-1000000001)) S.1 S.2.1 S.2.2.2.1 (S.2.2.2.2 (.constant RX7 147 (-1000000001)) (am_at in_wsX7_goBack_0 0 rfl)) dX7_goBack_9 ?_
  have hE38 : M = ((-1000000001), AB ad F) := hM.trans ((show m_X7_goBack (AB ad F) p1 = (((-1000000001) : Int32), (AB ad F)) from by unfold m_X7_goBack; rw [if_neg (nlt_cg rfl rfl c1), if_neg (nlt_cg rfl rfl c5)]).trans (congrArg (fun q => (q, AB ad F)) rfl))
  exact hret 11 _ _ _ _ _ dX7_goBack_11 rfl hP hS ⟨hW, hFr, ⟨trivial, hM.symm.trans hE38⟩⟩
