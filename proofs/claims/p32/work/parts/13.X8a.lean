noncomputable def m_X8_in (σ : SS) (a0 : Int32) (a1 : Int32) (a2 : Int32) : Int32 :=
  if a0 < a1 then
    (nI 0)
  else
    if a2 < a0 then
      (nI 0)
    else
      (nI 1)
set_option maxHeartbeats 4000000 in
set_option maxRecDepth 100000 in
theorem c_X8_in (l : Launch) (D : va_G) (cA ad : Nat → Nat) (t : Nat) (hI : rI ad) (F : Nat → va_E) (hW : WT cA ad F) (p1 : Int32) (p2 : Int32) (p3 : Int32) : MP l D cA ad t yX8_in wsX8_in { frames := 0, cells := 0, slots := 0, locals := 0 } [.int p1, .int p2, .int p3] F (fun r => (le32 1 r ∧ (r ≠ 0 → p2.toInt ≤ p1.toInt ∧ p1.toInt ≤ p3.toInt) ∧ (r = 0 → p1.toInt < p2.toInt ∨ p3.toInt < p1.toInt)) ∧ m_X8_in (AB ad F) p1 p2 p3 = r) := by
  refine en_P rfl (by decide +kernel) (Nat.le_of_ble_eq_true rfl) ?_
  intro p e s m args below meth c ls0 Q S hK hZ hP hS hl0 hret
  have hl0 : lv_has ls0 3 [(0, .int p1), (1, .int p2), (2, .int p3)] := hl0
  obtain ⟨M, hM⟩ : ∃ M, M = m_X8_in (AB ad F) p1 p2 p3 := ⟨_, rfl⟩
  refine lv_iload_n S.1 S.2.1 dX8_in_0 rfl (lv_at hl0 0 rfl) ?_
  refine lv_iload_n S.1 S.2.1 dX8_in_1 rfl (lv_at hl0 1 rfl) ?_
  refine lv_icmp_lt (tgt := 14) S.1 S.2.1 dX8_in_2 (by decide) (fun c1 => ?_) (fun c1 => ?_)
  · skip
    have k2 := ci_lt rfl rfl c1
    refine lv_iconst (v := (nI 0)) S.1 S.2.1 dX8_in_14 (by decide +kernel) ?_
    have hE3 : M = (nI 0) := hM.trans ((show m_X8_in (AB ad F) p1 p2 p3 = (nI 0) from by unfold m_X8_in; rw [if_pos (lt_cg rfl rfl c1)]).trans rfl)
    exact hret 15 _ _ dX8_in_15 rfl (⟨⟨⟨0, by omega, rfl⟩, fun h => absurd rfl h, fun _ => by omega⟩, hM.symm.trans hE3⟩)
  have k4 := ci_nlt rfl rfl c1
  refine lv_iload_n S.1 S.2.1 dX8_in_5 rfl (lv_at hl0 0 rfl) ?_
  refine lv_iload_n S.1 S.2.1 dX8_in_6 rfl (lv_at hl0 2 rfl) ?_
  refine lv_icmp_gt (tgt := 14) S.1 S.2.1 dX8_in_7 (by decide) (fun c5 => ?_) (fun c5 => ?_)
  · skip
    have k6 := ci_lt rfl rfl c5
    refine lv_iconst (v := (nI 0)) S.1 S.2.1 dX8_in_14 (by decide +kernel) ?_
    have hE7 : M = (nI 0) := hM.trans ((show m_X8_in (AB ad F) p1 p2 p3 = (nI 0) from by unfold m_X8_in; rw [if_neg (nlt_cg rfl rfl c1), if_pos (lt_cg rfl rfl c5)]).trans rfl)
    exact hret 15 _ _ dX8_in_15 rfl (⟨⟨⟨0, by omega, rfl⟩, fun h => absurd rfl h, fun _ => by omega⟩, hM.symm.trans hE7⟩)
  have k8 := ci_nlt rfl rfl c5
  refine lv_iconst (v := (nI 1)) S.1 S.2.1 dX8_in_10 (by decide +kernel) ?_
  refine lv_goto (tgt := 15) S.1 S.2.1 dX8_in_11 (by decide) ?_
  have hE9 : M = (nI 1) := hM.trans ((show m_X8_in (AB ad F) p1 p2 p3 = (nI 1) from by unfold m_X8_in; rw [if_neg (nlt_cg rfl rfl c1), if_neg (nlt_cg rfl rfl c5)]).trans rfl)
  exact hret 15 _ _ dX8_in_15 rfl (⟨⟨⟨1, by omega, rfl⟩, fun _ => ⟨by omega, by omega⟩, fun h => absurd h (by decide +kernel)⟩, hM.symm.trans hE9⟩)
noncomputable def m_X8_isTown (σ : SS) (a0 : Int32) : Int32 :=
  (m_X8_in σ a0 (nI 0) ((σ 60 (rl (nI 2))) - (nI 1)))
set_option maxHeartbeats 4000000 in
set_option maxRecDepth 100000 in
theorem c_X8_isTown (l : Launch) (D : va_G) (cA ad : Nat → Nat) (t : Nat) (hI : rI ad) (F : Nat → va_E) (hW : WT cA ad F) (p1 : Int32) : MP l D cA ad t yX8_isTown wsX8_isTown { frames := 1, cells := 0, slots := 0, locals := 22 } [.ref (ad 58), .int p1] F (fun r => (le32 1 r ∧ (r ≠ 0 → 0 ≤ p1.toInt ∧ p1.toInt ≤ 7)) ∧ m_X8_isTown (AB ad F) p1 = r) := by
  refine en_P rfl (by decide +kernel) (Nat.le_of_ble_eq_true rfl) ?_
  intro p e s m args below meth c ls0 Q S hK hZ hP hS hl0 hret
  have hl0 : lv_has ls0 2 [(0, .ref (ad 58)), (1, .int p1)] := hl0
  have hiX8 : ∀ w ∈ u_ws RX8 TX8 23, w ∈ wsX8_isTown := in_wsX8_isTown_1
  obtain ⟨M, hM⟩ : ∃ M, M = m_X8_isTown (AB ad F) p1 := ⟨_, rfl⟩
  refine lv_iload_n S.1 S.2.1 dX8_isTown_0 rfl (lv_at hl0 1 rfl) ?_
  refine lv_iconst (v := (nI 0)) S.1 S.2.1 dX8_isTown_1 (by decide +kernel) ?_
  refine lv_aload_n S.1 S.2.1 dX8_isTown_2 rfl (lv_at hl0 0 rfl) ?_
  obtain ⟨ty1, kn1, no1, en1, at1, sa1, sd1, wr1, pl1, va1, hF1, hb1_1, hb1_2, hb1_3, hb1_4, hb1_5, hb1_6⟩ := wt_m hW
  refine r_get S hK hP 58 (by decide) hF1 (C := RX8) (T := TX8) (N := 23) hiX8 rfl 2 (by decide) (am_at in_wsX8_isTown_0 0 rfl) (v := .ref (ad 60)) rfl dX8_isTown_3 ?_
  refine lv_iconst (v := (nI 2)) S.1 S.2.1 dX8_isTown_6 (by decide +kernel) ?_
  obtain ⟨g2, hF2, hg2⟩ := wt_I hW (show (60, 52) ∈ rLI by decide)
  refine r_iald S hK hP 60 (by decide) hF2 (vp_in_nI (show 2 < 52 by omega) (by omega)) dX8_isTown_7 ?_
  refine lv_topi (fun v4 e4 => ?_)
  obtain ⟨b5, hb5, he5⟩ := (pr_T (by decide) (hg2 2 (by decide))).2.1 rfl
  obtain rfl : v4 = nI b5 := e4.trans he5
  have m6 : ((AB ad F) 60 (rl (nI 2))) = (nI b5) := (ab_cg rfl rfl).trans ((AB_g hF2).trans e4.symm)
  refine lv_iconst (v := (nI 1)) S.1 S.2.1 dX8_isTown_8 (by decide +kernel) ?_
  refine lv_isub S.1 S.2.1 dX8_isTown_9 ?_
  refine lv_topi (fun v7 e7 => ?_)
  have m8 : (((AB ad F) 60 (rl (nI 2))) - (nI 1)) = v7 := cg2 (fun (x : Int32) (y : Int32) => x - y) m6 (Eq.refl ((nI 1) : Int32)) e7
  have ks7 : v7.toInt = ((b5 : Nat) : Int) - ((1 : Nat) : Int) := by rw [e7]; exact pk_sub_toInt (by omega) (by omega)
  refine r_cSp (As := [.int p1, .int (nI 0), .int v7]) (rest := []) S hK hZ hP hS hl0.1 (c_X8_in l D cA ad t hI F hW p1 (nI 0) v7) (va_cwS 3 S.2.2.2.2 gX8_isTown_X8_in rfl rfl rfl (by decide +kernel) ⟨Nat.le_of_ble_eq_true rfl, Nat.le_of_ble_eq_true rfl⟩) rfl rfl (Nat.le_of_ble_eq_true rfl) ⟨Nat.zero_le _, Nat.zero_le _⟩ dX8_isTown_10 (fun r9 hr9 => ?_)
  obtain ⟨hr9, hm9⟩ := hr9
  obtain ⟨⟨b10, hb10, rfl⟩, hx10, hz10⟩ := hr9
  have ta11 : (p1 : Int32).toInt = p1.toInt := rfl
  have ta12 : ((nI 0) : Int32).toInt = ((0 : Nat) : Int) := (nI_toInt (n := 0) (by decide))
  have ta13 : (v7 : Int32).toInt = v7.toInt := rfl
  have hy10 : b10 ≠ 0 → ((0 : Nat) : Int) ≤ p1.toInt ∧ p1.toInt ≤ v7.toInt := fun q => by have h9 := hx10 (nI_ne0 (by omega) (by omega)); omega
  have hu10 : b10 = 0 → p1.toInt < ((0 : Nat) : Int) ∨ v7.toInt < p1.toInt := fun q => by have h9 := hz10 (by rw [q]; rfl); omega
  have m14 : (m_X8_in (AB ad F) p1 (nI 0) (((AB ad F) 60 (rl (nI 2))) - (nI 1))) = (nI b10) := (congr (congr (congr (Eq.refl (m_X8_in (AB ad F))) (Eq.refl (p1 : Int32))) (Eq.refl ((nI 0) : Int32))) m8).trans hm9
  have hE15 : M = (nI b10) := hM.trans ((show m_X8_isTown (AB ad F) p1 = (m_X8_in (AB ad F) p1 (nI 0) (((AB ad F) 60 (rl (nI 2))) - (nI 1))) from rfl).trans m14)
  exact hret 13 _ _ dX8_isTown_13 (nar_bool (by omega)) (⟨⟨⟨b10, by omega, rfl⟩, fun h => by have hb9 : b10 ≠ 0 := fun q => h (by rw [q]; rfl); omega⟩, hM.symm.trans hE15⟩)
noncomputable def m_X8_isRoad (σ : SS) (a0 : Int32) : Int32 :=
  (m_X8_in σ a0 (nI 0) ((σ 60 (rl (nI 3))) - (nI 1)))
set_option maxHeartbeats 4000000 in
set_option maxRecDepth 100000 in
theorem c_X8_isRoad (l : Launch) (D : va_G) (cA ad : Nat → Nat) (t : Nat) (hI : rI ad) (F : Nat → va_E) (hW : WT cA ad F) (p1 : Int32) : MP l D cA ad t yX8_isRoad wsX8_isRoad { frames := 1, cells := 0, slots := 0, locals := 22 } [.ref (ad 58), .int p1] F (fun r => (le32 1 r ∧ (r ≠ 0 → 0 ≤ p1.toInt ∧ p1.toInt ≤ 11)) ∧ m_X8_isRoad (AB ad F) p1 = r) := by
  refine en_P rfl (by decide +kernel) (Nat.le_of_ble_eq_true rfl) ?_
  intro p e s m args below meth c ls0 Q S hK hZ hP hS hl0 hret
  have hl0 : lv_has ls0 2 [(0, .ref (ad 58)), (1, .int p1)] := hl0
  have hiX8 : ∀ w ∈ u_ws RX8 TX8 23, w ∈ wsX8_isRoad := in_wsX8_isRoad_1
  obtain ⟨M, hM⟩ : ∃ M, M = m_X8_isRoad (AB ad F) p1 := ⟨_, rfl⟩
  refine lv_iload_n S.1 S.2.1 dX8_isRoad_0 rfl (lv_at hl0 1 rfl) ?_
  refine lv_iconst (v := (nI 0)) S.1 S.2.1 dX8_isRoad_1 (by decide +kernel) ?_
  refine lv_aload_n S.1 S.2.1 dX8_isRoad_2 rfl (lv_at hl0 0 rfl) ?_
  obtain ⟨ty1, kn1, no1, en1, at1, sa1, sd1, wr1, pl1, va1, hF1, hb1_1, hb1_2, hb1_3, hb1_4, hb1_5, hb1_6⟩ := wt_m hW
  refine r_get S hK hP 58 (by decide) hF1 (C := RX8) (T := TX8) (N := 23) hiX8 rfl 2 (by decide) (am_at in_wsX8_isRoad_0 0 rfl) (v := .ref (ad 60)) rfl dX8_isRoad_3 ?_
  refine lv_iconst (v := (nI 3)) S.1 S.2.1 dX8_isRoad_6 (by decide +kernel) ?_
  obtain ⟨g2, hF2, hg2⟩ := wt_I hW (show (60, 52) ∈ rLI by decide)
  refine r_iald S hK hP 60 (by decide) hF2 (vp_in_nI (show 3 < 52 by omega) (by omega)) dX8_isRoad_7 ?_
  refine lv_topi (fun v4 e4 => ?_)
  obtain ⟨b5, hb5, he5⟩ := (pr_T (by decide) (hg2 3 (by decide))).2.2 rfl
  obtain rfl : v4 = nI b5 := e4.trans he5
  have m6 : ((AB ad F) 60 (rl (nI 3))) = (nI b5) := (ab_cg rfl rfl).trans ((AB_g hF2).trans e4.symm)
  refine lv_iconst (v := (nI 1)) S.1 S.2.1 dX8_isRoad_8 (by decide +kernel) ?_
  refine lv_isub S.1 S.2.1 dX8_isRoad_9 ?_
  refine lv_topi (fun v7 e7 => ?_)
  have m8 : (((AB ad F) 60 (rl (nI 3))) - (nI 1)) = v7 := cg2 (fun (x : Int32) (y : Int32) => x - y) m6 (Eq.refl ((nI 1) : Int32)) e7
  have ks7 : v7.toInt = ((b5 : Nat) : Int) - ((1 : Nat) : Int) := by rw [e7]; exact pk_sub_toInt (by omega) (by omega)
  refine r_cSp (As := [.int p1, .int (nI 0), .int v7]) (rest := []) S hK hZ hP hS hl0.1 (c_X8_in l D cA ad t hI F hW p1 (nI 0) v7) (va_cwS 3 S.2.2.2.2 gX8_isRoad_X8_in rfl rfl rfl (by decide +kernel) ⟨Nat.le_of_ble_eq_true rfl, Nat.le_of_ble_eq_true rfl⟩) rfl rfl (Nat.le_of_ble_eq_true rfl) ⟨Nat.zero_le _, Nat.zero_le _⟩ dX8_isRoad_10 (fun r9 hr9 => ?_)
  obtain ⟨hr9, hm9⟩ := hr9
  obtain ⟨⟨b10, hb10, rfl⟩, hx10, hz10⟩ := hr9
  have ta11 : (p1 : Int32).toInt = p1.toInt := rfl
  have ta12 : ((nI 0) : Int32).toInt = ((0 : Nat) : Int) := (nI_toInt (n := 0) (by decide))
  have ta13 : (v7 : Int32).toInt = v7.toInt := rfl
  have hy10 : b10 ≠ 0 → ((0 : Nat) : Int) ≤ p1.toInt ∧ p1.toInt ≤ v7.toInt := fun q => by have h9 := hx10 (nI_ne0 (by omega) (by omega)); omega
  have hu10 : b10 = 0 → p1.toInt < ((0 : Nat) : Int) ∨ v7.toInt < p1.toInt := fun q => by have h9 := hz10 (by rw [q]; rfl); omega
  have m14 : (m_X8_in (AB ad F) p1 (nI 0) (((AB ad F) 60 (rl (nI 3))) - (nI 1))) = (nI b10) := (congr (congr (congr (Eq.refl (m_X8_in (AB ad F))) (Eq.refl (p1 : Int32))) (Eq.refl ((nI 0) : Int32))) m8).trans hm9
  have hE15 : M = (nI b10) := hM.trans ((show m_X8_isRoad (AB ad F) p1 = (m_X8_in (AB ad F) p1 (nI 0) (((AB ad F) 60 (rl (nI 3))) - (nI 1))) from rfl).trans m14)
  exact hret 13 _ _ dX8_isRoad_13 (nar_bool (by omega)) (⟨⟨⟨b10, by omega, rfl⟩, fun h => by have hb9 : b10 ≠ 0 := fun q => h (by rw [q]; rfl); omega⟩, hM.symm.trans hE15⟩)
noncomputable def m_X8_ones_L4_3_b (k0 : SS → Int32 → Int32 → Int32 → Int32) (σ : SS) (a0 : Int32) (a1 : Int32) (a2 : Int32) : Int32 :=
  if (nI 12) ≤ a0 then
    a1
  else
    k0 σ (a0 + Int32.ofInt (1)) (a1 + ((a2 >>> (a0 &&& 31)) &&& (nI 1))) a2
noncomputable def m_X8_ones_L4_3 : Nat → SS → Int32 → Int32 → Int32 → Int32
  | 0 => fun σ _ _ _ => 0
  | n + 1 => m_X8_ones_L4_3_b (m_X8_ones_L4_3 n)
noncomputable def m_X8_ones (σ : SS) (a0 : Int32) : Int32 :=
  m_X8_ones_L4_3 2000 σ (nI 0) (nI 0) a0
set_option maxHeartbeats 4000000 in
set_option maxRecDepth 100000 in
theorem c_X8_ones (l : Launch) (D : va_G) (cA ad : Nat → Nat) (t : Nat) (hI : rI ad) (F : Nat → va_E) (hW : WT cA ad F) (p1 : Int32) : MP l D cA ad t yX8_ones wsX8_ones { frames := 0, cells := 0, slots := 0, locals := 0 } [.int p1] F (fun r => (True) ∧ m_X8_ones (AB ad F) p1 = r) := by
  refine en_P rfl (by decide +kernel) (Nat.le_of_ble_eq_true rfl) ?_
  intro p e s m args below meth c ls0 Q S hK hZ hP hS hl0 hret
  have hl0 : lv_has ls0 3 [(0, .int p1)] := hl0
  obtain ⟨M, hM⟩ : ∃ M, M = m_X8_ones (AB ad F) p1 := ⟨_, rfl⟩
  refine lv_iconst (v := (nI 0)) S.1 S.2.1 dX8_ones_0 (by decide +kernel) ?_
  refine lv_istore_n (lv' := [(1, .int (nI 0)), (0, .int p1)]) S.1 S.2.1 dX8_ones_1 rfl hl0 (by decide) rfl (fun ls1 hl1 => ?_)
  refine lv_iconst (v := (nI 0)) S.1 S.2.1 dX8_ones_2 (by decide +kernel) ?_
  refine lv_istore_n (lv' := [(2, .int (nI 0)), (1, .int (nI 0)), (0, .int p1)]) S.1 S.2.1 dX8_ones_3 rfl hl1 (by decide) rfl (fun ls2 hl2 => ?_)
  have lp3 : ∀ (n3 : Nat) (q23 : Nat) (x3_1 : Int32), q23 ≤ 12 → 12 - q23 < n3 → M = m_X8_ones_L4_3 n3 (AB ad F) (nI q23) x3_1 p1 → ∀ (ls : Array Slot), lv_has ls 3 [(2, .int (nI q23)), (1, .int x3_1), (0, .int p1)] → W p l e { frames := 0, cells := 0, slots := 0, locals := 0 } s m args below meth c s.heap [] 0 0 Q (F0 m 4 ls []) := by
    intro n3
    induction n3 with
    | zero =>
      intro q23 x3_1 iv3_0 hm3 hEl3 ls3 hl3
      exact absurd hm3 (Nat.not_lt_zero _)
    | succ n3 ih3 =>
      intro q23 x3_1 iv3_0 hm3 hEl3 ls3 hl3
      have hE4 : M = m_X8_ones_L4_3_b (m_X8_ones_L4_3 n3) (AB ad F) (nI q23) x3_1 p1 := hEl3
      refine lv_iload_n S.1 S.2.1 dX8_ones_4 rfl (lv_at hl3 0 rfl) ?_
      refine lv_bipush (v := (nI 12)) S.1 S.2.1 dX8_ones_5 (by decide +kernel) ?_
      refine lv_icmp_ge (tgt := 24) S.1 S.2.1 dX8_ones_7 (by decide) (fun c5 => ?_) (fun c5 => ?_)
      · skip
        have k6 := ci_le (nI_toInt (n := 12) (by decide)) (nI_toInt (n := q23) (by omega)) c5
        refine lv_iload_n S.1 S.2.1 dX8_ones_24 rfl (lv_at hl3 1 rfl) ?_
        have hE7 : M = x3_1 := hE4.trans ((show m_X8_ones_L4_3_b (m_X8_ones_L4_3 n3) (AB ad F) (nI q23) x3_1 p1 = x3_1 from by unfold m_X8_ones_L4_3_b; rw [if_pos (le_cg rfl rfl c5)]).trans rfl)
        exact hret 25 _ _ dX8_ones_25 rfl (⟨trivial, hM.symm.trans hE7⟩)
      have k8 := ci_nle (nI_toInt (n := 12) (by decide)) (nI_toInt (n := q23) (by omega)) c5
      refine lv_iload_n S.1 S.2.1 dX8_ones_10 rfl (lv_at hl3 1 rfl) ?_
      refine lv_iload_n S.1 S.2.1 dX8_ones_11 rfl (lv_at hl3 2 rfl) ?_
      refine lv_iload_n S.1 S.2.1 dX8_ones_12 rfl (lv_at hl3 0 rfl) ?_
      refine lv_ishr S.1 S.2.1 dX8_ones_13 ?_
      refine lv_topi (fun v9 e9 => ?_)
      have m10 : (p1 >>> ((nI q23) &&& 31)) = v9 := cg2 (fun (x : Int32) (y : Int32) => x >>> (y &&& 31)) (Eq.refl (p1 : Int32)) (Eq.refl ((nI q23) : Int32)) e9
      refine lv_iconst (v := (nI 1)) S.1 S.2.1 dX8_ones_14 (by decide +kernel) ?_
      refine lv_iand S.1 S.2.1 dX8_ones_15 ?_
      refine lv_topi (fun v11 e11 => ?_)
      have m12 : ((p1 >>> ((nI q23) &&& 31)) &&& (nI 1)) = v11 := cg2 (fun (x : Int32) (y : Int32) => x &&& y) m10 (Eq.refl ((nI 1) : Int32)) e11
      refine lv_iadd S.1 S.2.1 dX8_ones_16 ?_
      refine lv_topi (fun v13 e13 => ?_)
      have m14 : (x3_1 + ((p1 >>> ((nI q23) &&& 31)) &&& (nI 1))) = v13 := cg2 (fun (x : Int32) (y : Int32) => x + y) (Eq.refl (x3_1 : Int32)) m12 e13
      refine lv_istore_n (lv' := [(1, .int v13), (2, .int (nI q23)), (0, .int p1)]) S.1 S.2.1 dX8_ones_17 rfl hl3 (by decide) rfl (fun ls15 hl15 => ?_)
      have m17 : ((nI q23) + Int32.ofInt (1)) = (nI (q23 + 1)) := (congrArg (fun q : Int32 => q + Int32.ofInt (1)) rfl).trans (nI_add _ 1)
      refine lv_iinc (v := (nI (q23 + 1))) (lv' := [(2, .int (nI (q23 + 1))), (1, .int v13), (0, .int p1)]) S.1 S.2.1 dX8_ones_18 hl15 (k := 1) rfl (nI_add _ 1) (by decide) rfl (fun ls16 hl16 => ?_)
      refine lv_goto (tgt := 4) S.1 S.2.1 dX8_ones_21 (by decide) ?_
      have hE18 : M = (m_X8_ones_L4_3 n3) (AB ad F) (nI (q23 + 1)) v13 p1 := hE4.trans ((show m_X8_ones_L4_3_b (m_X8_ones_L4_3 n3) (AB ad F) (nI q23) x3_1 p1 = (m_X8_ones_L4_3 n3) (AB ad F) ((nI q23) + Int32.ofInt (1)) (x3_1 + ((p1 >>> ((nI q23) &&& 31)) &&& (nI 1))) p1 from by unfold m_X8_ones_L4_3_b; rw [if_neg (nle_cg rfl rfl c5)]).trans (congr (congr (congr (congrArg ((m_X8_ones_L4_3 n3)) (rfl : AB ad F = AB ad F)) m17) m14) (Eq.refl (p1 : Int32))))
      exact ih3 (q23 + 1) (v13) (by omega) (by omega) hE18 ls16 (lv_sub hl16 [0, 1, 2] rfl)
  have hE19 : M = m_X8_ones_L4_3 2000 (AB ad F) (nI 0) (nI 0) p1 := hM.trans ((show m_X8_ones (AB ad F) p1 = m_X8_ones_L4_3 2000 (AB ad F) (nI 0) (nI 0) p1 from rfl).trans (congr (congr (congr (congrArg (m_X8_ones_L4_3 2000) (rfl : AB ad F = AB ad F)) (Eq.refl ((nI 0) : Int32))) (Eq.refl ((nI 0) : Int32))) (Eq.refl (p1 : Int32))))
  exact lp3 2000 (0) ((nI 0)) (by omega) (by omega) hE19 ls2 (lv_sub hl2 [0, 1, 2] rfl)
noncomputable def m_X8_feed_24 (σ : SS) (a0 : Int32) : Int32 × SS :=
  ((σ 58 1), σ)
noncomputable def m_X8_feed_17 (σ : SS) (a0 : Int32) : Int32 × SS :=
  m_X8_feed_24 (st σ 58 1 ((σ 58 1) + (nI 1))) a0
noncomputable def m_X8_feed (σ : SS) (a0 : Int32) : Int32 × SS :=
  if (m_X8_in σ a0 (nI 0) (nI 255)) = (0 : Int32) then
    (((-1000000002) : Int32), σ)
  else
    if (σ 58 1) = (nI 240) then
      (((-1000000004) : Int32), σ)
    else
      m_X8_feed_17 (st σ 59 (rl (σ 58 1)) a0) a0
set_option maxHeartbeats 4000000 in
set_option maxRecDepth 100000 in
theorem c_X8_feed (l : Launch) (D : va_G) (cA ad : Nat → Nat) (t : Nat) (hI : rI ad) (F : Nat → va_E) (hW : WT cA ad F) (p1 : Int32) : MI l D cA ad t yX8_feed wsX8_feed { frames := 1, cells := 0, slots := 0, locals := 22 } [.ref (ad 58), .int p1] F (fun r F' => WT cA ad F' ∧ rFr [58, 59] F F' ∧ ((r = fdR p1 (fN (F 58) 1) ∧ fN (F' 58) 1 = fdN p1 (fN (F 58) 1)) ∧ m_X8_feed (AB ad F) p1 = (r, AB ad F'))) := by
  refine en_I rfl (by decide +kernel) (Nat.le_of_ble_eq_true rfl) ?_
  intro p e s m args below meth c ls0 Q S hK hZ hP hS hl0 hret
  have hl0 : lv_has ls0 2 [(0, .ref (ad 58)), (1, .int p1)] := hl0
  have hFr : rFr [58, 59] F F := rFr.rf
  have hiX8 : ∀ w ∈ u_ws RX8 TX8 23, w ∈ wsX8_feed := in_wsX8_feed_1
  obtain ⟨M, hM⟩ : ∃ M, M = m_X8_feed (AB ad F) p1 := ⟨_, rfl⟩
  obtain ⟨ty1, kn1, no1, en1, at1, sa1, sd1, wr1, pl1, va1, hF1, hb1_1, hb1_2, hb1_3, hb1_4, hb1_5, hb1_6⟩ := wt_m hW
  have hA2 := fN_of (k := 14) (a := at1) hF1 rfl (Nat.lt_of_le_of_lt hb1_5 (by decide))
  have hL2 := fN_of (k := 1) (a := ty1) hF1 rfl (Nat.lt_of_le_of_lt hb1_1 (by decide))
  refine lv_iload_n S.1 S.2.1 dX8_feed_0 rfl (lv_at hl0 1 rfl) ?_
  refine lv_iconst (v := (nI 0)) S.1 S.2.1 dX8_feed_1 (by decide +kernel) ?_
  refine lv_sipush (v := (nI 255)) S.1 S.2.1 dX8_feed_2 (by decide +kernel) ?_
  refine r_cSp (As := [.int p1, .int (nI 0), .int (nI 255)]) (rest := []) S hK hZ hP hS hl0.1 (c_X8_in l D cA ad t hI F hW p1 (nI 0) (nI 255)) (va_cwS 3 S.2.2.2.2 gX8_feed_X8_in rfl rfl rfl (by decide +kernel) ⟨Nat.le_of_ble_eq_true rfl, Nat.le_of_ble_eq_true rfl⟩) rfl rfl (Nat.le_of_ble_eq_true rfl) ⟨Nat.zero_le _, Nat.zero_le _⟩ dX8_feed_5 (fun r3 hr3 => ?_)
  obtain ⟨hr3, hm3⟩ := hr3
  obtain ⟨⟨b4, hb4, rfl⟩, hx4, hz4⟩ := hr3
  have ta5 : (p1 : Int32).toInt = p1.toInt := rfl
  have ta6 : ((nI 0) : Int32).toInt = ((0 : Nat) : Int) := (nI_toInt (n := 0) (by decide))
  have ta7 : ((nI 255) : Int32).toInt = ((255 : Nat) : Int) := (nI_toInt (n := 255) (by decide))
  have hy4 : b4 ≠ 0 → ((0 : Nat) : Int) ≤ p1.toInt ∧ p1.toInt ≤ ((255 : Nat) : Int) := fun q => by have h9 := hx4 (nI_ne0 (by omega) (by omega)); omega
  have hu4 : b4 = 0 → p1.toInt < ((0 : Nat) : Int) ∨ ((255 : Nat) : Int) < p1.toInt := fun q => by have h9 := hz4 (by rw [q]; rfl); omega
  have m8 : (m_X8_in (AB ad F) p1 (nI 0) (nI 255)) = (nI b4) := (congr (congr (congr (Eq.refl (m_X8_in (AB ad F))) (Eq.refl (p1 : Int32))) (Eq.refl ((nI 0) : Int32))) (Eq.refl ((nI 255) : Int32))).trans hm3
  refine lv_if_ne (tgt := 14) S.1 S.2.1 dX8_feed_8 (by decide) (fun c9 => ?_) (fun c9 => ?_)
  · skip
    have k10 := ci_ne (nI_toInt (n := b4) (Nat.lt_of_le_of_lt hb4 (by decide))) z_ti c9
    refine lv_aload_n S.1 S.2.1 dX8_feed_14 rfl (lv_at hl0 0 rfl) ?_
    refine r_get S hK hP 58 (by decide) hF1 (C := RX8) (T := TX8) (N := 23) hiX8 rfl 1 (by decide) (am_at in_wsX8_feed_0 1 rfl) (v := .int (nI ty1)) rfl dX8_feed_15 ?_
    have m11 : ((AB ad F) 58 1) = (nI ty1) := AB_f hF1 rfl
    refine lv_sipush (v := (nI 240)) S.1 S.2.1 dX8_feed_18 (by decide +kernel) ?_
    refine lv_icmp_ne (tgt := 27) S.1 S.2.1 dX8_feed_21 (by decide) (fun c12 => ?_) (fun c12 => ?_)
    · skip
      have k13 := ci_ne (nI_toInt (n := ty1) (by omega)) (nI_toInt (n := 240) (by decide)) c12
      refine lv_aload_n S.1 S.2.1 dX8_feed_27 rfl (lv_at hl0 0 rfl) ?_
      refine r_get S hK hP 58 (by decide) hF1 (C := RX8) (T := TX8) (N := 23) hiX8 rfl 0 (by decide) (am_at in_wsX8_feed_0 3 rfl) (v := .ref (ad 59)) rfl dX8_feed_28 ?_
      refine lv_aload_n S.1 S.2.1 dX8_feed_31 rfl (lv_at hl0 0 rfl) ?_
      refine r_get S hK hP 58 (by decide) hF1 (C := RX8) (T := TX8) (N := 23) hiX8 rfl 1 (by decide) (am_at in_wsX8_feed_0 1 rfl) (v := .int (nI ty1)) rfl dX8_feed_32 ?_
      have m14 : ((AB ad F) 58 1) = (nI ty1) := AB_f hF1 rfl
      refine lv_iload_n S.1 S.2.1 dX8_feed_35 rfl (lv_at hl0 1 rfl) ?_
      obtain ⟨g15, hF15, hg15⟩ := wt_I hW (show (59, 240) ∈ rLI by decide)
      refine r_iast S hI hK hP hS 59 (by decide) hF15 (vp_in_nI (show ty1 < 240 by omega) (by omega)) dX8_feed_36 (fun F16 H16 locs16 eF16 hP16 hS16 => ?_)
      have hW16 := hW.up eF16 (ok_I (show (59, 240) ∈ rLI by decide) (okI_up hg15 (pr_of (by decide))))
      have hFr16 := hFr.up eF16 (by simp <;> first | omega | (simp only [isC, isJ] at *; omega))
      have hE18 : M = m_X8_feed_17 (AB ad F16) p1 := hM.trans ((show m_X8_feed (AB ad F) p1 = m_X8_feed_17 (st (AB ad F) 59 (rl ((AB ad F) 58 1)) p1) p1 from by unfold m_X8_feed; rw [if_neg (neq_cg m8 rfl c9), if_neg (neq_cg m11 rfl c12)]).trans (congr (congrArg (m_X8_feed_17) ((st_cg rfl (congrArg rl m14) rfl).trans (AB_ast hF15 eF16).symm)) (Eq.refl (p1 : Int32))))
      refine lv_aload_n S.1 S.2.1 dX8_feed_37 rfl (lv_at hl0 0 rfl) ?_
      refine lv_dup S.1 S.2.1 dX8_feed_38 rfl ?_
      have hF19 := (show F16 58 = F 58 by rw [eF16]; exact va_up_ne _ _ (by decide)).trans hF1
      refine r_get S hK hP16 58 (by decide) hF19 (C := RX8) (T := TX8) (N := 23) hiX8 rfl 1 (by decide) (am_at in_wsX8_feed_0 1 rfl) (v := .int (nI ty1)) rfl dX8_feed_39 ?_
      have m20 : ((AB ad F16) 58 1) = (nI ty1) := AB_f hF19 rfl
      refine lv_iconst (v := (nI 1)) S.1 S.2.1 dX8_feed_42 (by decide +kernel) ?_
      refine lv_iadd S.1 S.2.1 dX8_feed_43 ?_
      refine lv_topi (fun v21 e21 => ?_)
      obtain rfl : v21 = nI (ty1 + 1) := e21.trans (nI_add _ _)
      have m22 : (((AB ad F16) 58 1) + (nI 1)) = (nI (ty1 + 1)) := cg2 (fun (x : Int32) (y : Int32) => x + y) m20 (Eq.refl ((nI 1) : Int32)) e21
      refine r_put S hI hK hP16 hS16 58 (by decide) hF19 (C := RX8) (T := TX8) (N := 23) hiX8 tyX8_ok nmX8 rfl 1 (by decide) (am_at in_wsX8_feed_0 1 rfl) rfl rfl rfl (Nat.le_of_ble_eq_true rfl) dX8_feed_44 (fun F23 H23 locs23 eF23 hP23 hS23 => ?_)
      have hF23 : F23 58 = .inr (8, [.ref (ad 59), .int (nI (ty1 + 1)), .ref (ad 60), .ref (ad 61), .ref (ad 62), .ref (ad 63), .int (nI kn1), .ref (ad 64), .ref (ad 65), .int sd1, .ref (ad 66), .int (nI no1), .ref (ad 67), .int (nI en1), .int (nI at1), .int wr1, .int pl1, .int va1, .int (nI sa1), .ref (ad 68), .ref (ad 69), .ref (ad 70), .ref (ad 71)]) := by rw [eF23]; exact va_up_self _ _ _
      have hW23 := hW16.up eF23 (ok_m ⟨ty1 + 1, kn1, no1, en1, at1, sa1, sd1, wr1, pl1, va1, rfl, by omega, by omega, by omega, by omega, by omega, by omega⟩)
      have hFr23 := hFr16.up eF23 (by simp <;> first | omega | (simp only [isC, isJ] at *; omega))
      have hE25 : M = m_X8_feed_24 (AB ad F23) p1 := hE18.trans ((show m_X8_feed_17 (AB ad F16) p1 = m_X8_feed_24 (st (AB ad F16) 58 1 (((AB ad F16) 58 1) + (nI 1))) p1 from rfl).trans (congr (congrArg (m_X8_feed_24) ((st_cg rfl rfl m22).trans (AB_put hF19 (Nat.le_of_ble_eq_true rfl) eF23).symm)) (Eq.refl (p1 : Int32))))
      refine lv_aload_n S.1 S.2.1 dX8_feed_47 rfl (lv_at hl0 0 rfl) ?_
      refine r_get S hK hP23 58 (by decide) hF23 (C := RX8) (T := TX8) (N := 23) hiX8 rfl 1 (by decide) (am_at in_wsX8_feed_0 1 rfl) (v := .int (nI (ty1 + 1))) rfl dX8_feed_48 ?_
      have m26 : ((AB ad F23) 58 1) = (nI (ty1 + 1)) := AB_f hF23 rfl
      have hA27 := fN_of (k := 14) (a := at1) hF23 rfl (Nat.lt_of_le_of_lt hb1_5 (by decide))
      have hL27 := fN_of (k := 1) (a := ty1 + 1) hF23 rfl (by omega)
      have hE28 : M = ((nI (ty1 + 1)), AB ad F23) := hE25.trans ((show m_X8_feed_24 (AB ad F23) p1 = (((AB ad F23) 58 1), (AB ad F23)) from rfl).trans (congrArg (fun q => (q, AB ad F23)) m26))
      exact hret 51 _ _ _ _ _ dX8_feed_51 rfl hP23 hS23 ⟨hW23, hFr23, ⟨⟨by unfold fdR; rw [if_neg (by omega), if_neg (by omega), show fN (F 58) 1 + 1 = ty1 + 1 by omega], by unfold fdN; rw [if_neg (by omega), if_neg (by omega)] <;> omega⟩, hM.symm.trans hE28⟩⟩
    have k29 := ci_eq (nI_toInt (n := ty1) (by omega)) (nI_toInt (n := 240) (by decide)) c12
    refine lv_ldc (v := (-1000000004)) S.1 S.2.1 S.2.2.2.1 (S.2.2.2.2 (.constant RX8 63 (-1000000004)) (am_at in_wsX8_feed_0 2 rfl)) dX8_feed_24 ?_
    have hA30 := fN_of (k := 14) (a := at1) hF1 rfl (Nat.lt_of_le_of_lt hb1_5 (by decide))
    have hL30 := fN_of (k := 1) (a := ty1) hF1 rfl (Nat.lt_of_le_of_lt hb1_1 (by decide))
    have hE31 : M = ((-1000000004), AB ad F) := hM.trans ((show m_X8_feed (AB ad F) p1 = (((-1000000004) : Int32), (AB ad F)) from by unfold m_X8_feed; rw [if_neg (neq_cg m8 rfl c9), if_pos (eq_cg m11 rfl c12)]).trans (congrArg (fun q => (q, AB ad F)) rfl))
    exact hret 26 _ _ _ _ _ dX8_feed_26 rfl hP hS ⟨hW, hFr, ⟨⟨by unfold fdR; rw [if_neg (by omega), if_pos (by omega)], by unfold fdN; rw [if_neg (by omega), if_pos (by omega)] <;> omega⟩, hM.symm.trans hE31⟩⟩
  have k32 := ci_eq (nI_toInt (n := b4) (Nat.lt_of_le_of_lt hb4 (by decide))) z_ti c9
  refine lv_ldc (v := (-1000000002)) S.1 S.2.1 S.2.2.2.1 (S.2.2.2.2 (.constant RX8 59 (-1000000002)) (am_at in_wsX8_feed_0 0 rfl)) dX8_feed_11 ?_
  have hA33 := fN_of (k := 14) (a := at1) hF1 rfl (Nat.lt_of_le_of_lt hb1_5 (by decide))
  have hL33 := fN_of (k := 1) (a := ty1) hF1 rfl (Nat.lt_of_le_of_lt hb1_1 (by decide))
  have hE34 : M = ((-1000000002), AB ad F) := hM.trans ((show m_X8_feed (AB ad F) p1 = (((-1000000002) : Int32), (AB ad F)) from by unfold m_X8_feed; rw [if_pos (eq_cg m8 rfl c9)]).trans (congrArg (fun q => (q, AB ad F)) rfl))
  exact hret 13 _ _ _ _ _ dX8_feed_13 rfl hP hS ⟨hW, hFr, ⟨⟨by unfold fdR; rw [if_pos (by omega)], by unfold fdN; rw [if_pos (by omega)] <;> omega⟩, hM.symm.trans hE34⟩⟩
noncomputable def m_X8_letter_40 (k0 : SS → Int32 × SS) (σ : SS) : Int32 × SS :=
  k0 σ
noncomputable def m_X8_letter_L0_3_b (k0 : SS → Int32 × SS) (σ : SS) : Int32 × SS :=
  if (σ 58 1) ≤ (σ 58 14) then
    (((-1) : Int32), σ)
  else
    if (σ 59 (rl (σ 58 14))) = (nI 32) then
      m_X8_letter_40 k0 (st σ 58 14 ((σ 58 14) + (nI 1)))
    else
      ((σ 59 (rl (σ 58 14))), σ)
noncomputable def m_X8_letter_L0_3 : Nat → SS → Int32 × SS
  | 0 => fun σ => (0, σ)
  | n + 1 => m_X8_letter_L0_3_b (m_X8_letter_L0_3 n)
noncomputable def m_X8_letter (σ : SS) : Int32 × SS :=
  m_X8_letter_L0_3 2000 σ
set_option maxHeartbeats 4000000 in
set_option maxRecDepth 100000 in
theorem c_X8_letter (l : Launch) (D : va_G) (cA ad : Nat → Nat) (t : Nat) (hI : rI ad) (F : Nat → va_E) (hW : WT cA ad F) : MI l D cA ad t yX8_letter wsX8_letter { frames := 0, cells := 0, slots := 0, locals := 0 } [.ref (ad 58)] F (fun r F' => WT cA ad F' ∧ rFr [58] F F' ∧ (((r.toInt = -1 ∨ fN (F' 58) 14 < fN (F' 58) 1) ∧ fN (F 58) 14 ≤ fN (F' 58) 14 ∧ fN (F' 58) 1 = fN (F 58) 1) ∧ m_X8_letter (AB ad F) = (r, AB ad F'))) := by
  refine en_I rfl (by decide +kernel) (Nat.le_of_ble_eq_true rfl) ?_
  intro p e s m args below meth c ls0 Q S hK hZ hP hS hl0 hret
  have hl0 : lv_has ls0 1 [(0, .ref (ad 58))] := hl0
  have hFr : rFr [58] F F := rFr.rf
  have hiX8 : ∀ w ∈ u_ws RX8 TX8 23, w ∈ wsX8_letter := in_wsX8_letter_1
  obtain ⟨M, hM⟩ : ∃ M, M = m_X8_letter (AB ad F) := ⟨_, rfl⟩
  obtain ⟨ty1, kn1, no1, en1, at1, sa1, sd1, wr1, pl1, va1, hF1, hb1_1, hb1_2, hb1_3, hb1_4, hb1_5, hb1_6⟩ := wt_m hW
  have hA2 := fN_of (k := 14) (a := at1) hF1 rfl (Nat.lt_of_le_of_lt hb1_5 (by decide))
  have hL2 := fN_of (k := 1) (a := ty1) hF1 rfl (Nat.lt_of_le_of_lt hb1_1 (by decide))
  have lp3 : ∀ (n3 : Nat), ∀ (Fl3 : Nat → va_E) (Hl3 : Heap) (lol3 : List Loc), fN (F 58) 14 ≤ fN (Fl3 58) 14 ∧ fN (Fl3 58) 1 = fN (F 58) 1 → 240 - fN (Fl3 58) 14 < n3 → WT cA ad Fl3 → rFr [58] F Fl3 → va_P D vwCl (rW ad Fl3) Hl3 → va_S (rA ad) s.heap Hl3 lol3 → M = m_X8_letter_L0_3 n3 (AB ad Fl3) → ∀ (ls : Array Slot), lv_has ls 1 [(0, .ref (ad 58))] → W p l e { frames := 0, cells := 0, slots := 0, locals := 0 } s m args below meth c Hl3 lol3 0 0 Q (F0 m 0 ls []) := by
    intro n3
    induction n3 with
    | zero =>
      intro Fl3 Hl3 lol3 ix3_m hm3 hWl3 hFl3 hPl3 hSl3 hEl3 ls3 hl3
      exact absurd hm3 (Nat.not_lt_zero _)
    | succ n3 ih3 =>
      intro Fl3 Hl3 lol3 ix3_m hm3 hWl3 hFl3 hPl3 hSl3 hEl3 ls3 hl3
      have hE4 : M = m_X8_letter_L0_3_b (m_X8_letter_L0_3 n3) (AB ad Fl3) := hEl3
      obtain ⟨ty5, kn5, no5, en5, at5, sa5, sd5, wr5, pl5, va5, hF5, hb5_1, hb5_2, hb5_3, hb5_4, hb5_5, hb5_6⟩ := wt_m hWl3
      have hA6 := fN_of (k := 14) (a := at5) hF5 rfl (Nat.lt_of_le_of_lt hb5_5 (by decide))
      have hL6 := fN_of (k := 1) (a := ty5) hF5 rfl (Nat.lt_of_le_of_lt hb5_1 (by decide))
      refine lv_aload_n S.1 S.2.1 dX8_letter_0 rfl (lv_at hl3 0 rfl) ?_
      refine r_get S hK hPl3 58 (by decide) hF5 (C := RX8) (T := TX8) (N := 23) hiX8 rfl 14 (by decide) (am_at in_wsX8_letter_0 0 rfl) (v := .int (nI at5)) rfl dX8_letter_1 ?_
      have m7 : ((AB ad Fl3) 58 14) = (nI at5) := AB_f hF5 rfl
      refine lv_aload_n S.1 S.2.1 dX8_letter_4 rfl (lv_at hl3 0 rfl) ?_
      refine r_get S hK hPl3 58 (by decide) hF5 (C := RX8) (T := TX8) (N := 23) hiX8 rfl 1 (by decide) (am_at in_wsX8_letter_0 1 rfl) (v := .int (nI ty5)) rfl dX8_letter_5 ?_
      have m8 : ((AB ad Fl3) 58 1) = (nI ty5) := AB_f hF5 rfl
      refine lv_icmp_ge (tgt := 38) S.1 S.2.1 dX8_letter_8 (by decide) (fun c9 => ?_) (fun c9 => ?_)
      · skip
        have k10 := ci_le (nI_toInt (n := ty5) (by omega)) (nI_toInt (n := at5) (by omega)) c9
        refine lv_aload_n S.1 S.2.1 dX8_letter_38 rfl (lv_at hl3 0 rfl) ?_
        refine r_get S hK hPl3 58 (by decide) hF5 (C := RX8) (T := TX8) (N := 23) hiX8 rfl 14 (by decide) (am_at in_wsX8_letter_0 0 rfl) (v := .int (nI at5)) rfl dX8_letter_39 ?_
        have m11 : ((AB ad Fl3) 58 14) = (nI at5) := AB_f hF5 rfl
        refine lv_aload_n S.1 S.2.1 dX8_letter_42 rfl (lv_at hl3 0 rfl) ?_
        refine r_get S hK hPl3 58 (by decide) hF5 (C := RX8) (T := TX8) (N := 23) hiX8 rfl 1 (by decide) (am_at in_wsX8_letter_0 1 rfl) (v := .int (nI ty5)) rfl dX8_letter_43 ?_
        have m12 : ((AB ad Fl3) 58 1) = (nI ty5) := AB_f hF5 rfl
        refine lv_icmp_ge (tgt := 61) S.1 S.2.1 dX8_letter_46 (by decide) (fun c13 => ?_) (fun c13 => absurd c9 c13)
        have k14 := ci_le (nI_toInt (n := ty5) (by omega)) (nI_toInt (n := at5) (by omega)) c13
        refine lv_iconst (v := (-1)) S.1 S.2.1 dX8_letter_61 (by decide +kernel) ?_
        have hA15 := fN_of (k := 14) (a := at5) hF5 rfl (Nat.lt_of_le_of_lt hb5_5 (by decide))
        have hL15 := fN_of (k := 1) (a := ty5) hF5 rfl (Nat.lt_of_le_of_lt hb5_1 (by decide))
        have hE16 : M = ((-1), AB ad Fl3) := hE4.trans ((show m_X8_letter_L0_3_b (m_X8_letter_L0_3 n3) (AB ad Fl3) = (((-1) : Int32), (AB ad Fl3)) from by unfold m_X8_letter_L0_3_b; rw [if_pos (le_cg m8 m7 c9)]).trans (congrArg (fun q => (q, AB ad Fl3)) rfl))
        exact hret 62 _ _ _ _ _ dX8_letter_62 rfl hPl3 hSl3 ⟨hWl3, hFl3, ⟨⟨Or.inl (by decide +kernel), by omega, by omega⟩, hM.symm.trans hE16⟩⟩
      have k17 := ci_nle (nI_toInt (n := ty5) (by omega)) (nI_toInt (n := at5) (by omega)) c9
      refine lv_aload_n S.1 S.2.1 dX8_letter_11 rfl (lv_at hl3 0 rfl) ?_
      refine r_get S hK hPl3 58 (by decide) hF5 (C := RX8) (T := TX8) (N := 23) hiX8 rfl 0 (by decide) (am_at in_wsX8_letter_0 2 rfl) (v := .ref (ad 59)) rfl dX8_letter_12 ?_
      refine lv_aload_n S.1 S.2.1 dX8_letter_15 rfl (lv_at hl3 0 rfl) ?_
      refine r_get S hK hPl3 58 (by decide) hF5 (C := RX8) (T := TX8) (N := 23) hiX8 rfl 14 (by decide) (am_at in_wsX8_letter_0 0 rfl) (v := .int (nI at5)) rfl dX8_letter_16 ?_
      have m18 : ((AB ad Fl3) 58 14) = (nI at5) := AB_f hF5 rfl
      obtain ⟨g19, hF19, hg19⟩ := wt_I hWl3 (show (59, 240) ∈ rLI by decide)
      refine r_iald S hK hPl3 59 (by decide) hF19 (vp_in_nI (show at5 < 240 by omega) (by omega)) dX8_letter_19 ?_
      refine lv_topi (fun v21 e21 => ?_)
      have m22 : ((AB ad Fl3) 59 (rl ((AB ad Fl3) 58 14))) = v21 := (ab_cg rfl m18).trans ((AB_g hF19).trans e21.symm)
      refine lv_bipush (v := (nI 32)) S.1 S.2.1 dX8_letter_20 (by decide +kernel) ?_
      refine lv_icmp_ne (tgt := 38) S.1 S.2.1 dX8_letter_22 (by decide) (fun c23 => ?_) (fun c23 => ?_)
      · skip
        have k24 := ci_ne rfl (nI_toInt (n := 32) (by decide)) c23
        refine lv_aload_n S.1 S.2.1 dX8_letter_38 rfl (lv_at hl3 0 rfl) ?_
        refine r_get S hK hPl3 58 (by decide) hF5 (C := RX8) (T := TX8) (N := 23) hiX8 rfl 14 (by decide) (am_at in_wsX8_letter_0 0 rfl) (v := .int (nI at5)) rfl dX8_letter_39 ?_
        have m25 : ((AB ad Fl3) 58 14) = (nI at5) := AB_f hF5 rfl
        refine lv_aload_n S.1 S.2.1 dX8_letter_42 rfl (lv_at hl3 0 rfl) ?_
        refine r_get S hK hPl3 58 (by decide) hF5 (C := RX8) (T := TX8) (N := 23) hiX8 rfl 1 (by decide) (am_at in_wsX8_letter_0 1 rfl) (v := .int (nI ty5)) rfl dX8_letter_43 ?_
        have m26 : ((AB ad Fl3) 58 1) = (nI ty5) := AB_f hF5 rfl
        refine lv_icmp_ge (tgt := 61) S.1 S.2.1 dX8_letter_46 (by decide) (fun c27 => absurd c27 c9) (fun c27 => ?_)
        have k28 := ci_nle (nI_toInt (n := ty5) (by omega)) (nI_toInt (n := at5) (by omega)) c27
        refine lv_aload_n S.1 S.2.1 dX8_letter_49 rfl (lv_at hl3 0 rfl) ?_
        refine r_get S hK hPl3 58 (by decide) hF5 (C := RX8) (T := TX8) (N := 23) hiX8 rfl 0 (by decide) (am_at in_wsX8_letter_0 2 rfl) (v := .ref (ad 59)) rfl dX8_letter_50 ?_
        refine lv_aload_n S.1 S.2.1 dX8_letter_53 rfl (lv_at hl3 0 rfl) ?_
        refine r_get S hK hPl3 58 (by decide) hF5 (C := RX8) (T := TX8) (N := 23) hiX8 rfl 14 (by decide) (am_at in_wsX8_letter_0 0 rfl) (v := .int (nI at5)) rfl dX8_letter_54 ?_
        have m29 : ((AB ad Fl3) 58 14) = (nI at5) := AB_f hF5 rfl
        refine r_iald S hK hPl3 59 (by decide) hF19 (vp_in_nI (show at5 < 240 by omega) (by omega)) dX8_letter_57 ?_
        refine lv_topi (fun v31 e31 => ?_)
        have m32 : ((AB ad Fl3) 59 (rl ((AB ad Fl3) 58 14))) = v31 := (ab_cg rfl m29).trans ((AB_g hF19).trans e31.symm)
        refine lv_goto (tgt := 62) S.1 S.2.1 dX8_letter_58 (by decide) ?_
        have hA33 := fN_of (k := 14) (a := at5) hF5 rfl (Nat.lt_of_le_of_lt hb5_5 (by decide))
        have hL33 := fN_of (k := 1) (a := ty5) hF5 rfl (Nat.lt_of_le_of_lt hb5_1 (by decide))
        have hE34 : M = (v31, AB ad Fl3) := hE4.trans ((show m_X8_letter_L0_3_b (m_X8_letter_L0_3 n3) (AB ad Fl3) = (((AB ad Fl3) 59 (rl ((AB ad Fl3) 58 14))), (AB ad Fl3)) from by unfold m_X8_letter_L0_3_b; rw [if_neg (nle_cg m8 m7 c9), if_neg (neq_cg m22 rfl c23)]).trans (congrArg (fun q => (q, AB ad Fl3)) m32))
        exact hret 62 _ _ _ _ _ dX8_letter_62 rfl hPl3 hSl3 ⟨hWl3, hFl3, ⟨⟨Or.inr (by omega), by omega, by omega⟩, hM.symm.trans hE34⟩⟩
      have k35 := ci_eq rfl (nI_toInt (n := 32) (by decide)) c23
      refine lv_aload_n S.1 S.2.1 dX8_letter_25 rfl (lv_at hl3 0 rfl) ?_
      refine lv_dup S.1 S.2.1 dX8_letter_26 rfl ?_
      refine r_get S hK hPl3 58 (by decide) hF5 (C := RX8) (T := TX8) (N := 23) hiX8 rfl 14 (by decide) (am_at in_wsX8_letter_0 0 rfl) (v := .int (nI at5)) rfl dX8_letter_27 ?_
      have m36 : ((AB ad Fl3) 58 14) = (nI at5) := AB_f hF5 rfl
      refine lv_iconst (v := (nI 1)) S.1 S.2.1 dX8_letter_30 (by decide +kernel) ?_
      refine lv_iadd S.1 S.2.1 dX8_letter_31 ?_
      refine lv_topi (fun v37 e37 => ?_)
      obtain rfl : v37 = nI (at5 + 1) := e37.trans (nI_add _ _)
      have m38 : (((AB ad Fl3) 58 14) + (nI 1)) = (nI (at5 + 1)) := cg2 (fun (x : Int32) (y : Int32) => x + y) m36 (Eq.refl ((nI 1) : Int32)) e37
      refine r_put S hI hK hPl3 hSl3 58 (by decide) hF5 (C := RX8) (T := TX8) (N := 23) hiX8 tyX8_ok nmX8 rfl 14 (by decide) (am_at in_wsX8_letter_0 0 rfl) rfl rfl rfl (Nat.le_of_ble_eq_true rfl) dX8_letter_32 (fun F39 H39 locs39 eF39 hP39 hS39 => ?_)
      have hF39 : F39 58 = .inr (8, [.ref (ad 59), .int (nI ty5), .ref (ad 60), .ref (ad 61), .ref (ad 62), .ref (ad 63), .int (nI kn5), .ref (ad 64), .ref (ad 65), .int sd5, .ref (ad 66), .int (nI no5), .ref (ad 67), .int (nI en5), .int (nI (at5 + 1)), .int wr5, .int pl5, .int va5, .int (nI sa5), .ref (ad 68), .ref (ad 69), .ref (ad 70), .ref (ad 71)]) := by rw [eF39]; exact va_up_self _ _ _
      have hW39 := hWl3.up eF39 (ok_m ⟨ty5, kn5, no5, en5, at5 + 1, sa5, sd5, wr5, pl5, va5, rfl, by omega, by omega, by omega, by omega, by omega, by omega⟩)
      have hFr39 := hFl3.up eF39 (by simp <;> first | omega | (simp only [isC, isJ] at *; omega))
      have hE41 : M = m_X8_letter_40 (m_X8_letter_L0_3 n3) (AB ad F39) := hE4.trans ((show m_X8_letter_L0_3_b (m_X8_letter_L0_3 n3) (AB ad Fl3) = m_X8_letter_40 (m_X8_letter_L0_3 n3) (st (AB ad Fl3) 58 14 (((AB ad Fl3) 58 14) + (nI 1))) from by unfold m_X8_letter_L0_3_b; rw [if_neg (nle_cg m8 m7 c9), if_pos (eq_cg m22 rfl c23)]).trans (congrArg (m_X8_letter_40 (m_X8_letter_L0_3 n3)) ((st_cg rfl rfl m38).trans (AB_put hF5 (Nat.le_of_ble_eq_true rfl) eF39).symm)))
      refine lv_goto (tgt := 0) S.1 S.2.1 dX8_letter_35 (by decide) ?_
      have hA42 := fN_of (k := 14) (a := at5 + 1) hF39 rfl (by omega)
      have hL42 := fN_of (k := 1) (a := ty5) hF39 rfl (Nat.lt_of_le_of_lt hb5_1 (by decide))
      have hE43 : M = (m_X8_letter_L0_3 n3) (AB ad F39) := hE41.trans ((show m_X8_letter_40 (m_X8_letter_L0_3 n3) (AB ad F39) = (m_X8_letter_L0_3 n3) (AB ad F39) from rfl).trans (congrArg ((m_X8_letter_L0_3 n3)) (rfl : AB ad F39 = AB ad F39)))
      exact ih3 F39 H39 locs39 (by omega) (by omega) hW39 hFr39 hP39 hS39 hE43 ls3 (lv_sub hl3 [0] rfl)
  have hA44 := fN_of (k := 14) (a := at1) hF1 rfl (Nat.lt_of_le_of_lt hb1_5 (by decide))
  have hL44 := fN_of (k := 1) (a := ty1) hF1 rfl (Nat.lt_of_le_of_lt hb1_1 (by decide))
  have hE45 : M = m_X8_letter_L0_3 2000 (AB ad F) := hM.trans ((show m_X8_letter (AB ad F) = m_X8_letter_L0_3 2000 (AB ad F) from rfl).trans (congrArg (m_X8_letter_L0_3 2000) (rfl : AB ad F = AB ad F)))
  exact lp3 2000 F s.heap [] (by omega) (by omega) hW hFr hP hS hE45 ls0 (lv_sub hl0 [0] rfl)
noncomputable def m_X8_isWrong_7 (σ : SS) (a0 : Int32) (a1 : Int32) : Int32 × SS :=
  ((nI 0), σ)
noncomputable def m_X8_isWrong_4 (σ : SS) (a0 : Int32) (a1 : Int32) : Int32 × SS :=
  m_X8_isWrong_7 (st σ 58 14 a1) a0 a1
noncomputable def m_X8_isWrong (σ : SS) (a0 : Int32) (a1 : Int32) : Int32 × SS :=
  m_X8_isWrong_4 (st σ 58 15 a0) a0 a1
set_option maxHeartbeats 4000000 in
set_option maxRecDepth 100000 in
theorem c_X8_isWrong (l : Launch) (D : va_G) (cA ad : Nat → Nat) (t : Nat) (hI : rI ad) (F : Nat → va_E) (hW : WT cA ad F) (p1 : Int32) (w2 : Nat) (hw2 : w2 ≤ 240) : MI l D cA ad t yX8_isWrong wsX8_isWrong { frames := 0, cells := 0, slots := 0, locals := 0 } [.ref (ad 58), .int p1, .int (nI w2)] F (fun r F' => WT cA ad F' ∧ rFr [58] F F' ∧ ((r = nI 0 ∧ fN (F' 58) 1 = fN (F 58) 1) ∧ m_X8_isWrong (AB ad F) p1 (nI w2) = (r, AB ad F'))) := by
  refine en_I rfl (by decide +kernel) (Nat.le_of_ble_eq_true rfl) ?_
  intro p e s m args below meth c ls0 Q S hK hZ hP hS hl0 hret
  have hl0 : lv_has ls0 3 [(0, .ref (ad 58)), (1, .int p1), (2, .int (nI w2))] := hl0
  have hFr : rFr [58] F F := rFr.rf
  have hiX8 : ∀ w ∈ u_ws RX8 TX8 23, w ∈ wsX8_isWrong := in_wsX8_isWrong_1
  obtain ⟨M, hM⟩ : ∃ M, M = m_X8_isWrong (AB ad F) p1 (nI w2) := ⟨_, rfl⟩
  obtain ⟨ty1, kn1, no1, en1, at1, sa1, sd1, wr1, pl1, va1, hF1, hb1_1, hb1_2, hb1_3, hb1_4, hb1_5, hb1_6⟩ := wt_m hW
  have hA2 := fN_of (k := 14) (a := at1) hF1 rfl (Nat.lt_of_le_of_lt hb1_5 (by decide))
  have hL2 := fN_of (k := 1) (a := ty1) hF1 rfl (Nat.lt_of_le_of_lt hb1_1 (by decide))
  refine lv_aload_n S.1 S.2.1 dX8_isWrong_0 rfl (lv_at hl0 0 rfl) ?_
  refine lv_iload_n S.1 S.2.1 dX8_isWrong_1 rfl (lv_at hl0 1 rfl) ?_
  refine r_put S hI hK hP hS 58 (by decide) hF1 (C := RX8) (T := TX8) (N := 23) hiX8 tyX8_ok nmX8 rfl 15 (by decide) (am_at in_wsX8_isWrong_0 0 rfl) rfl rfl rfl (Nat.le_of_ble_eq_true rfl) dX8_isWrong_2 (fun F3 H3 locs3 eF3 hP3 hS3 => ?_)
  have hF3 : F3 58 = .inr (8, [.ref (ad 59), .int (nI ty1), .ref (ad 60), .ref (ad 61), .ref (ad 62), .ref (ad 63), .int (nI kn1), .ref (ad 64), .ref (ad 65), .int sd1, .ref (ad 66), .int (nI no1), .ref (ad 67), .int (nI en1), .int (nI at1), .int p1, .int pl1, .int va1, .int (nI sa1), .ref (ad 68), .ref (ad 69), .ref (ad 70), .ref (ad 71)]) := by rw [eF3]; exact va_up_self _ _ _
  have hW3 := hW.up eF3 (ok_m ⟨ty1, kn1, no1, en1, at1, sa1, sd1, p1, pl1, va1, rfl, by omega, by omega, by omega, by omega, by omega, by omega⟩)
  have hFr3 := hFr.up eF3 (by simp <;> first | omega | (simp only [isC, isJ] at *; omega))
  have hE5 : M = m_X8_isWrong_4 (AB ad F3) p1 (nI w2) := hM.trans ((show m_X8_isWrong (AB ad F) p1 (nI w2) = m_X8_isWrong_4 (st (AB ad F) 58 15 p1) p1 (nI w2) from rfl).trans (congr (congr (congrArg (m_X8_isWrong_4) ((st_cg rfl rfl rfl).trans (AB_put hF1 (Nat.le_of_ble_eq_true rfl) eF3).symm)) (Eq.refl (p1 : Int32))) (Eq.refl ((nI w2) : Int32))))
  refine lv_aload_n S.1 S.2.1 dX8_isWrong_5 rfl (lv_at hl0 0 rfl) ?_
  refine lv_iload_n S.1 S.2.1 dX8_isWrong_6 rfl (lv_at hl0 2 rfl) ?_
  refine r_put S hI hK hP3 hS3 58 (by decide) hF3 (C := RX8) (T := TX8) (N := 23) hiX8 tyX8_ok nmX8 rfl 14 (by decide) (am_at in_wsX8_isWrong_0 1 rfl) rfl rfl rfl (Nat.le_of_ble_eq_true rfl) dX8_isWrong_7 (fun F6 H6 locs6 eF6 hP6 hS6 => ?_)
  have hF6 : F6 58 = .inr (8, [.ref (ad 59), .int (nI ty1), .ref (ad 60), .ref (ad 61), .ref (ad 62), .ref (ad 63), .int (nI kn1), .ref (ad 64), .ref (ad 65), .int sd1, .ref (ad 66), .int (nI no1), .ref (ad 67), .int (nI en1), .int (nI w2), .int p1, .int pl1, .int va1, .int (nI sa1), .ref (ad 68), .ref (ad 69), .ref (ad 70), .ref (ad 71)]) := by rw [eF6]; exact va_up_self _ _ _
  have hW6 := hW3.up eF6 (ok_m ⟨ty1, kn1, no1, en1, w2, sa1, sd1, p1, pl1, va1, rfl, by omega, by omega, by omega, by omega, by omega, by omega⟩)
  have hFr6 := hFr3.up eF6 (by simp <;> first | omega | (simp only [isC, isJ] at *; omega))
  have hE8 : M = m_X8_isWrong_7 (AB ad F6) p1 (nI w2) := hE5.trans ((show m_X8_isWrong_4 (AB ad F3) p1 (nI w2) = m_X8_isWrong_7 (st (AB ad F3) 58 14 (nI w2)) p1 (nI w2) from rfl).trans (congr (congr (congrArg (m_X8_isWrong_7) ((st_cg rfl rfl rfl).trans (AB_put hF3 (Nat.le_of_ble_eq_true rfl) eF6).symm)) (Eq.refl (p1 : Int32))) (Eq.refl ((nI w2) : Int32))))
  refine lv_iconst (v := (nI 0)) S.1 S.2.1 dX8_isWrong_10 (by decide +kernel) ?_
  have hA9 := fN_of (k := 14) (a := w2) hF6 rfl (by omega)
  have hL9 := fN_of (k := 1) (a := ty1) hF6 rfl (Nat.lt_of_le_of_lt hb1_1 (by decide))
  have hE10 : M = ((nI 0), AB ad F6) := hE8.trans ((show m_X8_isWrong_7 (AB ad F6) p1 (nI w2) = ((nI 0), (AB ad F6)) from rfl).trans (congrArg (fun q => (q, AB ad F6)) rfl))
  exact hret 11 _ _ _ _ _ dX8_isWrong_11 rfl hP6 hS6 ⟨hW6, hFr6, ⟨⟨rfl, by omega⟩, hM.symm.trans hE10⟩⟩
noncomputable def m_X8_number_184 (σ : SS) (a0 : Int32) (a1 : Int32) (a2 : Int32) : Int32 × SS :=
  ((nI 0), σ)
noncomputable def m_X8_number_170 (k0 : SS → Int32 → Int32 → Int32 → Int32 → Int32 × SS) (σ : SS) (a0 : Int32) (a1 : Int32) (a2 : Int32) (a3 : Int32) : Int32 × SS :=
  k0 σ a0 a1 a2 a3
noncomputable def m_X8_number_162 (k0 : SS → Int32 → Int32 → Int32 → Int32 → Int32 × SS) (σ : SS) (a0 : Int32) (a1 : Int32) (a2 : Int32) (a3 : Int32) : Int32 × SS :=
  m_X8_number_170 k0 (st σ 58 14 ((σ 58 14) + (nI 1))) (a0 + Int32.ofInt (1)) a1 a2 a3
noncomputable def m_X8_number_145 (k0 : SS → Int32 → Int32 → Int32 → Int32 → Int32 × SS) (σ : SS) (a0 : Int32) (a1 : Int32) (a2 : Int32) (a3 : Int32) : Int32 × SS :=
  k0 σ a0 a1 a2 a3
noncomputable def m_X8_number_137 (k0 : SS → Int32 → Int32 → Int32 → Int32 → Int32 × SS) (σ : SS) (a0 : Int32) (a1 : Int32) (a2 : Int32) (a3 : Int32) : Int32 × SS :=
  m_X8_number_145 k0 (st σ 58 14 ((σ 58 14) + (nI 1))) (a0 + Int32.ofInt (1)) a1 a2 a3
noncomputable def m_X8_number_126 (k0 : SS → Int32 → Int32 → Int32 → Int32 → Int32 × SS) (σ : SS) (a0 : Int32) (a1 : Int32) (a2 : Int32) (a3 : Int32) : Int32 × SS :=
  ((nI 0), σ)
noncomputable def m_X8_number_100 (k0 : SS → Int32 → Int32 → Int32 → Int32 → Int32 × SS) (σ : SS) (a0 : Int32) (a1 : Int32) (a2 : Int32) (a3 : Int32) : Int32 × SS :=
  ((nI 0), σ)
noncomputable def m_X8_number_71 (k0 : SS → Int32 → Int32 → Int32 → Int32 → Int32 × SS) (σ : SS) (a0 : Int32) (a1 : Int32) (a2 : Int32) (a3 : Int32) : Int32 × SS :=
  ((nI 0), σ)
noncomputable def m_X8_number_45 (k0 : SS → Int32 → Int32 → Int32 → Int32 → Int32 × SS) (σ : SS) (a0 : Int32) (a1 : Int32) (a2 : Int32) (a3 : Int32) : Int32 × SS :=
  ((nI 0), σ)
noncomputable def m_X8_number_L42_28_b (k0 : SS → Int32 → Int32 → Int32 → Int32 → Int32 × SS) (σ : SS) (a0 : Int32) (a1 : Int32) (a2 : Int32) (a3 : Int32) : Int32 × SS :=
  if (σ 58 1) ≤ (σ 58 14) then
    if (nI 5) ≤ a0 then
      m_X8_number_45 k0 ((m_X8_isWrong σ (nI 2) (σ 58 18))).2 a0 a1 a2 a3
    else
      if (m_X8_in σ (σ 58 17) a2 a3) = (0 : Int32) then
        m_X8_number_71 k0 ((m_X8_isWrong σ (nI 2) (σ 58 18))).2 a0 a1 a2 a3
      else
        ((nI 1), σ)
  else
    if (m_X8_in σ (σ 59 (rl (σ 58 14))) (nI 48) (nI 57)) = (0 : Int32) then
      if (nI 5) ≤ a0 then
        m_X8_number_100 k0 ((m_X8_isWrong σ (nI 2) (σ 58 18))).2 a0 a1 a2 a3
      else
        if (m_X8_in σ (σ 58 17) a2 a3) = (0 : Int32) then
          m_X8_number_126 k0 ((m_X8_isWrong σ (nI 2) (σ 58 18))).2 a0 a1 a2 a3
        else
          ((nI 1), σ)
    else
      if (nI 4) ≤ a0 then
        m_X8_number_137 k0 (st σ 58 17 (σ 58 17)) a0 a1 a2 a3
      else
        m_X8_number_162 k0 (st σ 58 17 ((((nI 10) * (σ 58 17)) + (σ 59 (rl (σ 58 14)))) - (nI 48))) a0 a1 a2 a3
noncomputable def m_X8_number_L42_28 : Nat → SS → Int32 → Int32 → Int32 → Int32 → Int32 × SS
  | 0 => fun σ _ _ _ _ => (0, σ)
  | n + 1 => m_X8_number_L42_28_b (m_X8_number_L42_28 n)
noncomputable def m_X8_number_26 (σ : SS) (a0 : Int32) (a1 : Int32) (a2 : Int32) : Int32 × SS :=
  m_X8_number_L42_28 2000 σ (nI 0) a0 a1 a2
noncomputable def m_X8_number_14 (σ : SS) (a0 : Int32) (a1 : Int32) (a2 : Int32) : Int32 × SS :=
  if (m_X8_in σ a0 (nI 48) (nI 57)) = (0 : Int32) then
    m_X8_number_184 ((m_X8_isWrong σ (nI 1) (σ 58 14))).2 a0 a1 a2
  else
    m_X8_number_26 (st σ 58 17 (nI 0)) a0 a1 a2
noncomputable def m_X8_number_9 (σ : SS) (a0 : Int32) (a1 : Int32) (a2 : Int32) : Int32 × SS :=
  m_X8_number_14 (st σ 58 18 (σ 58 14)) a2 a0 a1
noncomputable def m_X8_number (σ : SS) (a0 : Int32) (a1 : Int32) : Int32 × SS :=
  m_X8_number_9 ((m_X8_letter σ)).2 a0 a1 ((m_X8_letter σ)).1
set_option maxHeartbeats 4000000 in
set_option maxRecDepth 100000 in
theorem c_X8_number (l : Launch) (D : va_G) (cA ad : Nat → Nat) (t : Nat) (hI : rI ad) (F : Nat → va_E) (hW : WT cA ad F) (p1 : Int32) (p2 : Int32) : MI l D cA ad t yX8_number wsX8_number { frames := 1, cells := 0, slots := 0, locals := 22 } [.ref (ad 58), .int p1, .int p2] F (fun r F' => WT cA ad F' ∧ rFr [58] F F' ∧ ((le32 1 r ∧ fN (F' 58) 1 = fN (F 58) 1 ∧ (r ≠ 0 → fN (F 58) 14 ≤ fN (F' 58) 14) ∧ (r ≠ 0 → p1.toInt ≤ (fI (F' 58) 17).toInt ∧ (fI (F' 58) 17).toInt ≤ p2.toInt)) ∧ m_X8_number (AB ad F) p1 p2 = (r, AB ad F'))) := by
  refine en_I rfl (by decide +kernel) (Nat.le_of_ble_eq_true rfl) ?_
  intro p e s m args below meth c ls0 Q S hK hZ hP hS hl0 hret
  have hl0 : lv_has ls0 5 [(0, .ref (ad 58)), (1, .int p1), (2, .int p2)] := hl0
  have hFr : rFr [58] F F := rFr.rf
  have hiX8 : ∀ w ∈ u_ws RX8 TX8 23, w ∈ wsX8_number := in_wsX8_number_1
  obtain ⟨M, hM⟩ : ∃ M, M = m_X8_number (AB ad F) p1 p2 := ⟨_, rfl⟩
  obtain ⟨ty1, kn1, no1, en1, at1, sa1, sd1, wr1, pl1, va1, hF1, hb1_1, hb1_2, hb1_3, hb1_4, hb1_5, hb1_6⟩ := wt_m hW
  have hA2 := fN_of (k := 14) (a := at1) hF1 rfl (Nat.lt_of_le_of_lt hb1_5 (by decide))
  have hL2 := fN_of (k := 1) (a := ty1) hF1 rfl (Nat.lt_of_le_of_lt hb1_1 (by decide))
  refine lv_aload_n S.1 S.2.1 dX8_number_0 rfl (lv_at hl0 0 rfl) ?_
  have hA3 := fN_of (k := 14) (a := at1) hF1 rfl (Nat.lt_of_le_of_lt hb1_5 (by decide))
  have hL3 := fN_of (k := 1) (a := ty1) hF1 rfl (Nat.lt_of_le_of_lt hb1_1 (by decide))
  refine r_cVi (As := []) (rest := []) S hK hZ hP hS hl0.1 58 (by decide) hF1 (C := RX8) rfl (c_X8_letter l D cA ad t hI F hW ) (cwV 0 S.2.2.2.2 gX8_number_X8_letter rfl rfl rfl (by decide +kernel) ⟨Nat.le_of_ble_eq_true rfl, Nat.le_of_ble_eq_true rfl⟩) rfl rfl (Nat.le_of_ble_eq_true rfl) ⟨Nat.zero_le _, Nat.zero_le _⟩ dX8_number_1 (fun r4 F4 H4 locs4 hr4 hP4 hS4 => ?_)
  obtain ⟨hW4, hFc4, hr4⟩ := hr4
  obtain ⟨hr4, hm4⟩ := hr4
  have hFr4 := hFr.tr hFc4 (by simp <;> first | omega | (simp only [isC, isJ] at *; omega))
  obtain ⟨hx5, hy5, hz5⟩ := hr4
  obtain ⟨ty6, kn6, no6, en6, at6, sa6, sd6, wr6, pl6, va6, hF6, hb6_1, hb6_2, hb6_3, hb6_4, hb6_5, hb6_6⟩ := wt_m hW4
  have hA7 := fN_of (k := 14) (a := at6) hF6 rfl (Nat.lt_of_le_of_lt hb6_5 (by decide))
  have hL7 := fN_of (k := 1) (a := ty6) hF6 rfl (Nat.lt_of_le_of_lt hb6_1 (by decide))
  have mc8 : (m_X8_letter (AB ad F)) = (r4, AB ad F4) := (Eq.refl (m_X8_letter (AB ad F))).trans hm4
  have hE10 : M = m_X8_number_9 (AB ad F4) p1 p2 r4 := hM.trans ((show m_X8_number (AB ad F) p1 p2 = m_X8_number_9 ((m_X8_letter (AB ad F))).2 p1 p2 ((m_X8_letter (AB ad F))).1 from rfl).trans (congr (congr (congr (congrArg (m_X8_number_9) (congrArg Prod.snd mc8)) (Eq.refl (p1 : Int32))) (Eq.refl (p2 : Int32))) (congrArg Prod.fst mc8)))
  refine lv_istore_n (lv' := [(3, .int r4), (0, .ref (ad 58)), (1, .int p1), (2, .int p2)]) S.1 S.2.1 dX8_number_4 rfl hl0 (by decide) rfl (fun ls11 hl11 => ?_)
  refine lv_aload_n S.1 S.2.1 dX8_number_5 rfl (lv_at hl11 1 rfl) ?_
  refine lv_aload_n S.1 S.2.1 dX8_number_6 rfl (lv_at hl11 1 rfl) ?_
  refine r_get S hK hP4 58 (by decide) hF6 (C := RX8) (T := TX8) (N := 23) hiX8 rfl 14 (by decide) (am_at in_wsX8_number_0 0 rfl) (v := .int (nI at6)) rfl dX8_number_7 ?_
  have m12 : ((AB ad F4) 58 14) = (nI at6) := AB_f hF6 rfl
  refine r_put S hI hK hP4 hS4 58 (by decide) hF6 (C := RX8) (T := TX8) (N := 23) hiX8 tyX8_ok nmX8 rfl 18 (by decide) (am_at in_wsX8_number_0 1 rfl) rfl rfl rfl (Nat.le_of_ble_eq_true rfl) dX8_number_10 (fun F13 H13 locs13 eF13 hP13 hS13 => ?_)
  have hF13 : F13 58 = .inr (8, [.ref (ad 59), .int (nI ty6), .ref (ad 60), .ref (ad 61), .ref (ad 62), .ref (ad 63), .int (nI kn6), .ref (ad 64), .ref (ad 65), .int sd6, .ref (ad 66), .int (nI no6), .ref (ad 67), .int (nI en6), .int (nI at6), .int wr6, .int pl6, .int va6, .int (nI at6), .ref (ad 68), .ref (ad 69), .ref (ad 70), .ref (ad 71)]) := by rw [eF13]; exact va_up_self _ _ _
  have hW13 := hW4.up eF13 (ok_m ⟨ty6, kn6, no6, en6, at6, at6, sd6, wr6, pl6, va6, rfl, by omega, by omega, by omega, by omega, by omega, by omega⟩)
  have hFr13 := hFr4.up eF13 (by simp <;> first | omega | (simp only [isC, isJ] at *; omega))
  have hE15 : M = m_X8_number_14 (AB ad F13) r4 p1 p2 := hE10.trans ((show m_X8_number_9 (AB ad F4) p1 p2 r4 = m_X8_number_14 (st (AB ad F4) 58 18 ((AB ad F4) 58 14)) r4 p1 p2 from rfl).trans (congr (congr (congr (congrArg (m_X8_number_14) ((st_cg rfl rfl m12).trans (AB_put hF6 (Nat.le_of_ble_eq_true rfl) eF13).symm)) (Eq.refl (r4 : Int32))) (Eq.refl (p1 : Int32))) (Eq.refl (p2 : Int32))))
  refine lv_iload_n S.1 S.2.1 dX8_number_13 rfl (lv_at hl11 0 rfl) ?_
  refine lv_bipush (v := (nI 48)) S.1 S.2.1 dX8_number_14 (by decide +kernel) ?_
  refine lv_bipush (v := (nI 57)) S.1 S.2.1 dX8_number_16 (by decide +kernel) ?_
  refine r_cSp (As := [.int r4, .int (nI 48), .int (nI 57)]) (rest := []) S hK hZ hP13 hS13 hl11.1 (c_X8_in l D cA ad t hI F13 hW13 r4 (nI 48) (nI 57)) (va_cwS 3 S.2.2.2.2 gX8_number_X8_in rfl rfl rfl (by decide +kernel) ⟨Nat.le_of_ble_eq_true rfl, Nat.le_of_ble_eq_true rfl⟩) rfl rfl (Nat.le_of_ble_eq_true rfl) ⟨Nat.zero_le _, Nat.zero_le _⟩ dX8_number_18 (fun r16 hr16 => ?_)
  obtain ⟨hr16, hm16⟩ := hr16
  obtain ⟨⟨b17, hb17, rfl⟩, hx17, hz17⟩ := hr16
  have ta18 : (r4 : Int32).toInt = r4.toInt := rfl
  have ta19 : ((nI 48) : Int32).toInt = ((48 : Nat) : Int) := (nI_toInt (n := 48) (by decide))
  have ta20 : ((nI 57) : Int32).toInt = ((57 : Nat) : Int) := (nI_toInt (n := 57) (by decide))
  have hy17 : b17 ≠ 0 → ((48 : Nat) : Int) ≤ r4.toInt ∧ r4.toInt ≤ ((57 : Nat) : Int) := fun q => by have h9 := hx17 (nI_ne0 (by omega) (by omega)); omega
  have hu17 : b17 = 0 → r4.toInt < ((48 : Nat) : Int) ∨ ((57 : Nat) : Int) < r4.toInt := fun q => by have h9 := hz17 (by rw [q]; rfl); omega
  have m21 : (m_X8_in (AB ad F13) r4 (nI 48) (nI 57)) = (nI b17) := (congr (congr (congr (Eq.refl (m_X8_in (AB ad F13))) (Eq.refl (r4 : Int32))) (Eq.refl ((nI 48) : Int32))) (Eq.refl ((nI 57) : Int32))).trans hm16
  refine lv_if_ne (tgt := 34) S.1 S.2.1 dX8_number_21 (by decide) (fun c22 => ?_) (fun c22 => ?_)
  · skip
    have k23 := ci_ne (nI_toInt (n := b17) (Nat.lt_of_le_of_lt hb17 (by decide))) z_ti c22
    refine lv_iconst (v := (nI 0)) S.1 S.2.1 dX8_number_34 (by decide +kernel) ?_
    refine lv_istore (lv' := [(4, .int (nI 0)), (3, .int r4), (0, .ref (ad 58)), (1, .int p1), (2, .int p2)]) S.1 S.2.1 dX8_number_35 hl11 (by decide) rfl (fun ls24 hl24 => ?_)
    refine lv_aload_n S.1 S.2.1 dX8_number_37 rfl (lv_at hl24 2 rfl) ?_
    refine lv_iconst (v := (nI 0)) S.1 S.2.1 dX8_number_38 (by decide +kernel) ?_
    refine r_put S hI hK hP13 hS13 58 (by decide) hF13 (C := RX8) (T := TX8) (N := 23) hiX8 tyX8_ok nmX8 rfl 17 (by decide) (am_at in_wsX8_number_0 2 rfl) rfl rfl rfl (Nat.le_of_ble_eq_true rfl) dX8_number_39 (fun F25 H25 locs25 eF25 hP25 hS25 => ?_)
    have hF25 : F25 58 = .inr (8, [.ref (ad 59), .int (nI ty6), .ref (ad 60), .ref (ad 61), .ref (ad 62), .ref (ad 63), .int (nI kn6), .ref (ad 64), .ref (ad 65), .int sd6, .ref (ad 66), .int (nI no6), .ref (ad 67), .int (nI en6), .int (nI at6), .int wr6, .int pl6, .int (nI 0), .int (nI at6), .ref (ad 68), .ref (ad 69), .ref (ad 70), .ref (ad 71)]) := by rw [eF25]; exact va_up_self _ _ _
    have hW25 := hW13.up eF25 (ok_m ⟨ty6, kn6, no6, en6, at6, at6, sd6, wr6, pl6, (nI 0), rfl, by omega, by omega, by omega, by omega, by omega, by omega⟩)
    have hFr25 := hFr13.up eF25 (by simp <;> first | omega | (simp only [isC, isJ] at *; omega))
    have hE27 : M = m_X8_number_26 (AB ad F25) r4 p1 p2 := hE15.trans ((show m_X8_number_14 (AB ad F13) r4 p1 p2 = m_X8_number_26 (st (AB ad F13) 58 17 (nI 0)) r4 p1 p2 from by unfold m_X8_number_14; rw [if_neg (neq_cg m21 rfl c22)]).trans (congr (congr (congr (congrArg (m_X8_number_26) ((st_cg rfl rfl rfl).trans (AB_put hF13 (Nat.le_of_ble_eq_true rfl) eF25).symm)) (Eq.refl (r4 : Int32))) (Eq.refl (p1 : Int32))) (Eq.refl (p2 : Int32))))
    have lp28 : ∀ (n28 : Nat) (x28_4 : Int32), ∀ (Fl28 : Nat → va_E) (Hl28 : Heap) (lol28 : List Loc), fN (F 58) 14 ≤ fN (Fl28 58) 14 ∧ fN (Fl28 58) 1 = fN (F 58) 1 → 240 - fN (Fl28 58) 14 < n28 → WT cA ad Fl28 → rFr [58] F Fl28 → va_P D vwCl (rW ad Fl28) Hl28 → va_S (rA ad) s.heap Hl28 lol28 → M = m_X8_number_L42_28 n28 (AB ad Fl28) x28_4 r4 p1 p2 → ∀ (ls : Array Slot), lv_has ls 5 [(4, .int x28_4), (3, .int r4), (0, .ref (ad 58)), (1, .int p1), (2, .int p2)] → W p l e { frames := 1, cells := 0, slots := 0, locals := 22 } s m args below meth c Hl28 lol28 0 0 Q (F0 m 42 ls []) := by
      intro n28
      induction n28 with
      | zero =>
        intro x28_4 Fl28 Hl28 lol28 ix28_m hm28 hWl28 hFl28 hPl28 hSl28 hEl28 ls28 hl28
        exact absurd hm28 (Nat.not_lt_zero _)
      | succ n28 ih28 =>
        intro x28_4 Fl28 Hl28 lol28 ix28_m hm28 hWl28 hFl28 hPl28 hSl28 hEl28 ls28 hl28
        have hE29 : M = m_X8_number_L42_28_b (m_X8_number_L42_28 n28) (AB ad Fl28) x28_4 r4 p1 p2 := hEl28
        obtain ⟨ty30, kn30, no30, en30, at30, sa30, sd30, wr30, pl30, va30, hF30, hb30_1, hb30_2, hb30_3, hb30_4, hb30_5, hb30_6⟩ := wt_m hWl28
        have hA31 := fN_of (k := 14) (a := at30) hF30 rfl (Nat.lt_of_le_of_lt hb30_5 (by decide))
        have hL31 := fN_of (k := 1) (a := ty30) hF30 rfl (Nat.lt_of_le_of_lt hb30_1 (by decide))
        refine lv_aload_n S.1 S.2.1 dX8_number_42 rfl (lv_at hl28 2 rfl) ?_
        refine r_get S hK hPl28 58 (by decide) hF30 (C := RX8) (T := TX8) (N := 23) hiX8 rfl 14 (by decide) (am_at in_wsX8_number_0 0 rfl) (v := .int (nI at30)) rfl dX8_number_43 ?_
        have m32 : ((AB ad Fl28) 58 14) = (nI at30) := AB_f hF30 rfl
        refine lv_aload_n S.1 S.2.1 dX8_number_46 rfl (lv_at hl28 2 rfl) ?_
        refine r_get S hK hPl28 58 (by decide) hF30 (C := RX8) (T := TX8) (N := 23) hiX8 rfl 1 (by decide) (am_at in_wsX8_number_0 3 rfl) (v := .int (nI ty30)) rfl dX8_number_47 ?_
        have m33 : ((AB ad Fl28) 58 1) = (nI ty30) := AB_f hF30 rfl
        refine lv_icmp_ge (tgt := 125) S.1 S.2.1 dX8_number_50 (by decide) (fun c34 => ?_) (fun c34 => ?_)
        · skip
          have k35 := ci_le (nI_toInt (n := ty30) (by omega)) (nI_toInt (n := at30) (by omega)) c34
          refine lv_iload S.1 S.2.1 dX8_number_125 (lv_at hl28 0 rfl) ?_
          refine lv_iconst (v := (nI 5)) S.1 S.2.1 dX8_number_127 (by decide +kernel) ?_
          refine lv_icmp_ge (tgt := 143) S.1 S.2.1 dX8_number_128 (by decide) (fun c36 => ?_) (fun c36 => ?_)
          · skip
            have k37 := ci_le (nI_toInt (n := 5) (by decide)) rfl c36
            refine lv_aload_n S.1 S.2.1 dX8_number_143 rfl (lv_at hl28 2 rfl) ?_
            refine lv_iconst (v := (nI 2)) S.1 S.2.1 dX8_number_144 (by decide +kernel) ?_
            refine lv_aload_n S.1 S.2.1 dX8_number_145 rfl (lv_at hl28 2 rfl) ?_
            refine r_get S hK hPl28 58 (by decide) hF30 (C := RX8) (T := TX8) (N := 23) hiX8 rfl 18 (by decide) (am_at in_wsX8_number_0 1 rfl) (v := .int (nI sa30)) rfl dX8_number_146 ?_
            have m38 : ((AB ad Fl28) 58 18) = (nI sa30) := AB_f hF30 rfl
            have hA39 := fN_of (k := 14) (a := at30) hF30 rfl (Nat.lt_of_le_of_lt hb30_5 (by decide))
            have hL39 := fN_of (k := 1) (a := ty30) hF30 rfl (Nat.lt_of_le_of_lt hb30_1 (by decide))
            refine r_cVi (As := [.int (nI 2), .int (nI sa30)]) (rest := []) S hK hZ hPl28 hSl28 hl28.1 58 (by decide) hF30 (C := RX8) rfl (c_X8_isWrong l D cA ad t hI Fl28 hWl28 (nI 2) (sa30) (by omega)) (cwV 2 S.2.2.2.2 gX8_number_X8_isWrong rfl rfl rfl (by decide +kernel) ⟨Nat.le_of_ble_eq_true rfl, Nat.le_of_ble_eq_true rfl⟩) rfl rfl (Nat.le_of_ble_eq_true rfl) ⟨Nat.zero_le _, Nat.zero_le _⟩ dX8_number_149 (fun r40 F40 H40 locs40 hr40 hP40 hS40 => ?_)
            obtain ⟨hW40, hFc40, hr40⟩ := hr40
            obtain ⟨hr40, hm40⟩ := hr40
            have hFr40 := hFl28.tr hFc40 (by simp <;> first | omega | (simp only [isC, isJ] at *; omega))
            obtain ⟨rfl, hz41⟩ := hr40
            obtain ⟨ty42, kn42, no42, en42, at42, sa42, sd42, wr42, pl42, va42, hF42, hb42_1, hb42_2, hb42_3, hb42_4, hb42_5, hb42_6⟩ := wt_m hW40
            have hA43 := fN_of (k := 14) (a := at42) hF42 rfl (Nat.lt_of_le_of_lt hb42_5 (by decide))
            have hL43 := fN_of (k := 1) (a := ty42) hF42 rfl (Nat.lt_of_le_of_lt hb42_1 (by decide))
            have mc44 : (m_X8_isWrong (AB ad Fl28) (nI 2) ((AB ad Fl28) 58 18)) = ((nI 0), AB ad F40) := (congr (congr (Eq.refl (m_X8_isWrong (AB ad Fl28))) (Eq.refl ((nI 2) : Int32))) m38).trans hm40
            have hE46 : M = m_X8_number_45 (m_X8_number_L42_28 n28) (AB ad F40) x28_4 r4 p1 p2 := hE29.trans ((show m_X8_number_L42_28_b (m_X8_number_L42_28 n28) (AB ad Fl28) x28_4 r4 p1 p2 = m_X8_number_45 (m_X8_number_L42_28 n28) ((m_X8_isWrong (AB ad Fl28) (nI 2) ((AB ad Fl28) 58 18))).2 x28_4 r4 p1 p2 from by unfold m_X8_number_L42_28_b; rw [if_pos (le_cg m33 m32 c34), if_pos (le_cg rfl rfl c36)]).trans (congr (congr (congr (congr (congrArg (m_X8_number_45 (m_X8_number_L42_28 n28)) (congrArg Prod.snd mc44)) (Eq.refl (x28_4 : Int32))) (Eq.refl (r4 : Int32))) (Eq.refl (p1 : Int32))) (Eq.refl (p2 : Int32))))
            refine lv_if_eq (tgt := 159) S.1 S.2.1 dX8_number_152 (by decide) (fun c47 => ?_) (fun c47 => absurd (by decide +kernel) c47)
            have k48 := ci_eq (nI_toInt (n := 0) (by decide)) z_ti c47
            refine lv_iconst (v := (nI 0)) S.1 S.2.1 dX8_number_159 (by decide +kernel) ?_
            have hA49 := fN_of (k := 14) (a := at42) hF42 rfl (Nat.lt_of_le_of_lt hb42_5 (by decide))
            have hL49 := fN_of (k := 1) (a := ty42) hF42 rfl (Nat.lt_of_le_of_lt hb42_1 (by decide))
            have hE50 : M = ((nI 0), AB ad F40) := hE46.trans ((show m_X8_number_45 (m_X8_number_L42_28 n28) (AB ad F40) x28_4 r4 p1 p2 = ((nI 0), (AB ad F40)) from rfl).trans (congrArg (fun q => (q, AB ad F40)) rfl))
            exact hret 160 _ _ _ _ _ dX8_number_160 rfl hP40 hS40 ⟨hW40, hFr40, ⟨⟨⟨0, by omega, rfl⟩, by omega, fun h => absurd rfl h, fun h => absurd rfl h⟩, hM.symm.trans hE50⟩⟩
          have k51 := ci_nle (nI_toInt (n := 5) (by decide)) rfl c36
          refine lv_aload_n S.1 S.2.1 dX8_number_131 rfl (lv_at hl28 2 rfl) ?_
          refine r_get S hK hPl28 58 (by decide) hF30 (C := RX8) (T := TX8) (N := 23) hiX8 rfl 17 (by decide) (am_at in_wsX8_number_0 2 rfl) (v := .int va30) rfl dX8_number_132 ?_
          have m52 : ((AB ad Fl28) 58 17) = va30 := AB_f hF30 rfl
          refine lv_iload_n S.1 S.2.1 dX8_number_135 rfl (lv_at hl28 3 rfl) ?_
          refine lv_iload_n S.1 S.2.1 dX8_number_136 rfl (lv_at hl28 4 rfl) ?_
          refine r_cSp (As := [.int va30, .int p1, .int p2]) (rest := []) S hK hZ hPl28 hSl28 hl28.1 (c_X8_in l D cA ad t hI Fl28 hWl28 va30 p1 p2) (va_cwS 3 S.2.2.2.2 gX8_number_X8_in rfl rfl rfl (by decide +kernel) ⟨Nat.le_of_ble_eq_true rfl, Nat.le_of_ble_eq_true rfl⟩) rfl rfl (Nat.le_of_ble_eq_true rfl) ⟨Nat.zero_le _, Nat.zero_le _⟩ dX8_number_137 (fun r53 hr53 => ?_)
          obtain ⟨hr53, hm53⟩ := hr53
          obtain ⟨⟨b54, hb54, rfl⟩, hx54, hz54⟩ := hr53
          have ta55 : (va30 : Int32).toInt = va30.toInt := rfl
          have ta56 : (p1 : Int32).toInt = p1.toInt := rfl
          have ta57 : (p2 : Int32).toInt = p2.toInt := rfl
          have hy54 : b54 ≠ 0 → p1.toInt ≤ va30.toInt ∧ va30.toInt ≤ p2.toInt := fun q => by have h9 := hx54 (nI_ne0 (by omega) (by omega)); omega
          have hu54 : b54 = 0 → va30.toInt < p1.toInt ∨ p2.toInt < va30.toInt := fun q => by have h9 := hz54 (by rw [q]; rfl); omega
          have m58 : (m_X8_in (AB ad Fl28) ((AB ad Fl28) 58 17) p1 p2) = (nI b54) := (congr (congr (congr (Eq.refl (m_X8_in (AB ad Fl28))) m52) (Eq.refl (p1 : Int32))) (Eq.refl (p2 : Int32))).trans hm53
          refine lv_if_ne (tgt := 155) S.1 S.2.1 dX8_number_140 (by decide) (fun c59 => ?_) (fun c59 => ?_)
          · skip
            have k60 := ci_ne (nI_toInt (n := b54) (Nat.lt_of_le_of_lt hb54 (by decide))) z_ti c59
            refine lv_iconst (v := (nI 1)) S.1 S.2.1 dX8_number_155 (by decide +kernel) ?_
            refine lv_goto (tgt := 160) S.1 S.2.1 dX8_number_156 (by decide) ?_
            have hA61 := fN_of (k := 14) (a := at30) hF30 rfl (Nat.lt_of_le_of_lt hb30_5 (by decide))
            have hL61 := fN_of (k := 1) (a := ty30) hF30 rfl (Nat.lt_of_le_of_lt hb30_1 (by decide))
            have hE62 : M = ((nI 1), AB ad Fl28) := hE29.trans ((show m_X8_number_L42_28_b (m_X8_number_L42_28 n28) (AB ad Fl28) x28_4 r4 p1 p2 = ((nI 1), (AB ad Fl28)) from by unfold m_X8_number_L42_28_b; rw [if_pos (le_cg m33 m32 c34), if_neg (nle_cg rfl rfl c36), if_neg (neq_cg m58 rfl c59)]).trans (congrArg (fun q => (q, AB ad Fl28)) rfl))
            exact hret 160 _ _ _ _ _ dX8_number_160 rfl hPl28 hSl28 ⟨hWl28, hFl28, ⟨⟨⟨1, by omega, rfl⟩, by omega, fun _ => by omega, fun _ => by rw [show fI (Fl28 58) 17 = va30 by unfold fI; rw [hF30]; rfl]; exact ⟨by omega, by omega⟩⟩, hM.symm.trans hE62⟩⟩
          have k63 := ci_eq (nI_toInt (n := b54) (Nat.lt_of_le_of_lt hb54 (by decide))) z_ti c59
          refine lv_aload_n S.1 S.2.1 dX8_number_143 rfl (lv_at hl28 2 rfl) ?_
          refine lv_iconst (v := (nI 2)) S.1 S.2.1 dX8_number_144 (by decide +kernel) ?_
          refine lv_aload_n S.1 S.2.1 dX8_number_145 rfl (lv_at hl28 2 rfl) ?_
          refine r_get S hK hPl28 58 (by decide) hF30 (C := RX8) (T := TX8) (N := 23) hiX8 rfl 18 (by decide) (am_at in_wsX8_number_0 1 rfl) (v := .int (nI sa30)) rfl dX8_number_146 ?_
          have m64 : ((AB ad Fl28) 58 18) = (nI sa30) := AB_f hF30 rfl
          have hA65 := fN_of (k := 14) (a := at30) hF30 rfl (Nat.lt_of_le_of_lt hb30_5 (by decide))
          have hL65 := fN_of (k := 1) (a := ty30) hF30 rfl (Nat.lt_of_le_of_lt hb30_1 (by decide))
          refine r_cVi (As := [.int (nI 2), .int (nI sa30)]) (rest := []) S hK hZ hPl28 hSl28 hl28.1 58 (by decide) hF30 (C := RX8) rfl (c_X8_isWrong l D cA ad t hI Fl28 hWl28 (nI 2) (sa30) (by omega)) (cwV 2 S.2.2.2.2 gX8_number_X8_isWrong rfl rfl rfl (by decide +kernel) ⟨Nat.le_of_ble_eq_true rfl, Nat.le_of_ble_eq_true rfl⟩) rfl rfl (Nat.le_of_ble_eq_true rfl) ⟨Nat.zero_le _, Nat.zero_le _⟩ dX8_number_149 (fun r66 F66 H66 locs66 hr66 hP66 hS66 => ?_)
          obtain ⟨hW66, hFc66, hr66⟩ := hr66
          obtain ⟨hr66, hm66⟩ := hr66
          have hFr66 := hFl28.tr hFc66 (by simp <;> first | omega | (simp only [isC, isJ] at *; omega))
          obtain ⟨rfl, hz67⟩ := hr66
          obtain ⟨ty68, kn68, no68, en68, at68, sa68, sd68, wr68, pl68, va68, hF68, hb68_1, hb68_2, hb68_3, hb68_4, hb68_5, hb68_6⟩ := wt_m hW66
          have hA69 := fN_of (k := 14) (a := at68) hF68 rfl (Nat.lt_of_le_of_lt hb68_5 (by decide))
          have hL69 := fN_of (k := 1) (a := ty68) hF68 rfl (Nat.lt_of_le_of_lt hb68_1 (by decide))
          have mc70 : (m_X8_isWrong (AB ad Fl28) (nI 2) ((AB ad Fl28) 58 18)) = ((nI 0), AB ad F66) := (congr (congr (Eq.refl (m_X8_isWrong (AB ad Fl28))) (Eq.refl ((nI 2) : Int32))) m64).trans hm66
          have hE72 : M = m_X8_number_71 (m_X8_number_L42_28 n28) (AB ad F66) x28_4 r4 p1 p2 := hE29.trans ((show m_X8_number_L42_28_b (m_X8_number_L42_28 n28) (AB ad Fl28) x28_4 r4 p1 p2 = m_X8_number_71 (m_X8_number_L42_28 n28) ((m_X8_isWrong (AB ad Fl28) (nI 2) ((AB ad Fl28) 58 18))).2 x28_4 r4 p1 p2 from by unfold m_X8_number_L42_28_b; rw [if_pos (le_cg m33 m32 c34), if_neg (nle_cg rfl rfl c36), if_pos (eq_cg m58 rfl c59)]).trans (congr (congr (congr (congr (congrArg (m_X8_number_71 (m_X8_number_L42_28 n28)) (congrArg Prod.snd mc70)) (Eq.refl (x28_4 : Int32))) (Eq.refl (r4 : Int32))) (Eq.refl (p1 : Int32))) (Eq.refl (p2 : Int32))))
          refine lv_if_eq (tgt := 159) S.1 S.2.1 dX8_number_152 (by decide) (fun c73 => ?_) (fun c73 => absurd (by decide +kernel) c73)
          have k74 := ci_eq (nI_toInt (n := 0) (by decide)) z_ti c73
          refine lv_iconst (v := (nI 0)) S.1 S.2.1 dX8_number_159 (by decide +kernel) ?_
          have hA75 := fN_of (k := 14) (a := at68) hF68 rfl (Nat.lt_of_le_of_lt hb68_5 (by decide))
          have hL75 := fN_of (k := 1) (a := ty68) hF68 rfl (Nat.lt_of_le_of_lt hb68_1 (by decide))
          have hE76 : M = ((nI 0), AB ad F66) := hE72.trans ((show m_X8_number_71 (m_X8_number_L42_28 n28) (AB ad F66) x28_4 r4 p1 p2 = ((nI 0), (AB ad F66)) from rfl).trans (congrArg (fun q => (q, AB ad F66)) rfl))
          exact hret 160 _ _ _ _ _ dX8_number_160 rfl hP66 hS66 ⟨hW66, hFr66, ⟨⟨⟨0, by omega, rfl⟩, by omega, fun h => absurd rfl h, fun h => absurd rfl h⟩, hM.symm.trans hE76⟩⟩
        have k77 := ci_nle (nI_toInt (n := ty30) (by omega)) (nI_toInt (n := at30) (by omega)) c34
        refine lv_aload_n S.1 S.2.1 dX8_number_53 rfl (lv_at hl28 2 rfl) ?_
        refine r_get S hK hPl28 58 (by decide) hF30 (C := RX8) (T := TX8) (N := 23) hiX8 rfl 0 (by decide) (am_at in_wsX8_number_0 4 rfl) (v := .ref (ad 59)) rfl dX8_number_54 ?_
        refine lv_aload_n S.1 S.2.1 dX8_number_57 rfl (lv_at hl28 2 rfl) ?_
        refine r_get S hK hPl28 58 (by decide) hF30 (C := RX8) (T := TX8) (N := 23) hiX8 rfl 14 (by decide) (am_at in_wsX8_number_0 0 rfl) (v := .int (nI at30)) rfl dX8_number_58 ?_
        have m78 : ((AB ad Fl28) 58 14) = (nI at30) := AB_f hF30 rfl
        obtain ⟨g79, hF79, hg79⟩ := wt_I hWl28 (show (59, 240) ∈ rLI by decide)
        refine r_iald S hK hPl28 59 (by decide) hF79 (vp_in_nI (show at30 < 240 by omega) (by omega)) dX8_number_61 ?_
        refine lv_topi (fun v81 e81 => ?_)
        have m82 : ((AB ad Fl28) 59 (rl ((AB ad Fl28) 58 14))) = v81 := (ab_cg rfl m78).trans ((AB_g hF79).trans e81.symm)
        refine lv_bipush (v := (nI 48)) S.1 S.2.1 dX8_number_62 (by decide +kernel) ?_
        refine lv_bipush (v := (nI 57)) S.1 S.2.1 dX8_number_64 (by decide +kernel) ?_
        refine r_cSp (As := [.int v81, .int (nI 48), .int (nI 57)]) (rest := []) S hK hZ hPl28 hSl28 hl28.1 (c_X8_in l D cA ad t hI Fl28 hWl28 v81 (nI 48) (nI 57)) (va_cwS 3 S.2.2.2.2 gX8_number_X8_in rfl rfl rfl (by decide +kernel) ⟨Nat.le_of_ble_eq_true rfl, Nat.le_of_ble_eq_true rfl⟩) rfl rfl (Nat.le_of_ble_eq_true rfl) ⟨Nat.zero_le _, Nat.zero_le _⟩ dX8_number_66 (fun r83 hr83 => ?_)
        obtain ⟨hr83, hm83⟩ := hr83
        obtain ⟨⟨b84, hb84, rfl⟩, hx84, hz84⟩ := hr83
        have ta85 : (v81 : Int32).toInt = v81.toInt := rfl
        have ta86 : ((nI 48) : Int32).toInt = ((48 : Nat) : Int) := (nI_toInt (n := 48) (by decide))
        have ta87 : ((nI 57) : Int32).toInt = ((57 : Nat) : Int) := (nI_toInt (n := 57) (by decide))
        have hy84 : b84 ≠ 0 → ((48 : Nat) : Int) ≤ v81.toInt ∧ v81.toInt ≤ ((57 : Nat) : Int) := fun q => by have h9 := hx84 (nI_ne0 (by omega) (by omega)); omega
        have hu84 : b84 = 0 → v81.toInt < ((48 : Nat) : Int) ∨ ((57 : Nat) : Int) < v81.toInt := fun q => by have h9 := hz84 (by rw [q]; rfl); omega
        have m88 : (m_X8_in (AB ad Fl28) ((AB ad Fl28) 59 (rl ((AB ad Fl28) 58 14))) (nI 48) (nI 57)) = (nI b84) := (congr (congr (congr (Eq.refl (m_X8_in (AB ad Fl28))) m82) (Eq.refl ((nI 48) : Int32))) (Eq.refl ((nI 57) : Int32))).trans hm83
        refine lv_if_eq (tgt := 125) S.1 S.2.1 dX8_number_69 (by decide) (fun c89 => ?_) (fun c89 => ?_)
        · skip
          have k90 := ci_eq (nI_toInt (n := b84) (Nat.lt_of_le_of_lt hb84 (by decide))) z_ti c89
          refine lv_iload S.1 S.2.1 dX8_number_125 (lv_at hl28 0 rfl) ?_
          refine lv_iconst (v := (nI 5)) S.1 S.2.1 dX8_number_127 (by decide +kernel) ?_
          refine lv_icmp_ge (tgt := 143) S.1 S.2.1 dX8_number_128 (by decide) (fun c91 => ?_) (fun c91 => ?_)
          · skip
            have k92 := ci_le (nI_toInt (n := 5) (by decide)) rfl c91
            refine lv_aload_n S.1 S.2.1 dX8_number_143 rfl (lv_at hl28 2 rfl) ?_
            refine lv_iconst (v := (nI 2)) S.1 S.2.1 dX8_number_144 (by decide +kernel) ?_
            refine lv_aload_n S.1 S.2.1 dX8_number_145 rfl (lv_at hl28 2 rfl) ?_
            refine r_get S hK hPl28 58 (by decide) hF30 (C := RX8) (T := TX8) (N := 23) hiX8 rfl 18 (by decide) (am_at in_wsX8_number_0 1 rfl) (v := .int (nI sa30)) rfl dX8_number_146 ?_
            have m93 : ((AB ad Fl28) 58 18) = (nI sa30) := AB_f hF30 rfl
            have hA94 := fN_of (k := 14) (a := at30) hF30 rfl (Nat.lt_of_le_of_lt hb30_5 (by decide))
            have hL94 := fN_of (k := 1) (a := ty30) hF30 rfl (Nat.lt_of_le_of_lt hb30_1 (by decide))
            refine r_cVi (As := [.int (nI 2), .int (nI sa30)]) (rest := []) S hK hZ hPl28 hSl28 hl28.1 58 (by decide) hF30 (C := RX8) rfl (c_X8_isWrong l D cA ad t hI Fl28 hWl28 (nI 2) (sa30) (by omega)) (cwV 2 S.2.2.2.2 gX8_number_X8_isWrong rfl rfl rfl (by decide +kernel) ⟨Nat.le_of_ble_eq_true rfl, Nat.le_of_ble_eq_true rfl⟩) rfl rfl (Nat.le_of_ble_eq_true rfl) ⟨Nat.zero_le _, Nat.zero_le _⟩ dX8_number_149 (fun r95 F95 H95 locs95 hr95 hP95 hS95 => ?_)
            obtain ⟨hW95, hFc95, hr95⟩ := hr95
            obtain ⟨hr95, hm95⟩ := hr95
            have hFr95 := hFl28.tr hFc95 (by simp <;> first | omega | (simp only [isC, isJ] at *; omega))
            obtain ⟨rfl, hz96⟩ := hr95
            obtain ⟨ty97, kn97, no97, en97, at97, sa97, sd97, wr97, pl97, va97, hF97, hb97_1, hb97_2, hb97_3, hb97_4, hb97_5, hb97_6⟩ := wt_m hW95
            have hA98 := fN_of (k := 14) (a := at97) hF97 rfl (Nat.lt_of_le_of_lt hb97_5 (by decide))
            have hL98 := fN_of (k := 1) (a := ty97) hF97 rfl (Nat.lt_of_le_of_lt hb97_1 (by decide))
            have mc99 : (m_X8_isWrong (AB ad Fl28) (nI 2) ((AB ad Fl28) 58 18)) = ((nI 0), AB ad F95) := (congr (congr (Eq.refl (m_X8_isWrong (AB ad Fl28))) (Eq.refl ((nI 2) : Int32))) m93).trans hm95
            have hE101 : M = m_X8_number_100 (m_X8_number_L42_28 n28) (AB ad F95) x28_4 r4 p1 p2 := hE29.trans ((show m_X8_number_L42_28_b (m_X8_number_L42_28 n28) (AB ad Fl28) x28_4 r4 p1 p2 = m_X8_number_100 (m_X8_number_L42_28 n28) ((m_X8_isWrong (AB ad Fl28) (nI 2) ((AB ad Fl28) 58 18))).2 x28_4 r4 p1 p2 from by unfold m_X8_number_L42_28_b; rw [if_neg (nle_cg m33 m32 c34), if_pos (eq_cg m88 rfl c89), if_pos (le_cg rfl rfl c91)]).trans (congr (congr (congr (congr (congrArg (m_X8_number_100 (m_X8_number_L42_28 n28)) (congrArg Prod.snd mc99)) (Eq.refl (x28_4 : Int32))) (Eq.refl (r4 : Int32))) (Eq.refl (p1 : Int32))) (Eq.refl (p2 : Int32))))
            refine lv_if_eq (tgt := 159) S.1 S.2.1 dX8_number_152 (by decide) (fun c102 => ?_) (fun c102 => absurd (by decide +kernel) c102)
            have k103 := ci_eq (nI_toInt (n := 0) (by decide)) z_ti c102
            refine lv_iconst (v := (nI 0)) S.1 S.2.1 dX8_number_159 (by decide +kernel) ?_
            have hA104 := fN_of (k := 14) (a := at97) hF97 rfl (Nat.lt_of_le_of_lt hb97_5 (by decide))
            have hL104 := fN_of (k := 1) (a := ty97) hF97 rfl (Nat.lt_of_le_of_lt hb97_1 (by decide))
            have hE105 : M = ((nI 0), AB ad F95) := hE101.trans ((show m_X8_number_100 (m_X8_number_L42_28 n28) (AB ad F95) x28_4 r4 p1 p2 = ((nI 0), (AB ad F95)) from rfl).trans (congrArg (fun q => (q, AB ad F95)) rfl))
            exact hret 160 _ _ _ _ _ dX8_number_160 rfl hP95 hS95 ⟨hW95, hFr95, ⟨⟨⟨0, by omega, rfl⟩, by omega, fun h => absurd rfl h, fun h => absurd rfl h⟩, hM.symm.trans hE105⟩⟩
          have k106 := ci_nle (nI_toInt (n := 5) (by decide)) rfl c91
          refine lv_aload_n S.1 S.2.1 dX8_number_131 rfl (lv_at hl28 2 rfl) ?_
          refine r_get S hK hPl28 58 (by decide) hF30 (C := RX8) (T := TX8) (N := 23) hiX8 rfl 17 (by decide) (am_at in_wsX8_number_0 2 rfl) (v := .int va30) rfl dX8_number_132 ?_
          have m107 : ((AB ad Fl28) 58 17) = va30 := AB_f hF30 rfl
          refine lv_iload_n S.1 S.2.1 dX8_number_135 rfl (lv_at hl28 3 rfl) ?_
          refine lv_iload_n S.1 S.2.1 dX8_number_136 rfl (lv_at hl28 4 rfl) ?_
          refine r_cSp (As := [.int va30, .int p1, .int p2]) (rest := []) S hK hZ hPl28 hSl28 hl28.1 (c_X8_in l D cA ad t hI Fl28 hWl28 va30 p1 p2) (va_cwS 3 S.2.2.2.2 gX8_number_X8_in rfl rfl rfl (by decide +kernel) ⟨Nat.le_of_ble_eq_true rfl, Nat.le_of_ble_eq_true rfl⟩) rfl rfl (Nat.le_of_ble_eq_true rfl) ⟨Nat.zero_le _, Nat.zero_le _⟩ dX8_number_137 (fun r108 hr108 => ?_)
          obtain ⟨hr108, hm108⟩ := hr108
          obtain ⟨⟨b109, hb109, rfl⟩, hx109, hz109⟩ := hr108
          have ta110 : (va30 : Int32).toInt = va30.toInt := rfl
          have ta111 : (p1 : Int32).toInt = p1.toInt := rfl
          have ta112 : (p2 : Int32).toInt = p2.toInt := rfl
          have hy109 : b109 ≠ 0 → p1.toInt ≤ va30.toInt ∧ va30.toInt ≤ p2.toInt := fun q => by have h9 := hx109 (nI_ne0 (by omega) (by omega)); omega
          have hu109 : b109 = 0 → va30.toInt < p1.toInt ∨ p2.toInt < va30.toInt := fun q => by have h9 := hz109 (by rw [q]; rfl); omega
          have m113 : (m_X8_in (AB ad Fl28) ((AB ad Fl28) 58 17) p1 p2) = (nI b109) := (congr (congr (congr (Eq.refl (m_X8_in (AB ad Fl28))) m107) (Eq.refl (p1 : Int32))) (Eq.refl (p2 : Int32))).trans hm108
          refine lv_if_ne (tgt := 155) S.1 S.2.1 dX8_number_140 (by decide) (fun c114 => ?_) (fun c114 => ?_)
          · skip
            have k115 := ci_ne (nI_toInt (n := b109) (Nat.lt_of_le_of_lt hb109 (by decide))) z_ti c114
            refine lv_iconst (v := (nI 1)) S.1 S.2.1 dX8_number_155 (by decide +kernel) ?_
            refine lv_goto (tgt := 160) S.1 S.2.1 dX8_number_156 (by decide) ?_
            have hA116 := fN_of (k := 14) (a := at30) hF30 rfl (Nat.lt_of_le_of_lt hb30_5 (by decide))
            have hL116 := fN_of (k := 1) (a := ty30) hF30 rfl (Nat.lt_of_le_of_lt hb30_1 (by decide))
            have hE117 : M = ((nI 1), AB ad Fl28) := hE29.trans ((show m_X8_number_L42_28_b (m_X8_number_L42_28 n28) (AB ad Fl28) x28_4 r4 p1 p2 = ((nI 1), (AB ad Fl28)) from by unfold m_X8_number_L42_28_b; rw [if_neg (nle_cg m33 m32 c34), if_pos (eq_cg m88 rfl c89), if_neg (nle_cg rfl rfl c91), if_neg (neq_cg m113 rfl c114)]).trans (congrArg (fun q => (q, AB ad Fl28)) rfl))
            exact hret 160 _ _ _ _ _ dX8_number_160 rfl hPl28 hSl28 ⟨hWl28, hFl28, ⟨⟨⟨1, by omega, rfl⟩, by omega, fun _ => by omega, fun _ => by rw [show fI (Fl28 58) 17 = va30 by unfold fI; rw [hF30]; rfl]; exact ⟨by omega, by omega⟩⟩, hM.symm.trans hE117⟩⟩
          have k118 := ci_eq (nI_toInt (n := b109) (Nat.lt_of_le_of_lt hb109 (by decide))) z_ti c114
          refine lv_aload_n S.1 S.2.1 dX8_number_143 rfl (lv_at hl28 2 rfl) ?_
          refine lv_iconst (v := (nI 2)) S.1 S.2.1 dX8_number_144 (by decide +kernel) ?_
          refine lv_aload_n S.1 S.2.1 dX8_number_145 rfl (lv_at hl28 2 rfl) ?_
          refine r_get S hK hPl28 58 (by decide) hF30 (C := RX8) (T := TX8) (N := 23) hiX8 rfl 18 (by decide) (am_at in_wsX8_number_0 1 rfl) (v := .int (nI sa30)) rfl dX8_number_146 ?_
          have m119 : ((AB ad Fl28) 58 18) = (nI sa30) := AB_f hF30 rfl
          have hA120 := fN_of (k := 14) (a := at30) hF30 rfl (Nat.lt_of_le_of_lt hb30_5 (by decide))
          have hL120 := fN_of (k := 1) (a := ty30) hF30 rfl (Nat.lt_of_le_of_lt hb30_1 (by decide))
          refine r_cVi (As := [.int (nI 2), .int (nI sa30)]) (rest := []) S hK hZ hPl28 hSl28 hl28.1 58 (by decide) hF30 (C := RX8) rfl (c_X8_isWrong l D cA ad t hI Fl28 hWl28 (nI 2) (sa30) (by omega)) (cwV 2 S.2.2.2.2 gX8_number_X8_isWrong rfl rfl rfl (by decide +kernel) ⟨Nat.le_of_ble_eq_true rfl, Nat.le_of_ble_eq_true rfl⟩) rfl rfl (Nat.le_of_ble_eq_true rfl) ⟨Nat.zero_le _, Nat.zero_le _⟩ dX8_number_149 (fun r121 F121 H121 locs121 hr121 hP121 hS121 => ?_)
          obtain ⟨hW121, hFc121, hr121⟩ := hr121
          obtain ⟨hr121, hm121⟩ := hr121
          have hFr121 := hFl28.tr hFc121 (by simp <;> first | omega | (simp only [isC, isJ] at *; omega))
          obtain ⟨rfl, hz122⟩ := hr121
          obtain ⟨ty123, kn123, no123, en123, at123, sa123, sd123, wr123, pl123, va123, hF123, hb123_1, hb123_2, hb123_3, hb123_4, hb123_5, hb123_6⟩ := wt_m hW121
          have hA124 := fN_of (k := 14) (a := at123) hF123 rfl (Nat.lt_of_le_of_lt hb123_5 (by decide))
          have hL124 := fN_of (k := 1) (a := ty123) hF123 rfl (Nat.lt_of_le_of_lt hb123_1 (by decide))
          have mc125 : (m_X8_isWrong (AB ad Fl28) (nI 2) ((AB ad Fl28) 58 18)) = ((nI 0), AB ad F121) := (congr (congr (Eq.refl (m_X8_isWrong (AB ad Fl28))) (Eq.refl ((nI 2) : Int32))) m119).trans hm121
          have hE127 : M = m_X8_number_126 (m_X8_number_L42_28 n28) (AB ad F121) x28_4 r4 p1 p2 := hE29.trans ((show m_X8_number_L42_28_b (m_X8_number_L42_28 n28) (AB ad Fl28) x28_4 r4 p1 p2 = m_X8_number_126 (m_X8_number_L42_28 n28) ((m_X8_isWrong (AB ad Fl28) (nI 2) ((AB ad Fl28) 58 18))).2 x28_4 r4 p1 p2 from by unfold m_X8_number_L42_28_b; rw [if_neg (nle_cg m33 m32 c34), if_pos (eq_cg m88 rfl c89), if_neg (nle_cg rfl rfl c91), if_pos (eq_cg m113 rfl c114)]).trans (congr (congr (congr (congr (congrArg (m_X8_number_126 (m_X8_number_L42_28 n28)) (congrArg Prod.snd mc125)) (Eq.refl (x28_4 : Int32))) (Eq.refl (r4 : Int32))) (Eq.refl (p1 : Int32))) (Eq.refl (p2 : Int32))))
          refine lv_if_eq (tgt := 159) S.1 S.2.1 dX8_number_152 (by decide) (fun c128 => ?_) (fun c128 => absurd (by decide +kernel) c128)
          have k129 := ci_eq (nI_toInt (n := 0) (by decide)) z_ti c128
          refine lv_iconst (v := (nI 0)) S.1 S.2.1 dX8_number_159 (by decide +kernel) ?_
          have hA130 := fN_of (k := 14) (a := at123) hF123 rfl (Nat.lt_of_le_of_lt hb123_5 (by decide))
          have hL130 := fN_of (k := 1) (a := ty123) hF123 rfl (Nat.lt_of_le_of_lt hb123_1 (by decide))
          have hE131 : M = ((nI 0), AB ad F121) := hE127.trans ((show m_X8_number_126 (m_X8_number_L42_28 n28) (AB ad F121) x28_4 r4 p1 p2 = ((nI 0), (AB ad F121)) from rfl).trans (congrArg (fun q => (q, AB ad F121)) rfl))
          exact hret 160 _ _ _ _ _ dX8_number_160 rfl hP121 hS121 ⟨hW121, hFr121, ⟨⟨⟨0, by omega, rfl⟩, by omega, fun h => absurd rfl h, fun h => absurd rfl h⟩, hM.symm.trans hE131⟩⟩
        have k132 := ci_ne (nI_toInt (n := b84) (Nat.lt_of_le_of_lt hb84 (by decide))) z_ti c89
        refine lv_aload_n S.1 S.2.1 dX8_number_72 rfl (lv_at hl28 2 rfl) ?_
        refine lv_iload S.1 S.2.1 dX8_number_73 (lv_at hl28 0 rfl) ?_
        refine lv_iconst (v := (nI 4)) S.1 S.2.1 dX8_number_75 (by decide +kernel) ?_
        refine lv_icmp_ge (tgt := 102) S.1 S.2.1 dX8_number_76 (by decide) (fun c133 => ?_) (fun c133 => ?_)
        · skip
          have k134 := ci_le (nI_toInt (n := 4) (by decide)) rfl c133
          refine lv_aload_n S.1 S.2.1 dX8_number_102 rfl (lv_at hl28 2 rfl) ?_
          refine r_get S hK hPl28 58 (by decide) hF30 (C := RX8) (T := TX8) (N := 23) hiX8 rfl 17 (by decide) (am_at in_wsX8_number_0 2 rfl) (v := .int va30) rfl dX8_number_103 ?_
          have m135 : ((AB ad Fl28) 58 17) = va30 := AB_f hF30 rfl
          refine r_put S hI hK hPl28 hSl28 58 (by decide) hF30 (C := RX8) (T := TX8) (N := 23) hiX8 tyX8_ok nmX8 rfl 17 (by decide) (am_at in_wsX8_number_0 2 rfl) rfl rfl rfl (Nat.le_of_ble_eq_true rfl) dX8_number_106 (fun F136 H136 locs136 eF136 hP136 hS136 => ?_)
          have hF136 : F136 58 = .inr (8, [.ref (ad 59), .int (nI ty30), .ref (ad 60), .ref (ad 61), .ref (ad 62), .ref (ad 63), .int (nI kn30), .ref (ad 64), .ref (ad 65), .int sd30, .ref (ad 66), .int (nI no30), .ref (ad 67), .int (nI en30), .int (nI at30), .int wr30, .int pl30, .int va30, .int (nI sa30), .ref (ad 68), .ref (ad 69), .ref (ad 70), .ref (ad 71)]) := by rw [eF136]; exact va_up_self _ _ _
          have hW136 := hWl28.up eF136 (ok_m ⟨ty30, kn30, no30, en30, at30, sa30, sd30, wr30, pl30, va30, rfl, by omega, by omega, by omega, by omega, by omega, by omega⟩)
          have hFr136 := hFl28.up eF136 (by simp <;> first | omega | (simp only [isC, isJ] at *; omega))
          have hE138 : M = m_X8_number_137 (m_X8_number_L42_28 n28) (AB ad F136) x28_4 r4 p1 p2 := hE29.trans ((show m_X8_number_L42_28_b (m_X8_number_L42_28 n28) (AB ad Fl28) x28_4 r4 p1 p2 = m_X8_number_137 (m_X8_number_L42_28 n28) (st (AB ad Fl28) 58 17 ((AB ad Fl28) 58 17)) x28_4 r4 p1 p2 from by unfold m_X8_number_L42_28_b; rw [if_neg (nle_cg m33 m32 c34), if_neg (neq_cg m88 rfl c89), if_pos (le_cg rfl rfl c133)]).trans (congr (congr (congr (congr (congrArg (m_X8_number_137 (m_X8_number_L42_28 n28)) ((st_cg rfl rfl m135).trans (AB_put hF30 (Nat.le_of_ble_eq_true rfl) eF136).symm)) (Eq.refl (x28_4 : Int32))) (Eq.refl (r4 : Int32))) (Eq.refl (p1 : Int32))) (Eq.refl (p2 : Int32))))
          obtain ⟨v139, e139⟩ : ∃ y : Int32, y = x28_4 + Int32.ofInt (1) := ⟨_, rfl⟩
          have m140 : (x28_4 + Int32.ofInt (1)) = v139 := (congrArg (fun q : Int32 => q + Int32.ofInt (1)) rfl).trans e139.symm
          refine lv_iinc (v := v139) (lv' := [(4, .int v139), (3, .int r4), (0, .ref (ad 58)), (1, .int p1), (2, .int p2)]) S.1 S.2.1 dX8_number_109 hl28 (k := 0) rfl e139.symm (by decide) rfl (fun ls139 hl139 => ?_)
          refine lv_aload_n S.1 S.2.1 dX8_number_112 rfl (lv_at hl139 2 rfl) ?_
          refine lv_dup S.1 S.2.1 dX8_number_113 rfl ?_
          refine r_get S hK hP136 58 (by decide) hF136 (C := RX8) (T := TX8) (N := 23) hiX8 rfl 14 (by decide) (am_at in_wsX8_number_0 0 rfl) (v := .int (nI at30)) rfl dX8_number_114 ?_
          have m141 : ((AB ad F136) 58 14) = (nI at30) := AB_f hF136 rfl
          refine lv_iconst (v := (nI 1)) S.1 S.2.1 dX8_number_117 (by decide +kernel) ?_
          refine lv_iadd S.1 S.2.1 dX8_number_118 ?_
          refine lv_topi (fun v142 e142 => ?_)
          obtain rfl : v142 = nI (at30 + 1) := e142.trans (nI_add _ _)
          have m143 : (((AB ad F136) 58 14) + (nI 1)) = (nI (at30 + 1)) := cg2 (fun (x : Int32) (y : Int32) => x + y) m141 (Eq.refl ((nI 1) : Int32)) e142
          refine r_put S hI hK hP136 hS136 58 (by decide) hF136 (C := RX8) (T := TX8) (N := 23) hiX8 tyX8_ok nmX8 rfl 14 (by decide) (am_at in_wsX8_number_0 0 rfl) rfl rfl rfl (Nat.le_of_ble_eq_true rfl) dX8_number_119 (fun F144 H144 locs144 eF144 hP144 hS144 => ?_)
          have hF144 : F144 58 = .inr (8, [.ref (ad 59), .int (nI ty30), .ref (ad 60), .ref (ad 61), .ref (ad 62), .ref (ad 63), .int (nI kn30), .ref (ad 64), .ref (ad 65), .int sd30, .ref (ad 66), .int (nI no30), .ref (ad 67), .int (nI en30), .int (nI (at30 + 1)), .int wr30, .int pl30, .int va30, .int (nI sa30), .ref (ad 68), .ref (ad 69), .ref (ad 70), .ref (ad 71)]) := by rw [eF144]; exact va_up_self _ _ _
          have hW144 := hW136.up eF144 (ok_m ⟨ty30, kn30, no30, en30, at30 + 1, sa30, sd30, wr30, pl30, va30, rfl, by omega, by omega, by omega, by omega, by omega, by omega⟩)
          have hFr144 := hFr136.up eF144 (by simp <;> first | omega | (simp only [isC, isJ] at *; omega))
          have hE146 : M = m_X8_number_145 (m_X8_number_L42_28 n28) (AB ad F144) v139 r4 p1 p2 := hE138.trans ((show m_X8_number_137 (m_X8_number_L42_28 n28) (AB ad F136) x28_4 r4 p1 p2 = m_X8_number_145 (m_X8_number_L42_28 n28) (st (AB ad F136) 58 14 (((AB ad F136) 58 14) + (nI 1))) (x28_4 + Int32.ofInt (1)) r4 p1 p2 from rfl).trans (congr (congr (congr (congr (congrArg (m_X8_number_145 (m_X8_number_L42_28 n28)) ((st_cg rfl rfl m143).trans (AB_put hF136 (Nat.le_of_ble_eq_true rfl) eF144).symm)) m140) (Eq.refl (r4 : Int32))) (Eq.refl (p1 : Int32))) (Eq.refl (p2 : Int32))))
          refine lv_goto (tgt := 42) S.1 S.2.1 dX8_number_122 (by decide) ?_
          have hA147 := fN_of (k := 14) (a := at30 + 1) hF144 rfl (by omega)
          have hL147 := fN_of (k := 1) (a := ty30) hF144 rfl (Nat.lt_of_le_of_lt hb30_1 (by decide))
          have hE148 : M = (m_X8_number_L42_28 n28) (AB ad F144) v139 r4 p1 p2 := hE146.trans ((show m_X8_number_145 (m_X8_number_L42_28 n28) (AB ad F144) v139 r4 p1 p2 = (m_X8_number_L42_28 n28) (AB ad F144) v139 r4 p1 p2 from rfl).trans (congr (congr (congr (congr (congrArg ((m_X8_number_L42_28 n28)) (rfl : AB ad F144 = AB ad F144)) (Eq.refl (v139 : Int32))) (Eq.refl (r4 : Int32))) (Eq.refl (p1 : Int32))) (Eq.refl (p2 : Int32))))
          exact ih28 (v139) F144 H144 locs144 (by omega) (by omega) hW144 hFr144 hP144 hS144 hE148 ls139 (lv_sub hl139 [0, 1, 2, 3, 4] rfl)
        have k149 := ci_nle (nI_toInt (n := 4) (by decide)) rfl c133
        refine lv_bipush (v := (nI 10)) S.1 S.2.1 dX8_number_79 (by decide +kernel) ?_
        refine lv_aload_n S.1 S.2.1 dX8_number_81 rfl (lv_at hl28 2 rfl) ?_
        refine r_get S hK hPl28 58 (by decide) hF30 (C := RX8) (T := TX8) (N := 23) hiX8 rfl 17 (by decide) (am_at in_wsX8_number_0 2 rfl) (v := .int va30) rfl dX8_number_82 ?_
        have m150 : ((AB ad Fl28) 58 17) = va30 := AB_f hF30 rfl
        refine lv_imul S.1 S.2.1 dX8_number_85 ?_
        refine lv_topi (fun v151 e151 => ?_)
        have m152 : ((nI 10) * ((AB ad Fl28) 58 17)) = v151 := cg2 (fun (x : Int32) (y : Int32) => x * y) (Eq.refl ((nI 10) : Int32)) m150 e151
        refine lv_aload_n S.1 S.2.1 dX8_number_86 rfl (lv_at hl28 2 rfl) ?_
        refine r_get S hK hPl28 58 (by decide) hF30 (C := RX8) (T := TX8) (N := 23) hiX8 rfl 0 (by decide) (am_at in_wsX8_number_0 4 rfl) (v := .ref (ad 59)) rfl dX8_number_87 ?_
        refine lv_aload_n S.1 S.2.1 dX8_number_90 rfl (lv_at hl28 2 rfl) ?_
        refine r_get S hK hPl28 58 (by decide) hF30 (C := RX8) (T := TX8) (N := 23) hiX8 rfl 14 (by decide) (am_at in_wsX8_number_0 0 rfl) (v := .int (nI at30)) rfl dX8_number_91 ?_
        have m153 : ((AB ad Fl28) 58 14) = (nI at30) := AB_f hF30 rfl
        refine r_iald S hK hPl28 59 (by decide) hF79 (vp_in_nI (show at30 < 240 by omega) (by omega)) dX8_number_94 ?_
        refine lv_topi (fun v155 e155 => ?_)
        have m156 : ((AB ad Fl28) 59 (rl ((AB ad Fl28) 58 14))) = v155 := (ab_cg rfl m153).trans ((AB_g hF79).trans e155.symm)
        refine lv_iadd S.1 S.2.1 dX8_number_95 ?_
        refine lv_topi (fun v157 e157 => ?_)
        have m158 : (((nI 10) * ((AB ad Fl28) 58 17)) + ((AB ad Fl28) 59 (rl ((AB ad Fl28) 58 14)))) = v157 := cg2 (fun (x : Int32) (y : Int32) => x + y) m152 m156 e157
        refine lv_bipush (v := (nI 48)) S.1 S.2.1 dX8_number_96 (by decide +kernel) ?_
        refine lv_isub S.1 S.2.1 dX8_number_98 ?_
        refine lv_topi (fun v159 e159 => ?_)
        have m160 : ((((nI 10) * ((AB ad Fl28) 58 17)) + ((AB ad Fl28) 59 (rl ((AB ad Fl28) 58 14)))) - (nI 48)) = v159 := cg2 (fun (x : Int32) (y : Int32) => x - y) m158 (Eq.refl ((nI 48) : Int32)) e159
        refine lv_goto (tgt := 106) S.1 S.2.1 dX8_number_99 (by decide) ?_
        refine r_put S hI hK hPl28 hSl28 58 (by decide) hF30 (C := RX8) (T := TX8) (N := 23) hiX8 tyX8_ok nmX8 rfl 17 (by decide) (am_at in_wsX8_number_0 2 rfl) rfl rfl rfl (Nat.le_of_ble_eq_true rfl) dX8_number_106 (fun F161 H161 locs161 eF161 hP161 hS161 => ?_)
        have hF161 : F161 58 = .inr (8, [.ref (ad 59), .int (nI ty30), .ref (ad 60), .ref (ad 61), .ref (ad 62), .ref (ad 63), .int (nI kn30), .ref (ad 64), .ref (ad 65), .int sd30, .ref (ad 66), .int (nI no30), .ref (ad 67), .int (nI en30), .int (nI at30), .int wr30, .int pl30, .int v159, .int (nI sa30), .ref (ad 68), .ref (ad 69), .ref (ad 70), .ref (ad 71)]) := by rw [eF161]; exact va_up_self _ _ _
        have hW161 := hWl28.up eF161 (ok_m ⟨ty30, kn30, no30, en30, at30, sa30, sd30, wr30, pl30, v159, rfl, by omega, by omega, by omega, by omega, by omega, by omega⟩)
        have hFr161 := hFl28.up eF161 (by simp <;> first | omega | (simp only [isC, isJ] at *; omega))
        have hE163 : M = m_X8_number_162 (m_X8_number_L42_28 n28) (AB ad F161) x28_4 r4 p1 p2 := hE29.trans ((show m_X8_number_L42_28_b (m_X8_number_L42_28 n28) (AB ad Fl28) x28_4 r4 p1 p2 = m_X8_number_162 (m_X8_number_L42_28 n28) (st (AB ad Fl28) 58 17 ((((nI 10) * ((AB ad Fl28) 58 17)) + ((AB ad Fl28) 59 (rl ((AB ad Fl28) 58 14)))) - (nI 48))) x28_4 r4 p1 p2 from by unfold m_X8_number_L42_28_b; rw [if_neg (nle_cg m33 m32 c34), if_neg (neq_cg m88 rfl c89), if_neg (nle_cg rfl rfl c133)]).trans (congr (congr (congr (congr (congrArg (m_X8_number_162 (m_X8_number_L42_28 n28)) ((st_cg rfl rfl m160).trans (AB_put hF30 (Nat.le_of_ble_eq_true rfl) eF161).symm)) (Eq.refl (x28_4 : Int32))) (Eq.refl (r4 : Int32))) (Eq.refl (p1 : Int32))) (Eq.refl (p2 : Int32))))
        obtain ⟨v164, e164⟩ : ∃ y : Int32, y = x28_4 + Int32.ofInt (1) := ⟨_, rfl⟩
        have m165 : (x28_4 + Int32.ofInt (1)) = v164 := (congrArg (fun q : Int32 => q + Int32.ofInt (1)) rfl).trans e164.symm
        refine lv_iinc (v := v164) (lv' := [(4, .int v164), (3, .int r4), (0, .ref (ad 58)), (1, .int p1), (2, .int p2)]) S.1 S.2.1 dX8_number_109 hl28 (k := 0) rfl e164.symm (by decide) rfl (fun ls164 hl164 => ?_)
        refine lv_aload_n S.1 S.2.1 dX8_number_112 rfl (lv_at hl164 2 rfl) ?_
        refine lv_dup S.1 S.2.1 dX8_number_113 rfl ?_
        refine r_get S hK hP161 58 (by decide) hF161 (C := RX8) (T := TX8) (N := 23) hiX8 rfl 14 (by decide) (am_at in_wsX8_number_0 0 rfl) (v := .int (nI at30)) rfl dX8_number_114 ?_
        have m166 : ((AB ad F161) 58 14) = (nI at30) := AB_f hF161 rfl
        refine lv_iconst (v := (nI 1)) S.1 S.2.1 dX8_number_117 (by decide +kernel) ?_
        refine lv_iadd S.1 S.2.1 dX8_number_118 ?_
        refine lv_topi (fun v167 e167 => ?_)
        obtain rfl : v167 = nI (at30 + 1) := e167.trans (nI_add _ _)
        have m168 : (((AB ad F161) 58 14) + (nI 1)) = (nI (at30 + 1)) := cg2 (fun (x : Int32) (y : Int32) => x + y) m166 (Eq.refl ((nI 1) : Int32)) e167
        refine r_put S hI hK hP161 hS161 58 (by decide) hF161 (C := RX8) (T := TX8) (N := 23) hiX8 tyX8_ok nmX8 rfl 14 (by decide) (am_at in_wsX8_number_0 0 rfl) rfl rfl rfl (Nat.le_of_ble_eq_true rfl) dX8_number_119 (fun F169 H169 locs169 eF169 hP169 hS169 => ?_)
        have hF169 : F169 58 = .inr (8, [.ref (ad 59), .int (nI ty30), .ref (ad 60), .ref (ad 61), .ref (ad 62), .ref (ad 63), .int (nI kn30), .ref (ad 64), .ref (ad 65), .int sd30, .ref (ad 66), .int (nI no30), .ref (ad 67), .int (nI en30), .int (nI (at30 + 1)), .int wr30, .int pl30, .int v159, .int (nI sa30), .ref (ad 68), .ref (ad 69), .ref (ad 70), .ref (ad 71)]) := by rw [eF169]; exact va_up_self _ _ _
        have hW169 := hW161.up eF169 (ok_m ⟨ty30, kn30, no30, en30, at30 + 1, sa30, sd30, wr30, pl30, v159, rfl, by omega, by omega, by omega, by omega, by omega, by omega⟩)
        have hFr169 := hFr161.up eF169 (by simp <;> first | omega | (simp only [isC, isJ] at *; omega))
        have hE171 : M = m_X8_number_170 (m_X8_number_L42_28 n28) (AB ad F169) v164 r4 p1 p2 := hE163.trans ((show m_X8_number_162 (m_X8_number_L42_28 n28) (AB ad F161) x28_4 r4 p1 p2 = m_X8_number_170 (m_X8_number_L42_28 n28) (st (AB ad F161) 58 14 (((AB ad F161) 58 14) + (nI 1))) (x28_4 + Int32.ofInt (1)) r4 p1 p2 from rfl).trans (congr (congr (congr (congr (congrArg (m_X8_number_170 (m_X8_number_L42_28 n28)) ((st_cg rfl rfl m168).trans (AB_put hF161 (Nat.le_of_ble_eq_true rfl) eF169).symm)) m165) (Eq.refl (r4 : Int32))) (Eq.refl (p1 : Int32))) (Eq.refl (p2 : Int32))))
        refine lv_goto (tgt := 42) S.1 S.2.1 dX8_number_122 (by decide) ?_
        have hA172 := fN_of (k := 14) (a := at30 + 1) hF169 rfl (by omega)
        have hL172 := fN_of (k := 1) (a := ty30) hF169 rfl (Nat.lt_of_le_of_lt hb30_1 (by decide))
        have hE173 : M = (m_X8_number_L42_28 n28) (AB ad F169) v164 r4 p1 p2 := hE171.trans ((show m_X8_number_170 (m_X8_number_L42_28 n28) (AB ad F169) v164 r4 p1 p2 = (m_X8_number_L42_28 n28) (AB ad F169) v164 r4 p1 p2 from rfl).trans (congr (congr (congr (congr (congrArg ((m_X8_number_L42_28 n28)) (rfl : AB ad F169 = AB ad F169)) (Eq.refl (v164 : Int32))) (Eq.refl (r4 : Int32))) (Eq.refl (p1 : Int32))) (Eq.refl (p2 : Int32))))
        exact ih28 (v164) F169 H169 locs169 (by omega) (by omega) hW169 hFr169 hP169 hS169 hE173 ls164 (lv_sub hl164 [0, 1, 2, 3, 4] rfl)
    have hA174 := fN_of (k := 14) (a := at6) hF25 rfl (Nat.lt_of_le_of_lt hb6_5 (by decide))
    have hL174 := fN_of (k := 1) (a := ty6) hF25 rfl (Nat.lt_of_le_of_lt hb6_1 (by decide))
    have hE175 : M = m_X8_number_L42_28 2000 (AB ad F25) (nI 0) r4 p1 p2 := hE27.trans ((show m_X8_number_26 (AB ad F25) r4 p1 p2 = m_X8_number_L42_28 2000 (AB ad F25) (nI 0) r4 p1 p2 from rfl).trans (congr (congr (congr (congr (congrArg (m_X8_number_L42_28 2000) (rfl : AB ad F25 = AB ad F25)) (Eq.refl ((nI 0) : Int32))) (Eq.refl (r4 : Int32))) (Eq.refl (p1 : Int32))) (Eq.refl (p2 : Int32))))
    exact lp28 2000 ((nI 0)) F25 H25 locs25 (by omega) (by omega) hW25 hFr25 hP25 hS25 hE175 ls24 (lv_sub hl24 [0, 1, 2, 3, 4] rfl)
  have k176 := ci_eq (nI_toInt (n := b17) (Nat.lt_of_le_of_lt hb17 (by decide))) z_ti c22
  refine lv_aload_n S.1 S.2.1 dX8_number_24 rfl (lv_at hl11 1 rfl) ?_
  refine lv_iconst (v := (nI 1)) S.1 S.2.1 dX8_number_25 (by decide +kernel) ?_
  refine lv_aload_n S.1 S.2.1 dX8_number_26 rfl (lv_at hl11 1 rfl) ?_
  refine r_get S hK hP13 58 (by decide) hF13 (C := RX8) (T := TX8) (N := 23) hiX8 rfl 14 (by decide) (am_at in_wsX8_number_0 0 rfl) (v := .int (nI at6)) rfl dX8_number_27 ?_
  have m177 : ((AB ad F13) 58 14) = (nI at6) := AB_f hF13 rfl
  have hA178 := fN_of (k := 14) (a := at6) hF13 rfl (Nat.lt_of_le_of_lt hb6_5 (by decide))
  have hL178 := fN_of (k := 1) (a := ty6) hF13 rfl (Nat.lt_of_le_of_lt hb6_1 (by decide))
  refine r_cVi (As := [.int (nI 1), .int (nI at6)]) (rest := []) S hK hZ hP13 hS13 hl11.1 58 (by decide) hF13 (C := RX8) rfl (c_X8_isWrong l D cA ad t hI F13 hW13 (nI 1) (at6) (by omega)) (cwV 2 S.2.2.2.2 gX8_number_X8_isWrong rfl rfl rfl (by decide +kernel) ⟨Nat.le_of_ble_eq_true rfl, Nat.le_of_ble_eq_true rfl⟩) rfl rfl (Nat.le_of_ble_eq_true rfl) ⟨Nat.zero_le _, Nat.zero_le _⟩ dX8_number_30 (fun r179 F179 H179 locs179 hr179 hP179 hS179 => ?_)
  obtain ⟨hW179, hFc179, hr179⟩ := hr179
  obtain ⟨hr179, hm179⟩ := hr179
  have hFr179 := hFr13.tr hFc179 (by simp <;> first | omega | (simp only [isC, isJ] at *; omega))
  obtain ⟨rfl, hz180⟩ := hr179
  obtain ⟨ty181, kn181, no181, en181, at181, sa181, sd181, wr181, pl181, va181, hF181, hb181_1, hb181_2, hb181_3, hb181_4, hb181_5, hb181_6⟩ := wt_m hW179
  have hA182 := fN_of (k := 14) (a := at181) hF181 rfl (Nat.lt_of_le_of_lt hb181_5 (by decide))
  have hL182 := fN_of (k := 1) (a := ty181) hF181 rfl (Nat.lt_of_le_of_lt hb181_1 (by decide))
  have mc183 : (m_X8_isWrong (AB ad F13) (nI 1) ((AB ad F13) 58 14)) = ((nI 0), AB ad F179) := (congr (congr (Eq.refl (m_X8_isWrong (AB ad F13))) (Eq.refl ((nI 1) : Int32))) m177).trans hm179
  have hE185 : M = m_X8_number_184 (AB ad F179) r4 p1 p2 := hE15.trans ((show m_X8_number_14 (AB ad F13) r4 p1 p2 = m_X8_number_184 ((m_X8_isWrong (AB ad F13) (nI 1) ((AB ad F13) 58 14))).2 r4 p1 p2 from by unfold m_X8_number_14; rw [if_pos (eq_cg m21 rfl c22)]).trans (congr (congr (congr (congrArg (m_X8_number_184) (congrArg Prod.snd mc183)) (Eq.refl (r4 : Int32))) (Eq.refl (p1 : Int32))) (Eq.refl (p2 : Int32))))
  have hA186 := fN_of (k := 14) (a := at181) hF181 rfl (Nat.lt_of_le_of_lt hb181_5 (by decide))
  have hL186 := fN_of (k := 1) (a := ty181) hF181 rfl (Nat.lt_of_le_of_lt hb181_1 (by decide))
  have hE187 : M = ((nI 0), AB ad F179) := hE185.trans ((show m_X8_number_184 (AB ad F179) r4 p1 p2 = ((nI 0), (AB ad F179)) from rfl).trans (congrArg (fun q => (q, AB ad F179)) rfl))
  exact hret 33 _ _ _ _ _ dX8_number_33 rfl hP179 hS179 ⟨hW179, hFr179, ⟨⟨⟨0, by omega, rfl⟩, by omega, fun h => absurd rfl h, fun h => absurd rfl h⟩, hM.symm.trans hE187⟩⟩
noncomputable def m_X8_ends_29 (σ : SS) : Int32 × SS :=
  ((nI 0), σ)
noncomputable def m_X8_ends_17 (σ : SS) : Int32 × SS :=
  ((nI 1), σ)
noncomputable def m_X8_ends_9 (σ : SS) (a0 : Int32) : Int32 × SS :=
  if a0 = (nI 59) then
    m_X8_ends_17 (st σ 58 14 ((σ 58 14) + (nI 1)))
  else
    m_X8_ends_29 ((m_X8_isWrong σ (nI 1) (σ 58 14))).2
noncomputable def m_X8_ends (σ : SS) : Int32 × SS :=
  m_X8_ends_9 ((m_X8_letter σ)).2 ((m_X8_letter σ)).1
set_option maxHeartbeats 4000000 in
set_option maxRecDepth 100000 in
theorem c_X8_ends (l : Launch) (D : va_G) (cA ad : Nat → Nat) (t : Nat) (hI : rI ad) (F : Nat → va_E) (hW : WT cA ad F) : MI l D cA ad t yX8_ends wsX8_ends { frames := 1, cells := 0, slots := 0, locals := 22 } [.ref (ad 58)] F (fun r F' => WT cA ad F' ∧ rFr [58] F F' ∧ ((le32 1 r ∧ fN (F' 58) 1 = fN (F 58) 1 ∧ (r ≠ 0 → fN (F 58) 14 ≤ fN (F' 58) 14)) ∧ m_X8_ends (AB ad F) = (r, AB ad F'))) := by
  refine en_I rfl (by decide +kernel) (Nat.le_of_ble_eq_true rfl) ?_
  intro p e s m args below meth c ls0 Q S hK hZ hP hS hl0 hret
  have hl0 : lv_has ls0 1 [(0, .ref (ad 58))] := hl0
  have hFr : rFr [58] F F := rFr.rf
  have hiX8 : ∀ w ∈ u_ws RX8 TX8 23, w ∈ wsX8_ends := in_wsX8_ends_1
  obtain ⟨M, hM⟩ : ∃ M, M = m_X8_ends (AB ad F) := ⟨_, rfl⟩
  obtain ⟨ty1, kn1, no1, en1, at1, sa1, sd1, wr1, pl1, va1, hF1, hb1_1, hb1_2, hb1_3, hb1_4, hb1_5, hb1_6⟩ := wt_m hW
  have hA2 := fN_of (k := 14) (a := at1) hF1 rfl (Nat.lt_of_le_of_lt hb1_5 (by decide))
  have hL2 := fN_of (k := 1) (a := ty1) hF1 rfl (Nat.lt_of_le_of_lt hb1_1 (by decide))
  refine lv_aload_n S.1 S.2.1 dX8_ends_0 rfl (lv_at hl0 0 rfl) ?_
  have hA3 := fN_of (k := 14) (a := at1) hF1 rfl (Nat.lt_of_le_of_lt hb1_5 (by decide))
  have hL3 := fN_of (k := 1) (a := ty1) hF1 rfl (Nat.lt_of_le_of_lt hb1_1 (by decide))
  refine r_cVi (As := []) (rest := []) S hK hZ hP hS hl0.1 58 (by decide) hF1 (C := RX8) rfl (c_X8_letter l D cA ad t hI F hW ) (cwV 0 S.2.2.2.2 gX8_ends_X8_letter rfl rfl rfl (by decide +kernel) ⟨Nat.le_of_ble_eq_true rfl, Nat.le_of_ble_eq_true rfl⟩) rfl rfl (Nat.le_of_ble_eq_true rfl) ⟨Nat.zero_le _, Nat.zero_le _⟩ dX8_ends_1 (fun r4 F4 H4 locs4 hr4 hP4 hS4 => ?_)
  obtain ⟨hW4, hFc4, hr4⟩ := hr4
  obtain ⟨hr4, hm4⟩ := hr4
  have hFr4 := hFr.tr hFc4 (by simp <;> first | omega | (simp only [isC, isJ] at *; omega))
  obtain ⟨hx5, hy5, hz5⟩ := hr4
  obtain ⟨ty6, kn6, no6, en6, at6, sa6, sd6, wr6, pl6, va6, hF6, hb6_1, hb6_2, hb6_3, hb6_4, hb6_5, hb6_6⟩ := wt_m hW4
  have hA7 := fN_of (k := 14) (a := at6) hF6 rfl (Nat.lt_of_le_of_lt hb6_5 (by decide))
  have hL7 := fN_of (k := 1) (a := ty6) hF6 rfl (Nat.lt_of_le_of_lt hb6_1 (by decide))
  have mc8 : (m_X8_letter (AB ad F)) = (r4, AB ad F4) := (Eq.refl (m_X8_letter (AB ad F))).trans hm4
  have hE10 : M = m_X8_ends_9 (AB ad F4) r4 := hM.trans ((show m_X8_ends (AB ad F) = m_X8_ends_9 ((m_X8_letter (AB ad F))).2 ((m_X8_letter (AB ad F))).1 from rfl).trans (congr (congrArg (m_X8_ends_9) (congrArg Prod.snd mc8)) (congrArg Prod.fst mc8)))
  refine lv_bipush (v := (nI 59)) S.1 S.2.1 dX8_ends_4 (by decide +kernel) ?_
  refine lv_icmp_eq (tgt := 19) S.1 S.2.1 dX8_ends_6 (by decide) (fun c11 => ?_) (fun c11 => ?_)
  · skip
    have k12 := ci_eq rfl (nI_toInt (n := 59) (by decide)) c11
    refine lv_aload_n S.1 S.2.1 dX8_ends_19 rfl (lv_at hl0 0 rfl) ?_
    refine lv_dup S.1 S.2.1 dX8_ends_20 rfl ?_
    refine r_get S hK hP4 58 (by decide) hF6 (C := RX8) (T := TX8) (N := 23) hiX8 rfl 14 (by decide) (am_at in_wsX8_ends_0 0 rfl) (v := .int (nI at6)) rfl dX8_ends_21 ?_
    have m13 : ((AB ad F4) 58 14) = (nI at6) := AB_f hF6 rfl
    refine lv_iconst (v := (nI 1)) S.1 S.2.1 dX8_ends_24 (by decide +kernel) ?_
    refine lv_iadd S.1 S.2.1 dX8_ends_25 ?_
    refine lv_topi (fun v14 e14 => ?_)
    obtain rfl : v14 = nI (at6 + 1) := e14.trans (nI_add _ _)
    have m15 : (((AB ad F4) 58 14) + (nI 1)) = (nI (at6 + 1)) := cg2 (fun (x : Int32) (y : Int32) => x + y) m13 (Eq.refl ((nI 1) : Int32)) e14
    refine r_put S hI hK hP4 hS4 58 (by decide) hF6 (C := RX8) (T := TX8) (N := 23) hiX8 tyX8_ok nmX8 rfl 14 (by decide) (am_at in_wsX8_ends_0 0 rfl) rfl rfl rfl (Nat.le_of_ble_eq_true rfl) dX8_ends_26 (fun F16 H16 locs16 eF16 hP16 hS16 => ?_)
    have hF16 : F16 58 = .inr (8, [.ref (ad 59), .int (nI ty6), .ref (ad 60), .ref (ad 61), .ref (ad 62), .ref (ad 63), .int (nI kn6), .ref (ad 64), .ref (ad 65), .int sd6, .ref (ad 66), .int (nI no6), .ref (ad 67), .int (nI en6), .int (nI (at6 + 1)), .int wr6, .int pl6, .int va6, .int (nI sa6), .ref (ad 68), .ref (ad 69), .ref (ad 70), .ref (ad 71)]) := by rw [eF16]; exact va_up_self _ _ _
    have hW16 := hW4.up eF16 (ok_m ⟨ty6, kn6, no6, en6, at6 + 1, sa6, sd6, wr6, pl6, va6, rfl, by omega, by omega, by omega, by omega, by omega, by omega⟩)
    have hFr16 := hFr4.up eF16 (by simp <;> first | omega | (simp only [isC, isJ] at *; omega))
    have hE18 : M = m_X8_ends_17 (AB ad F16) := hE10.trans ((show m_X8_ends_9 (AB ad F4) r4 = m_X8_ends_17 (st (AB ad F4) 58 14 (((AB ad F4) 58 14) + (nI 1))) from by unfold m_X8_ends_9; rw [if_pos (eq_cg rfl rfl c11)]).trans (congrArg (m_X8_ends_17) ((st_cg rfl rfl m15).trans (AB_put hF6 (Nat.le_of_ble_eq_true rfl) eF16).symm)))
    refine lv_iconst (v := (nI 1)) S.1 S.2.1 dX8_ends_29 (by decide +kernel) ?_
    have hA19 := fN_of (k := 14) (a := at6 + 1) hF16 rfl (by omega)
    have hL19 := fN_of (k := 1) (a := ty6) hF16 rfl (Nat.lt_of_le_of_lt hb6_1 (by decide))
    have hE20 : M = ((nI 1), AB ad F16) := hE18.trans ((show m_X8_ends_17 (AB ad F16) = ((nI 1), (AB ad F16)) from rfl).trans (congrArg (fun q => (q, AB ad F16)) rfl))
    exact hret 30 _ _ _ _ _ dX8_ends_30 rfl hP16 hS16 ⟨hW16, hFr16, ⟨⟨⟨1, by omega, rfl⟩, by omega, fun _ => by omega⟩, hM.symm.trans hE20⟩⟩
  have k21 := ci_ne rfl (nI_toInt (n := 59) (by decide)) c11
  refine lv_aload_n S.1 S.2.1 dX8_ends_9 rfl (lv_at hl0 0 rfl) ?_
  refine lv_iconst (v := (nI 1)) S.1 S.2.1 dX8_ends_10 (by decide +kernel) ?_
  refine lv_aload_n S.1 S.2.1 dX8_ends_11 rfl (lv_at hl0 0 rfl) ?_
  refine r_get S hK hP4 58 (by decide) hF6 (C := RX8) (T := TX8) (N := 23) hiX8 rfl 14 (by decide) (am_at in_wsX8_ends_0 0 rfl) (v := .int (nI at6)) rfl dX8_ends_12 ?_
  have m22 : ((AB ad F4) 58 14) = (nI at6) := AB_f hF6 rfl
  have hA23 := fN_of (k := 14) (a := at6) hF6 rfl (Nat.lt_of_le_of_lt hb6_5 (by decide))
  have hL23 := fN_of (k := 1) (a := ty6) hF6 rfl (Nat.lt_of_le_of_lt hb6_1 (by decide))
  refine r_cVi (As := [.int (nI 1), .int (nI at6)]) (rest := []) S hK hZ hP4 hS4 hl0.1 58 (by decide) hF6 (C := RX8) rfl (c_X8_isWrong l D cA ad t hI F4 hW4 (nI 1) (at6) (by omega)) (cwV 2 S.2.2.2.2 gX8_ends_X8_isWrong rfl rfl rfl (by decide +kernel) ⟨Nat.le_of_ble_eq_true rfl, Nat.le_of_ble_eq_true rfl⟩) rfl rfl (Nat.le_of_ble_eq_true rfl) ⟨Nat.zero_le _, Nat.zero_le _⟩ dX8_ends_15 (fun r24 F24 H24 locs24 hr24 hP24 hS24 => ?_)
  obtain ⟨hW24, hFc24, hr24⟩ := hr24
  obtain ⟨hr24, hm24⟩ := hr24
  have hFr24 := hFr4.tr hFc24 (by simp <;> first | omega | (simp only [isC, isJ] at *; omega))
  obtain ⟨rfl, hz25⟩ := hr24
  obtain ⟨ty26, kn26, no26, en26, at26, sa26, sd26, wr26, pl26, va26, hF26, hb26_1, hb26_2, hb26_3, hb26_4, hb26_5, hb26_6⟩ := wt_m hW24
  have hA27 := fN_of (k := 14) (a := at26) hF26 rfl (Nat.lt_of_le_of_lt hb26_5 (by decide))
  have hL27 := fN_of (k := 1) (a := ty26) hF26 rfl (Nat.lt_of_le_of_lt hb26_1 (by decide))
  have mc28 : (m_X8_isWrong (AB ad F4) (nI 1) ((AB ad F4) 58 14)) = ((nI 0), AB ad F24) := (congr (congr (Eq.refl (m_X8_isWrong (AB ad F4))) (Eq.refl ((nI 1) : Int32))) m22).trans hm24
  have hE30 : M = m_X8_ends_29 (AB ad F24) := hE10.trans ((show m_X8_ends_9 (AB ad F4) r4 = m_X8_ends_29 ((m_X8_isWrong (AB ad F4) (nI 1) ((AB ad F4) 58 14))).2 from by unfold m_X8_ends_9; rw [if_neg (neq_cg rfl rfl c11)]).trans (congrArg (m_X8_ends_29) (congrArg Prod.snd mc28)))
  have hA31 := fN_of (k := 14) (a := at26) hF26 rfl (Nat.lt_of_le_of_lt hb26_5 (by decide))
  have hL31 := fN_of (k := 1) (a := ty26) hF26 rfl (Nat.lt_of_le_of_lt hb26_1 (by decide))
  have hE32 : M = ((nI 0), AB ad F24) := hE30.trans ((show m_X8_ends_29 (AB ad F24) = ((nI 0), (AB ad F24)) from rfl).trans (congrArg (fun q => (q, AB ad F24)) rfl))
  exact hret 18 _ _ _ _ _ dX8_ends_18 rfl hP24 hS24 ⟨hW24, hFr24, ⟨⟨⟨0, by omega, rfl⟩, by omega, fun h => absurd rfl h⟩, hM.symm.trans hE32⟩⟩
noncomputable def m_X8_readsStay_45 (σ : SS) (a0 : Int32) : Int32 × SS :=
  (a0, σ)
noncomputable def m_X8_readsStay_36 (σ : SS) : Int32 × SS :=
  m_X8_readsStay_45 ((m_X8_ends σ)).2 ((m_X8_ends σ)).1
noncomputable def m_X8_readsStay_29 (σ : SS) (a0 : Int32) : Int32 × SS :=
  if a0 = (0 : Int32) then
    ((nI 0), σ)
  else
    m_X8_readsStay_36 (st σ 61 (rl (nI 1)) (σ 58 17))
noncomputable def m_X8_readsStay_18 (σ : SS) : Int32 × SS :=
  m_X8_readsStay_29 ((m_X8_number σ (nI 0) (nI 11))).2 ((m_X8_number σ (nI 0) (nI 11))).1
noncomputable def m_X8_readsStay_11 (σ : SS) (a0 : Int32) : Int32 × SS :=
  if a0 = (0 : Int32) then
    ((nI 0), σ)
  else
    m_X8_readsStay_18 (st σ 61 (rl (nI 0)) (σ 58 17))
noncomputable def m_X8_readsStay (σ : SS) : Int32 × SS :=
  m_X8_readsStay_11 ((m_X8_number σ (nI 1) (nI 4))).2 ((m_X8_number σ (nI 1) (nI 4))).1
set_option maxHeartbeats 4000000 in
set_option maxRecDepth 100000 in
theorem c_X8_readsStay (l : Launch) (D : va_G) (cA ad : Nat → Nat) (t : Nat) (hI : rI ad) (F : Nat → va_E) (hW : WT cA ad F) : MI l D cA ad t yX8_readsStay wsX8_readsStay { frames := 2, cells := 0, slots := 0, locals := 46 } [.ref (ad 58)] F (fun r F' => WT cA ad F' ∧ rFr [58, 61] F F' ∧ ((le32 1 r ∧ fN (F' 58) 1 = fN (F 58) 1 ∧ (r ≠ 0 → fN (F 58) 14 ≤ fN (F' 58) 14)) ∧ m_X8_readsStay (AB ad F) = (r, AB ad F'))) := by
  refine en_I rfl (by decide +kernel) (Nat.le_of_ble_eq_true rfl) ?_
  intro p e s m args below meth c ls0 Q S hK hZ hP hS hl0 hret
  have hl0 : lv_has ls0 1 [(0, .ref (ad 58))] := hl0
  have hFr : rFr [58, 61] F F := rFr.rf
  have hiX8 : ∀ w ∈ u_ws RX8 TX8 23, w ∈ wsX8_readsStay := in_wsX8_readsStay_2
  obtain ⟨M, hM⟩ : ∃ M, M = m_X8_readsStay (AB ad F) := ⟨_, rfl⟩
  obtain ⟨ty1, kn1, no1, en1, at1, sa1, sd1, wr1, pl1, va1, hF1, hb1_1, hb1_2, hb1_3, hb1_4, hb1_5, hb1_6⟩ := wt_m hW
  have hA2 := fN_of (k := 14) (a := at1) hF1 rfl (Nat.lt_of_le_of_lt hb1_5 (by decide))
  have hL2 := fN_of (k := 1) (a := ty1) hF1 rfl (Nat.lt_of_le_of_lt hb1_1 (by decide))
  refine lv_aload_n S.1 S.2.1 dX8_readsStay_0 rfl (lv_at hl0 0 rfl) ?_
  refine lv_iconst (v := (nI 1)) S.1 S.2.1 dX8_readsStay_1 (by decide +kernel) ?_
  refine lv_iconst (v := (nI 4)) S.1 S.2.1 dX8_readsStay_2 (by decide +kernel) ?_
  have hA3 := fN_of (k := 14) (a := at1) hF1 rfl (Nat.lt_of_le_of_lt hb1_5 (by decide))
  have hL3 := fN_of (k := 1) (a := ty1) hF1 rfl (Nat.lt_of_le_of_lt hb1_1 (by decide))
  refine r_cVi (As := [.int (nI 1), .int (nI 4)]) (rest := []) S hK hZ hP hS hl0.1 58 (by decide) hF1 (C := RX8) rfl (c_X8_number l D cA ad t hI F hW (nI 1) (nI 4)) (cwV 2 S.2.2.2.2 gX8_readsStay_X8_number rfl rfl rfl (by decide +kernel) ⟨Nat.le_of_ble_eq_true rfl, Nat.le_of_ble_eq_true rfl⟩) rfl rfl (Nat.le_of_ble_eq_true rfl) ⟨Nat.zero_le _, Nat.zero_le _⟩ dX8_readsStay_3 (fun r4 F4 H4 locs4 hr4 hP4 hS4 => ?_)
  obtain ⟨hW4, hFc4, hr4⟩ := hr4
  obtain ⟨hr4, hm4⟩ := hr4
  have hFr4 := hFr.tr hFc4 (by simp <;> first | omega | (simp only [isC, isJ] at *; omega))
  obtain ⟨⟨b5, hb5, rfl⟩, hz5, hx5, hv5⟩ := hr4
  obtain ⟨ty6, kn6, no6, en6, at6, sa6, sd6, wr6, pl6, va6, hF6, hb6_1, hb6_2, hb6_3, hb6_4, hb6_5, hb6_6⟩ := wt_m hW4
  have hA7 := fN_of (k := 14) (a := at6) hF6 rfl (Nat.lt_of_le_of_lt hb6_5 (by decide))
  have hL7 := fN_of (k := 1) (a := ty6) hF6 rfl (Nat.lt_of_le_of_lt hb6_1 (by decide))
  have ta8 : ((nI 1) : Int32).toInt = ((1 : Nat) : Int) := (nI_toInt (n := 1) (by decide))
  have ta9 : ((nI 4) : Int32).toInt = ((4 : Nat) : Int) := (nI_toInt (n := 4) (by decide))
  have hy5 : b5 ≠ 0 → _ := fun q => hx5 (nI_ne0 (by omega) (by omega))
  have hw5 : b5 ≠ 0 → ((1 : Nat) : Int) ≤ va6.toInt ∧ va6.toInt ≤ ((4 : Nat) : Int) := fun q => by have h9 := hv5 (nI_ne0 (by omega) (by omega)); rw [show fI (F4 58) 17 = va6 by unfold fI; rw [hF6]; rfl] at h9; omega
  have mc10 : (m_X8_number (AB ad F) (nI 1) (nI 4)) = ((nI b5), AB ad F4) := (congr (congr (Eq.refl (m_X8_number (AB ad F))) (Eq.refl ((nI 1) : Int32))) (Eq.refl ((nI 4) : Int32))).trans hm4
  have hE12 : M = m_X8_readsStay_11 (AB ad F4) (nI b5) := hM.trans ((show m_X8_readsStay (AB ad F) = m_X8_readsStay_11 ((m_X8_number (AB ad F) (nI 1) (nI 4))).2 ((m_X8_number (AB ad F) (nI 1) (nI 4))).1 from rfl).trans (congr (congrArg (m_X8_readsStay_11) (congrArg Prod.snd mc10)) (congrArg Prod.fst mc10)))
  refine lv_if_ne (tgt := 11) S.1 S.2.1 dX8_readsStay_6 (by decide) (fun c13 => ?_) (fun c13 => ?_)
  · skip
    have k14 := ci_ne (nI_toInt (n := b5) (Nat.lt_of_le_of_lt hb5 (by decide))) z_ti c13
    refine lv_aload_n S.1 S.2.1 dX8_readsStay_11 rfl (lv_at hl0 0 rfl) ?_
    refine r_get S hK hP4 58 (by decide) hF6 (C := RX8) (T := TX8) (N := 23) hiX8 rfl 3 (by decide) (am_at in_wsX8_readsStay_0 0 rfl) (v := .ref (ad 61)) rfl dX8_readsStay_12 ?_
    refine lv_iconst (v := (nI 0)) S.1 S.2.1 dX8_readsStay_15 (by decide +kernel) ?_
    refine lv_aload_n S.1 S.2.1 dX8_readsStay_16 rfl (lv_at hl0 0 rfl) ?_
    refine r_get S hK hP4 58 (by decide) hF6 (C := RX8) (T := TX8) (N := 23) hiX8 rfl 17 (by decide) (am_at in_wsX8_readsStay_0 1 rfl) (v := .int va6) rfl dX8_readsStay_17 ?_
    have m15 : ((AB ad F4) 58 17) = va6 := AB_f hF6 rfl
    obtain ⟨g16, hF16, hg16⟩ := wt_I hW4 (show (61, 52) ∈ rLI by decide)
    refine r_iast S hI hK hP4 hS4 61 (by decide) hF16 (vp_in_nI (show 0 < 52 by omega) (by omega)) dX8_readsStay_20 (fun F17 H17 locs17 eF17 hP17 hS17 => ?_)
    have hW17 := hW4.up eF17 (ok_I (show (61, 52) ∈ rLI by decide) (okI_up hg16 (by rw [nI_clamp (by omega)]; exact to_T (by decide) (okT_0 (nI_of_le (by omega) (by omega))))))
    have hFr17 := hFr4.up eF17 (by simp <;> first | omega | (simp only [isC, isJ] at *; omega))
    have hE19 : M = m_X8_readsStay_18 (AB ad F17) := hE12.trans ((show m_X8_readsStay_11 (AB ad F4) (nI b5) = m_X8_readsStay_18 (st (AB ad F4) 61 (rl (nI 0)) ((AB ad F4) 58 17)) from by unfold m_X8_readsStay_11; rw [if_neg (neq_cg rfl rfl c13)]).trans (congrArg (m_X8_readsStay_18) ((st_cg rfl (congrArg rl rfl) m15).trans (AB_ast hF16 eF17).symm)))
    obtain ⟨gg17, eg17⟩ : ∃ g9, g9 = upd g16 (nI 0).toNatClampNeg va6 := ⟨_, rfl⟩
    have hF17 : F17 61 = .inl (cA 0, 52, .inl gg17) := by rw [eF17, eg17]; exact va_up_self _ _ _
    have hg17 : ∀ j, j < 52 → rPr 61 j (gg17 j) := by rw [eg17]; exact pr_up hg16 (by rw [nI_clamp (by omega)]; exact to_T (by decide) (okT_0 (nI_of_le (by omega) (by omega))))
    refine lv_aload_n S.1 S.2.1 dX8_readsStay_21 rfl (lv_at hl0 0 rfl) ?_
    refine lv_iconst (v := (nI 0)) S.1 S.2.1 dX8_readsStay_22 (by decide +kernel) ?_
    refine lv_bipush (v := (nI 11)) S.1 S.2.1 dX8_readsStay_23 (by decide +kernel) ?_
    have hF20 := (show F17 58 = F4 58 by rw [eF17]; exact va_up_ne _ _ (by decide)).trans hF6
    have hA21 := fN_of (k := 14) (a := at6) hF20 rfl (Nat.lt_of_le_of_lt hb6_5 (by decide))
    have hL21 := fN_of (k := 1) (a := ty6) hF20 rfl (Nat.lt_of_le_of_lt hb6_1 (by decide))
    refine r_cVi (As := [.int (nI 0), .int (nI 11)]) (rest := []) S hK hZ hP17 hS17 hl0.1 58 (by decide) hF20 (C := RX8) rfl (c_X8_number l D cA ad t hI F17 hW17 (nI 0) (nI 11)) (cwV 2 S.2.2.2.2 gX8_readsStay_X8_number rfl rfl rfl (by decide +kernel) ⟨Nat.le_of_ble_eq_true rfl, Nat.le_of_ble_eq_true rfl⟩) rfl rfl (Nat.le_of_ble_eq_true rfl) ⟨Nat.zero_le _, Nat.zero_le _⟩ dX8_readsStay_25 (fun r22 F22 H22 locs22 hr22 hP22 hS22 => ?_)
    obtain ⟨hW22, hFc22, hr22⟩ := hr22
    obtain ⟨hr22, hm22⟩ := hr22
    have hFr22 := hFr17.tr hFc22 (by simp <;> first | omega | (simp only [isC, isJ] at *; omega))
    obtain ⟨⟨b23, hb23, rfl⟩, hz23, hx23, hv23⟩ := hr22
    obtain ⟨ty24, kn24, no24, en24, at24, sa24, sd24, wr24, pl24, va24, hF24, hb24_1, hb24_2, hb24_3, hb24_4, hb24_5, hb24_6⟩ := wt_m hW22
    have hA25 := fN_of (k := 14) (a := at24) hF24 rfl (Nat.lt_of_le_of_lt hb24_5 (by decide))
    have hL25 := fN_of (k := 1) (a := ty24) hF24 rfl (Nat.lt_of_le_of_lt hb24_1 (by decide))
    have ta26 : ((nI 0) : Int32).toInt = ((0 : Nat) : Int) := (nI_toInt (n := 0) (by decide))
    have ta27 : ((nI 11) : Int32).toInt = ((11 : Nat) : Int) := (nI_toInt (n := 11) (by decide))
    have hy23 : b23 ≠ 0 → _ := fun q => hx23 (nI_ne0 (by omega) (by omega))
    have hw23 : b23 ≠ 0 → ((0 : Nat) : Int) ≤ va24.toInt ∧ va24.toInt ≤ ((11 : Nat) : Int) := fun q => by have h9 := hv23 (nI_ne0 (by omega) (by omega)); rw [show fI (F22 58) 17 = va24 by unfold fI; rw [hF24]; rfl] at h9; omega
    have mc28 : (m_X8_number (AB ad F17) (nI 0) (nI 11)) = ((nI b23), AB ad F22) := (congr (congr (Eq.refl (m_X8_number (AB ad F17))) (Eq.refl ((nI 0) : Int32))) (Eq.refl ((nI 11) : Int32))).trans hm22
    have hE30 : M = m_X8_readsStay_29 (AB ad F22) (nI b23) := hE19.trans ((show m_X8_readsStay_18 (AB ad F17) = m_X8_readsStay_29 ((m_X8_number (AB ad F17) (nI 0) (nI 11))).2 ((m_X8_number (AB ad F17) (nI 0) (nI 11))).1 from rfl).trans (congr (congrArg (m_X8_readsStay_29) (congrArg Prod.snd mc28)) (congrArg Prod.fst mc28)))
    refine lv_if_ne (tgt := 33) S.1 S.2.1 dX8_readsStay_28 (by decide) (fun c31 => ?_) (fun c31 => ?_)
    · skip
      have k32 := ci_ne (nI_toInt (n := b23) (Nat.lt_of_le_of_lt hb23 (by decide))) z_ti c31
      refine lv_aload_n S.1 S.2.1 dX8_readsStay_33 rfl (lv_at hl0 0 rfl) ?_
      refine r_get S hK hP22 58 (by decide) hF24 (C := RX8) (T := TX8) (N := 23) hiX8 rfl 3 (by decide) (am_at in_wsX8_readsStay_0 0 rfl) (v := .ref (ad 61)) rfl dX8_readsStay_34 ?_
      refine lv_iconst (v := (nI 1)) S.1 S.2.1 dX8_readsStay_37 (by decide +kernel) ?_
      refine lv_aload_n S.1 S.2.1 dX8_readsStay_38 rfl (lv_at hl0 0 rfl) ?_
      refine r_get S hK hP22 58 (by decide) hF24 (C := RX8) (T := TX8) (N := 23) hiX8 rfl 17 (by decide) (am_at in_wsX8_readsStay_0 1 rfl) (v := .int va24) rfl dX8_readsStay_39 ?_
      have m33 : ((AB ad F22) 58 17) = va24 := AB_f hF24 rfl
      have hF34 := (hFc22 61 (by decide)).trans hF17
      refine r_iast S hI hK hP22 hS22 61 (by decide) hF34 (vp_in_nI (show 1 < 52 by omega) (by omega)) dX8_readsStay_42 (fun F35 H35 locs35 eF35 hP35 hS35 => ?_)
      have hW35 := hW22.up eF35 (ok_I (show (61, 52) ∈ rLI by decide) (okI_up hg17 (by rw [nI_clamp (by omega)]; exact to_T (by decide) (okT_o (by decide) (by decide) (by decide)))))
      have hFr35 := hFr22.up eF35 (by simp <;> first | omega | (simp only [isC, isJ] at *; omega))
      have hE37 : M = m_X8_readsStay_36 (AB ad F35) := hE30.trans ((show m_X8_readsStay_29 (AB ad F22) (nI b23) = m_X8_readsStay_36 (st (AB ad F22) 61 (rl (nI 1)) ((AB ad F22) 58 17)) from by unfold m_X8_readsStay_29; rw [if_neg (neq_cg rfl rfl c31)]).trans (congrArg (m_X8_readsStay_36) ((st_cg rfl (congrArg rl rfl) m33).trans (AB_ast hF34 eF35).symm)))
      obtain ⟨gg35, eg35⟩ : ∃ g9, g9 = upd gg17 (nI 1).toNatClampNeg va24 := ⟨_, rfl⟩
      have hF35 : F35 61 = .inl (cA 0, 52, .inl gg35) := by rw [eF35, eg35]; exact va_up_self _ _ _
      have hg35 : ∀ j, j < 52 → rPr 61 j (gg35 j) := by rw [eg35]; exact pr_up hg17 (by rw [nI_clamp (by omega)]; exact to_T (by decide) (okT_o (by decide) (by decide) (by decide)))
      refine lv_aload_n S.1 S.2.1 dX8_readsStay_43 rfl (lv_at hl0 0 rfl) ?_
      have hF38 := (show F35 58 = F22 58 by rw [eF35]; exact va_up_ne _ _ (by decide)).trans hF24
      have hA39 := fN_of (k := 14) (a := at24) hF38 rfl (Nat.lt_of_le_of_lt hb24_5 (by decide))
      have hL39 := fN_of (k := 1) (a := ty24) hF38 rfl (Nat.lt_of_le_of_lt hb24_1 (by decide))
      refine r_cVi (As := []) (rest := []) S hK hZ hP35 hS35 hl0.1 58 (by decide) hF38 (C := RX8) rfl (c_X8_ends l D cA ad t hI F35 hW35 ) (cwV 0 S.2.2.2.2 gX8_readsStay_X8_ends rfl rfl rfl (by decide +kernel) ⟨Nat.le_of_ble_eq_true rfl, Nat.le_of_ble_eq_true rfl⟩) rfl rfl (Nat.le_of_ble_eq_true rfl) ⟨Nat.zero_le _, Nat.zero_le _⟩ dX8_readsStay_44 (fun r40 F40 H40 locs40 hr40 hP40 hS40 => ?_)
      obtain ⟨hW40, hFc40, hr40⟩ := hr40
      obtain ⟨hr40, hm40⟩ := hr40
      have hFr40 := hFr35.tr hFc40 (by simp <;> first | omega | (simp only [isC, isJ] at *; omega))
      obtain ⟨⟨b41, hb41, rfl⟩, hz41, hx41⟩ := hr40
      obtain ⟨ty42, kn42, no42, en42, at42, sa42, sd42, wr42, pl42, va42, hF42, hb42_1, hb42_2, hb42_3, hb42_4, hb42_5, hb42_6⟩ := wt_m hW40
      have hA43 := fN_of (k := 14) (a := at42) hF42 rfl (Nat.lt_of_le_of_lt hb42_5 (by decide))
      have hL43 := fN_of (k := 1) (a := ty42) hF42 rfl (Nat.lt_of_le_of_lt hb42_1 (by decide))
      have hy41 : b41 ≠ 0 → _ := fun q => hx41 (nI_ne0 (by omega) (by omega))
      have mc44 : (m_X8_ends (AB ad F35)) = ((nI b41), AB ad F40) := (Eq.refl (m_X8_ends (AB ad F35))).trans hm40
      have hE46 : M = m_X8_readsStay_45 (AB ad F40) (nI b41) := hE37.trans ((show m_X8_readsStay_36 (AB ad F35) = m_X8_readsStay_45 ((m_X8_ends (AB ad F35))).2 ((m_X8_ends (AB ad F35))).1 from rfl).trans (congr (congrArg (m_X8_readsStay_45) (congrArg Prod.snd mc44)) (congrArg Prod.fst mc44)))
      have hA47 := fN_of (k := 14) (a := at42) hF42 rfl (Nat.lt_of_le_of_lt hb42_5 (by decide))
      have hL47 := fN_of (k := 1) (a := ty42) hF42 rfl (Nat.lt_of_le_of_lt hb42_1 (by decide))
      have hE48 : M = ((nI b41), AB ad F40) := hE46.trans ((show m_X8_readsStay_45 (AB ad F40) (nI b41) = ((nI b41), (AB ad F40)) from rfl).trans (congrArg (fun q => (q, AB ad F40)) rfl))
      exact hret 47 _ _ _ _ _ dX8_readsStay_47 (nar_bool (by omega)) hP40 hS40 ⟨hW40, hFr40, ⟨⟨⟨b41, by omega, rfl⟩, by omega, fun h => by have hb9 : b41 ≠ 0 := fun q => h (by rw [q]; rfl); omega⟩, hM.symm.trans hE48⟩⟩
    have k49 := ci_eq (nI_toInt (n := b23) (Nat.lt_of_le_of_lt hb23 (by decide))) z_ti c31
    refine lv_iconst (v := (nI 0)) S.1 S.2.1 dX8_readsStay_31 (by decide +kernel) ?_
    have hA50 := fN_of (k := 14) (a := at24) hF24 rfl (Nat.lt_of_le_of_lt hb24_5 (by decide))
    have hL50 := fN_of (k := 1) (a := ty24) hF24 rfl (Nat.lt_of_le_of_lt hb24_1 (by decide))
    have hE51 : M = ((nI 0), AB ad F22) := hE30.trans ((show m_X8_readsStay_29 (AB ad F22) (nI b23) = ((nI 0), (AB ad F22)) from by unfold m_X8_readsStay_29; rw [if_pos (eq_cg rfl rfl c31)]).trans (congrArg (fun q => (q, AB ad F22)) rfl))
    exact hret 32 _ _ _ _ _ dX8_readsStay_32 rfl hP22 hS22 ⟨hW22, hFr22, ⟨⟨⟨0, by omega, rfl⟩, by omega, fun h => absurd rfl h⟩, hM.symm.trans hE51⟩⟩
  have k52 := ci_eq (nI_toInt (n := b5) (Nat.lt_of_le_of_lt hb5 (by decide))) z_ti c13
  refine lv_iconst (v := (nI 0)) S.1 S.2.1 dX8_readsStay_9 (by decide +kernel) ?_
  have hA53 := fN_of (k := 14) (a := at6) hF6 rfl (Nat.lt_of_le_of_lt hb6_5 (by decide))
  have hL53 := fN_of (k := 1) (a := ty6) hF6 rfl (Nat.lt_of_le_of_lt hb6_1 (by decide))
  have hE54 : M = ((nI 0), AB ad F4) := hE12.trans ((show m_X8_readsStay_11 (AB ad F4) (nI b5) = ((nI 0), (AB ad F4)) from by unfold m_X8_readsStay_11; rw [if_pos (eq_cg rfl rfl c13)]).trans (congrArg (fun q => (q, AB ad F4)) rfl))
  exact hret 10 _ _ _ _ _ dX8_readsStay_10 rfl hP4 hS4 ⟨hW4, hFr4, ⟨⟨⟨0, by omega, rfl⟩, by omega, fun h => absurd rfl h⟩, hM.symm.trans hE54⟩⟩
noncomputable def m_X8_readsTown_88 (σ : SS) (a0 : Int32) (a1 : Int32) : Int32 × SS :=
  (a1, σ)
noncomputable def m_X8_readsTown_79 (σ : SS) (a0 : Int32) : Int32 × SS :=
  m_X8_readsTown_88 ((m_X8_ends σ)).2 a0 ((m_X8_ends σ)).1
noncomputable def m_X8_readsTown_69 (σ : SS) (a0 : Int32) : Int32 × SS :=
  m_X8_readsTown_79 (st σ 61 (rl (nI 2)) ((σ 61 (rl (nI 2))) + (nI 1))) a0
noncomputable def m_X8_readsTown_60 (σ : SS) (a0 : Int32) (a1 : Int32) : Int32 × SS :=
  if a1 = (0 : Int32) then
    ((nI 0), σ)
  else
    m_X8_readsTown_69 (st σ 61 (rl ((nI 20) + a0)) (σ 58 17)) a0
noncomputable def m_X8_readsTown_48 (σ : SS) (a0 : Int32) : Int32 × SS :=
  m_X8_readsTown_60 ((m_X8_number σ (nI 0) (nI 20))).2 a0 ((m_X8_number σ (nI 0) (nI 20))).1
noncomputable def m_X8_readsTown_39 (σ : SS) (a0 : Int32) (a1 : Int32) : Int32 × SS :=
  if a1 = (0 : Int32) then
    ((nI 0), σ)
  else
    m_X8_readsTown_48 (st σ 61 (rl ((nI 12) + a0)) (σ 58 17)) a0
noncomputable def m_X8_readsTown_27 (σ : SS) (a0 : Int32) : Int32 × SS :=
  m_X8_readsTown_39 ((m_X8_number σ (nI 0) (nI 4095))).2 a0 ((m_X8_number σ (nI 0) (nI 4095))).1
noncomputable def m_X8_readsTown_18 (σ : SS) (a0 : Int32) (a1 : Int32) : Int32 × SS :=
  if a1 = (0 : Int32) then
    ((nI 0), σ)
  else
    m_X8_readsTown_27 (st σ 61 (rl ((nI 4) + a0)) (σ 58 17)) a0
noncomputable def m_X8_readsTown (σ : SS) : Int32 × SS :=
  m_X8_readsTown_18 ((m_X8_number σ (nI 0) (nI 999))).2 (σ 61 (rl (nI 2))) ((m_X8_number σ (nI 0) (nI 999))).1
set_option maxHeartbeats 4000000 in
set_option maxRecDepth 100000 in
theorem c_X8_readsTown (l : Launch) (D : va_G) (cA ad : Nat → Nat) (t : Nat) (hI : rI ad) (F : Nat → va_E) (hW : WT cA ad F) (hT : aN (F 61) 2 < 8) : MI l D cA ad t yX8_readsTown wsX8_readsTown { frames := 2, cells := 0, slots := 0, locals := 46 } [.ref (ad 58)] F (fun r F' => WT cA ad F' ∧ rFr [58, 61] F F' ∧ ((le32 1 r ∧ fN (F' 58) 1 = fN (F 58) 1 ∧ (r ≠ 0 → fN (F 58) 14 ≤ fN (F' 58) 14)) ∧ m_X8_readsTown (AB ad F) = (r, AB ad F'))) := by
  refine en_I rfl (by decide +kernel) (Nat.le_of_ble_eq_true rfl) ?_
  intro p e s m args below meth c ls0 Q S hK hZ hP hS hl0 hret
  have hl0 : lv_has ls0 2 [(0, .ref (ad 58))] := hl0
  have hFr : rFr [58, 61] F F := rFr.rf
  have hiX8 : ∀ w ∈ u_ws RX8 TX8 23, w ∈ wsX8_readsTown := in_wsX8_readsTown_2
  obtain ⟨M, hM⟩ : ∃ M, M = m_X8_readsTown (AB ad F) := ⟨_, rfl⟩
  obtain ⟨ty1, kn1, no1, en1, at1, sa1, sd1, wr1, pl1, va1, hF1, hb1_1, hb1_2, hb1_3, hb1_4, hb1_5, hb1_6⟩ := wt_m hW
  have hA2 := fN_of (k := 14) (a := at1) hF1 rfl (Nat.lt_of_le_of_lt hb1_5 (by decide))
  have hL2 := fN_of (k := 1) (a := ty1) hF1 rfl (Nat.lt_of_le_of_lt hb1_1 (by decide))
  obtain ⟨g3, hF3, hg3⟩ := wt_I hW (show (61, 52) ∈ rLI by decide)
  obtain ⟨b4, hb4, he4⟩ := (pr_T (by decide) (hg3 2 (by decide))).2.1 rfl
  have hN5 := aN_of (j := 2) hF3 he4 (by omega)
  refine lv_aload_n S.1 S.2.1 dX8_readsTown_0 rfl (lv_at hl0 0 rfl) ?_
  refine r_get S hK hP 58 (by decide) hF1 (C := RX8) (T := TX8) (N := 23) hiX8 rfl 3 (by decide) (am_at in_wsX8_readsTown_0 0 rfl) (v := .ref (ad 61)) rfl dX8_readsTown_1 ?_
  refine lv_iconst (v := (nI 2)) S.1 S.2.1 dX8_readsTown_4 (by decide +kernel) ?_
  refine r_iald S hK hP 61 (by decide) hF3 (vp_in_nI (show 2 < 52 by omega) (by omega)) dX8_readsTown_5 ?_
  refine lv_topi (fun v7 e7 => ?_)
  obtain rfl : v7 = nI b4 := e7.trans he4
  have m8 : ((AB ad F) 61 (rl (nI 2))) = (nI b4) := (ab_cg rfl rfl).trans ((AB_g hF3).trans e7.symm)
  refine lv_istore_n (lv' := [(1, .int (nI b4)), (0, .ref (ad 58))]) S.1 S.2.1 dX8_readsTown_6 rfl hl0 (by decide) rfl (fun ls9 hl9 => ?_)
  refine lv_aload_n S.1 S.2.1 dX8_readsTown_7 rfl (lv_at hl9 1 rfl) ?_
  refine lv_iconst (v := (nI 0)) S.1 S.2.1 dX8_readsTown_8 (by decide +kernel) ?_
  refine lv_sipush (v := (nI 999)) S.1 S.2.1 dX8_readsTown_9 (by decide +kernel) ?_
  have hA10 := fN_of (k := 14) (a := at1) hF1 rfl (Nat.lt_of_le_of_lt hb1_5 (by decide))
  have hL10 := fN_of (k := 1) (a := ty1) hF1 rfl (Nat.lt_of_le_of_lt hb1_1 (by decide))
  refine r_cVi (As := [.int (nI 0), .int (nI 999)]) (rest := []) S hK hZ hP hS hl9.1 58 (by decide) hF1 (C := RX8) rfl (c_X8_number l D cA ad t hI F hW (nI 0) (nI 999)) (cwV 2 S.2.2.2.2 gX8_readsTown_X8_number rfl rfl rfl (by decide +kernel) ⟨Nat.le_of_ble_eq_true rfl, Nat.le_of_ble_eq_true rfl⟩) rfl rfl (Nat.le_of_ble_eq_true rfl) ⟨Nat.zero_le _, Nat.zero_le _⟩ dX8_readsTown_12 (fun r11 F11 H11 locs11 hr11 hP11 hS11 => ?_)
  obtain ⟨hW11, hFc11, hr11⟩ := hr11
  obtain ⟨hr11, hm11⟩ := hr11
  have hFr11 := hFr.tr hFc11 (by simp <;> first | omega | (simp only [isC, isJ] at *; omega))
  obtain ⟨⟨b12, hb12, rfl⟩, hz12, hx12, hv12⟩ := hr11
  obtain ⟨ty13, kn13, no13, en13, at13, sa13, sd13, wr13, pl13, va13, hF13, hb13_1, hb13_2, hb13_3, hb13_4, hb13_5, hb13_6⟩ := wt_m hW11
  have hA14 := fN_of (k := 14) (a := at13) hF13 rfl (Nat.lt_of_le_of_lt hb13_5 (by decide))
  have hL14 := fN_of (k := 1) (a := ty13) hF13 rfl (Nat.lt_of_le_of_lt hb13_1 (by decide))
  have ta15 : ((nI 0) : Int32).toInt = ((0 : Nat) : Int) := (nI_toInt (n := 0) (by decide))
  have ta16 : ((nI 999) : Int32).toInt = ((999 : Nat) : Int) := (nI_toInt (n := 999) (by decide))
  have hy12 : b12 ≠ 0 → _ := fun q => hx12 (nI_ne0 (by omega) (by omega))
  have hw12 : b12 ≠ 0 → ((0 : Nat) : Int) ≤ va13.toInt ∧ va13.toInt ≤ ((999 : Nat) : Int) := fun q => by have h9 := hv12 (nI_ne0 (by omega) (by omega)); rw [show fI (F11 58) 17 = va13 by unfold fI; rw [hF13]; rfl] at h9; omega
  have mc17 : (m_X8_number (AB ad F) (nI 0) (nI 999)) = ((nI b12), AB ad F11) := (congr (congr (Eq.refl (m_X8_number (AB ad F))) (Eq.refl ((nI 0) : Int32))) (Eq.refl ((nI 999) : Int32))).trans hm11
  have hE19 : M = m_X8_readsTown_18 (AB ad F11) (nI b4) (nI b12) := hM.trans ((show m_X8_readsTown (AB ad F) = m_X8_readsTown_18 ((m_X8_number (AB ad F) (nI 0) (nI 999))).2 ((AB ad F) 61 (rl (nI 2))) ((m_X8_number (AB ad F) (nI 0) (nI 999))).1 from rfl).trans (congr (congr (congrArg (m_X8_readsTown_18) (congrArg Prod.snd mc17)) m8) (congrArg Prod.fst mc17)))
  refine lv_if_ne (tgt := 20) S.1 S.2.1 dX8_readsTown_15 (by decide) (fun c20 => ?_) (fun c20 => ?_)
  · skip
    have k21 := ci_ne (nI_toInt (n := b12) (Nat.lt_of_le_of_lt hb12 (by decide))) z_ti c20
    refine lv_aload_n S.1 S.2.1 dX8_readsTown_20 rfl (lv_at hl9 1 rfl) ?_
    refine r_get S hK hP11 58 (by decide) hF13 (C := RX8) (T := TX8) (N := 23) hiX8 rfl 3 (by decide) (am_at in_wsX8_readsTown_0 0 rfl) (v := .ref (ad 61)) rfl dX8_readsTown_21 ?_
    refine lv_iconst (v := (nI 4)) S.1 S.2.1 dX8_readsTown_24 (by decide +kernel) ?_
    refine lv_iload_n S.1 S.2.1 dX8_readsTown_25 rfl (lv_at hl9 0 rfl) ?_
    refine lv_iadd S.1 S.2.1 dX8_readsTown_26 ?_
    refine lv_topi (fun v22 e22 => ?_)
    obtain rfl : v22 = nI (4 + b4) := e22.trans (nI_add _ _)
    have m23 : ((nI 4) + (nI b4)) = (nI (4 + b4)) := cg2 (fun (x : Int32) (y : Int32) => x + y) (Eq.refl ((nI 4) : Int32)) (Eq.refl ((nI b4) : Int32)) e22
    refine lv_aload_n S.1 S.2.1 dX8_readsTown_27 rfl (lv_at hl9 1 rfl) ?_
    refine r_get S hK hP11 58 (by decide) hF13 (C := RX8) (T := TX8) (N := 23) hiX8 rfl 17 (by decide) (am_at in_wsX8_readsTown_0 1 rfl) (v := .int va13) rfl dX8_readsTown_28 ?_
    have m24 : ((AB ad F11) 58 17) = va13 := AB_f hF13 rfl
    have hF25 := (hFc11 61 (by decide)).trans hF3
    refine r_iast S hI hK hP11 hS11 61 (by decide) hF25 (vp_in_nI (show 4 + b4 < 52 by omega) (by omega)) dX8_readsTown_31 (fun F26 H26 locs26 eF26 hP26 hS26 => ?_)
    have hW26 := hW11.up eF26 (ok_I (show (61, 52) ∈ rLI by decide) (okI_up hg3 (by rw [nI_clamp (by omega)]; exact to_T (by decide) (okT_o (by omega) (by omega) (by omega)))))
    have hFr26 := hFr11.up eF26 (by simp <;> first | omega | (simp only [isC, isJ] at *; omega))
    have hE28 : M = m_X8_readsTown_27 (AB ad F26) (nI b4) := hE19.trans ((show m_X8_readsTown_18 (AB ad F11) (nI b4) (nI b12) = m_X8_readsTown_27 (st (AB ad F11) 61 (rl ((nI 4) + (nI b4))) ((AB ad F11) 58 17)) (nI b4) from by unfold m_X8_readsTown_18; rw [if_neg (neq_cg rfl rfl c20)]).trans (congr (congrArg (m_X8_readsTown_27) ((st_cg rfl (congrArg rl m23) m24).trans (AB_ast hF25 eF26).symm)) (Eq.refl ((nI b4) : Int32))))
    obtain ⟨gg26, eg26⟩ : ∃ g9, g9 = upd g3 (nI (4 + b4)).toNatClampNeg va13 := ⟨_, rfl⟩
    have hF26 : F26 61 = .inl (cA 0, 52, .inl gg26) := by rw [eF26, eg26]; exact va_up_self _ _ _
    have hg26 : ∀ j, j < 52 → rPr 61 j (gg26 j) := by rw [eg26]; exact pr_up hg3 (by rw [nI_clamp (by omega)]; exact to_T (by decide) (okT_o (by omega) (by omega) (by omega)))
    have he29 : gg26 2 = nI b4 := by rw [eg26, pk_un (by rw [nI_clamp (by omega)]; omega)]; exact he4
    refine lv_aload_n S.1 S.2.1 dX8_readsTown_32 rfl (lv_at hl9 1 rfl) ?_
    refine lv_iconst (v := (nI 0)) S.1 S.2.1 dX8_readsTown_33 (by decide +kernel) ?_
    refine lv_sipush (v := (nI 4095)) S.1 S.2.1 dX8_readsTown_34 (by decide +kernel) ?_
    have hF30 := (show F26 58 = F11 58 by rw [eF26]; exact va_up_ne _ _ (by decide)).trans hF13
    have hA31 := fN_of (k := 14) (a := at13) hF30 rfl (Nat.lt_of_le_of_lt hb13_5 (by decide))
    have hL31 := fN_of (k := 1) (a := ty13) hF30 rfl (Nat.lt_of_le_of_lt hb13_1 (by decide))
    refine r_cVi (As := [.int (nI 0), .int (nI 4095)]) (rest := []) S hK hZ hP26 hS26 hl9.1 58 (by decide) hF30 (C := RX8) rfl (c_X8_number l D cA ad t hI F26 hW26 (nI 0) (nI 4095)) (cwV 2 S.2.2.2.2 gX8_readsTown_X8_number rfl rfl rfl (by decide +kernel) ⟨Nat.le_of_ble_eq_true rfl, Nat.le_of_ble_eq_true rfl⟩) rfl rfl (Nat.le_of_ble_eq_true rfl) ⟨Nat.zero_le _, Nat.zero_le _⟩ dX8_readsTown_37 (fun r32 F32 H32 locs32 hr32 hP32 hS32 => ?_)
    obtain ⟨hW32, hFc32, hr32⟩ := hr32
    obtain ⟨hr32, hm32⟩ := hr32
    have hFr32 := hFr26.tr hFc32 (by simp <;> first | omega | (simp only [isC, isJ] at *; omega))
    obtain ⟨⟨b33, hb33, rfl⟩, hz33, hx33, hv33⟩ := hr32
    obtain ⟨ty34, kn34, no34, en34, at34, sa34, sd34, wr34, pl34, va34, hF34, hb34_1, hb34_2, hb34_3, hb34_4, hb34_5, hb34_6⟩ := wt_m hW32
    have hA35 := fN_of (k := 14) (a := at34) hF34 rfl (Nat.lt_of_le_of_lt hb34_5 (by decide))
    have hL35 := fN_of (k := 1) (a := ty34) hF34 rfl (Nat.lt_of_le_of_lt hb34_1 (by decide))
    have ta36 : ((nI 0) : Int32).toInt = ((0 : Nat) : Int) := (nI_toInt (n := 0) (by decide))
    have ta37 : ((nI 4095) : Int32).toInt = ((4095 : Nat) : Int) := (nI_toInt (n := 4095) (by decide))
    have hy33 : b33 ≠ 0 → _ := fun q => hx33 (nI_ne0 (by omega) (by omega))
    have hw33 : b33 ≠ 0 → ((0 : Nat) : Int) ≤ va34.toInt ∧ va34.toInt ≤ ((4095 : Nat) : Int) := fun q => by have h9 := hv33 (nI_ne0 (by omega) (by omega)); rw [show fI (F32 58) 17 = va34 by unfold fI; rw [hF34]; rfl] at h9; omega
    have mc38 : (m_X8_number (AB ad F26) (nI 0) (nI 4095)) = ((nI b33), AB ad F32) := (congr (congr (Eq.refl (m_X8_number (AB ad F26))) (Eq.refl ((nI 0) : Int32))) (Eq.refl ((nI 4095) : Int32))).trans hm32
    have hE40 : M = m_X8_readsTown_39 (AB ad F32) (nI b4) (nI b33) := hE28.trans ((show m_X8_readsTown_27 (AB ad F26) (nI b4) = m_X8_readsTown_39 ((m_X8_number (AB ad F26) (nI 0) (nI 4095))).2 (nI b4) ((m_X8_number (AB ad F26) (nI 0) (nI 4095))).1 from rfl).trans (congr (congr (congrArg (m_X8_readsTown_39) (congrArg Prod.snd mc38)) (Eq.refl ((nI b4) : Int32))) (congrArg Prod.fst mc38)))
    refine lv_if_ne (tgt := 45) S.1 S.2.1 dX8_readsTown_40 (by decide) (fun c41 => ?_) (fun c41 => ?_)
    · skip
      have k42 := ci_ne (nI_toInt (n := b33) (Nat.lt_of_le_of_lt hb33 (by decide))) z_ti c41
      refine lv_aload_n S.1 S.2.1 dX8_readsTown_45 rfl (lv_at hl9 1 rfl) ?_
      refine r_get S hK hP32 58 (by decide) hF34 (C := RX8) (T := TX8) (N := 23) hiX8 rfl 3 (by decide) (am_at in_wsX8_readsTown_0 0 rfl) (v := .ref (ad 61)) rfl dX8_readsTown_46 ?_
      refine lv_bipush (v := (nI 12)) S.1 S.2.1 dX8_readsTown_49 (by decide +kernel) ?_
      refine lv_iload_n S.1 S.2.1 dX8_readsTown_51 rfl (lv_at hl9 0 rfl) ?_
      refine lv_iadd S.1 S.2.1 dX8_readsTown_52 ?_
      refine lv_topi (fun v43 e43 => ?_)
      obtain rfl : v43 = nI (12 + b4) := e43.trans (nI_add _ _)
      have m44 : ((nI 12) + (nI b4)) = (nI (12 + b4)) := cg2 (fun (x : Int32) (y : Int32) => x + y) (Eq.refl ((nI 12) : Int32)) (Eq.refl ((nI b4) : Int32)) e43
      refine lv_aload_n S.1 S.2.1 dX8_readsTown_53 rfl (lv_at hl9 1 rfl) ?_
      refine r_get S hK hP32 58 (by decide) hF34 (C := RX8) (T := TX8) (N := 23) hiX8 rfl 17 (by decide) (am_at in_wsX8_readsTown_0 1 rfl) (v := .int va34) rfl dX8_readsTown_54 ?_
      have m45 : ((AB ad F32) 58 17) = va34 := AB_f hF34 rfl
      have hF46 := (hFc32 61 (by decide)).trans hF26
      refine r_iast S hI hK hP32 hS32 61 (by decide) hF46 (vp_in_nI (show 12 + b4 < 52 by omega) (by omega)) dX8_readsTown_57 (fun F47 H47 locs47 eF47 hP47 hS47 => ?_)
      have hW47 := hW32.up eF47 (ok_I (show (61, 52) ∈ rLI by decide) (okI_up hg26 (by rw [nI_clamp (by omega)]; exact to_T (by decide) (okT_o (by omega) (by omega) (by omega)))))
      have hFr47 := hFr32.up eF47 (by simp <;> first | omega | (simp only [isC, isJ] at *; omega))
      have hE49 : M = m_X8_readsTown_48 (AB ad F47) (nI b4) := hE40.trans ((show m_X8_readsTown_39 (AB ad F32) (nI b4) (nI b33) = m_X8_readsTown_48 (st (AB ad F32) 61 (rl ((nI 12) + (nI b4))) ((AB ad F32) 58 17)) (nI b4) from by unfold m_X8_readsTown_39; rw [if_neg (neq_cg rfl rfl c41)]).trans (congr (congrArg (m_X8_readsTown_48) ((st_cg rfl (congrArg rl m44) m45).trans (AB_ast hF46 eF47).symm)) (Eq.refl ((nI b4) : Int32))))
      obtain ⟨gg47, eg47⟩ : ∃ g9, g9 = upd gg26 (nI (12 + b4)).toNatClampNeg va34 := ⟨_, rfl⟩
      have hF47 : F47 61 = .inl (cA 0, 52, .inl gg47) := by rw [eF47, eg47]; exact va_up_self _ _ _
      have hg47 : ∀ j, j < 52 → rPr 61 j (gg47 j) := by rw [eg47]; exact pr_up hg26 (by rw [nI_clamp (by omega)]; exact to_T (by decide) (okT_o (by omega) (by omega) (by omega)))
      have he50 : gg47 2 = nI b4 := by rw [eg47, pk_un (by rw [nI_clamp (by omega)]; omega)]; exact he29
      refine lv_aload_n S.1 S.2.1 dX8_readsTown_58 rfl (lv_at hl9 1 rfl) ?_
      refine lv_iconst (v := (nI 0)) S.1 S.2.1 dX8_readsTown_59 (by decide +kernel) ?_
      refine lv_bipush (v := (nI 20)) S.1 S.2.1 dX8_readsTown_60 (by decide +kernel) ?_
      have hF51 := (show F47 58 = F32 58 by rw [eF47]; exact va_up_ne _ _ (by decide)).trans hF34
      have hA52 := fN_of (k := 14) (a := at34) hF51 rfl (Nat.lt_of_le_of_lt hb34_5 (by decide))
      have hL52 := fN_of (k := 1) (a := ty34) hF51 rfl (Nat.lt_of_le_of_lt hb34_1 (by decide))
      refine r_cVi (As := [.int (nI 0), .int (nI 20)]) (rest := []) S hK hZ hP47 hS47 hl9.1 58 (by decide) hF51 (C := RX8) rfl (c_X8_number l D cA ad t hI F47 hW47 (nI 0) (nI 20)) (cwV 2 S.2.2.2.2 gX8_readsTown_X8_number rfl rfl rfl (by decide +kernel) ⟨Nat.le_of_ble_eq_true rfl, Nat.le_of_ble_eq_true rfl⟩) rfl rfl (Nat.le_of_ble_eq_true rfl) ⟨Nat.zero_le _, Nat.zero_le _⟩ dX8_readsTown_62 (fun r53 F53 H53 locs53 hr53 hP53 hS53 => ?_)
      obtain ⟨hW53, hFc53, hr53⟩ := hr53
      obtain ⟨hr53, hm53⟩ := hr53
      have hFr53 := hFr47.tr hFc53 (by simp <;> first | omega | (simp only [isC, isJ] at *; omega))
      obtain ⟨⟨b54, hb54, rfl⟩, hz54, hx54, hv54⟩ := hr53
      obtain ⟨ty55, kn55, no55, en55, at55, sa55, sd55, wr55, pl55, va55, hF55, hb55_1, hb55_2, hb55_3, hb55_4, hb55_5, hb55_6⟩ := wt_m hW53
      have hA56 := fN_of (k := 14) (a := at55) hF55 rfl (Nat.lt_of_le_of_lt hb55_5 (by decide))
      have hL56 := fN_of (k := 1) (a := ty55) hF55 rfl (Nat.lt_of_le_of_lt hb55_1 (by decide))
      have ta57 : ((nI 0) : Int32).toInt = ((0 : Nat) : Int) := (nI_toInt (n := 0) (by decide))
      have ta58 : ((nI 20) : Int32).toInt = ((20 : Nat) : Int) := (nI_toInt (n := 20) (by decide))
      have hy54 : b54 ≠ 0 → _ := fun q => hx54 (nI_ne0 (by omega) (by omega))
      have hw54 : b54 ≠ 0 → ((0 : Nat) : Int) ≤ va55.toInt ∧ va55.toInt ≤ ((20 : Nat) : Int) := fun q => by have h9 := hv54 (nI_ne0 (by omega) (by omega)); rw [show fI (F53 58) 17 = va55 by unfold fI; rw [hF55]; rfl] at h9; omega
      have mc59 : (m_X8_number (AB ad F47) (nI 0) (nI 20)) = ((nI b54), AB ad F53) := (congr (congr (Eq.refl (m_X8_number (AB ad F47))) (Eq.refl ((nI 0) : Int32))) (Eq.refl ((nI 20) : Int32))).trans hm53
      have hE61 : M = m_X8_readsTown_60 (AB ad F53) (nI b4) (nI b54) := hE49.trans ((show m_X8_readsTown_48 (AB ad F47) (nI b4) = m_X8_readsTown_60 ((m_X8_number (AB ad F47) (nI 0) (nI 20))).2 (nI b4) ((m_X8_number (AB ad F47) (nI 0) (nI 20))).1 from rfl).trans (congr (congr (congrArg (m_X8_readsTown_60) (congrArg Prod.snd mc59)) (Eq.refl ((nI b4) : Int32))) (congrArg Prod.fst mc59)))
      refine lv_if_ne (tgt := 70) S.1 S.2.1 dX8_readsTown_65 (by decide) (fun c62 => ?_) (fun c62 => ?_)
      · skip
        have k63 := ci_ne (nI_toInt (n := b54) (Nat.lt_of_le_of_lt hb54 (by decide))) z_ti c62
        refine lv_aload_n S.1 S.2.1 dX8_readsTown_70 rfl (lv_at hl9 1 rfl) ?_
        refine r_get S hK hP53 58 (by decide) hF55 (C := RX8) (T := TX8) (N := 23) hiX8 rfl 3 (by decide) (am_at in_wsX8_readsTown_0 0 rfl) (v := .ref (ad 61)) rfl dX8_readsTown_71 ?_
        refine lv_bipush (v := (nI 20)) S.1 S.2.1 dX8_readsTown_74 (by decide +kernel) ?_
        refine lv_iload_n S.1 S.2.1 dX8_readsTown_76 rfl (lv_at hl9 0 rfl) ?_
        refine lv_iadd S.1 S.2.1 dX8_readsTown_77 ?_
        refine lv_topi (fun v64 e64 => ?_)
        obtain rfl : v64 = nI (20 + b4) := e64.trans (nI_add _ _)
        have m65 : ((nI 20) + (nI b4)) = (nI (20 + b4)) := cg2 (fun (x : Int32) (y : Int32) => x + y) (Eq.refl ((nI 20) : Int32)) (Eq.refl ((nI b4) : Int32)) e64
        refine lv_aload_n S.1 S.2.1 dX8_readsTown_78 rfl (lv_at hl9 1 rfl) ?_
        refine r_get S hK hP53 58 (by decide) hF55 (C := RX8) (T := TX8) (N := 23) hiX8 rfl 17 (by decide) (am_at in_wsX8_readsTown_0 1 rfl) (v := .int va55) rfl dX8_readsTown_79 ?_
        have m66 : ((AB ad F53) 58 17) = va55 := AB_f hF55 rfl
        have hF67 := (hFc53 61 (by decide)).trans hF47
        refine r_iast S hI hK hP53 hS53 61 (by decide) hF67 (vp_in_nI (show 20 + b4 < 52 by omega) (by omega)) dX8_readsTown_82 (fun F68 H68 locs68 eF68 hP68 hS68 => ?_)
        have hW68 := hW53.up eF68 (ok_I (show (61, 52) ∈ rLI by decide) (okI_up hg47 (by rw [nI_clamp (by omega)]; exact to_T (by decide) (okT_o (by omega) (by omega) (by omega)))))
        have hFr68 := hFr53.up eF68 (by simp <;> first | omega | (simp only [isC, isJ] at *; omega))
        have hE70 : M = m_X8_readsTown_69 (AB ad F68) (nI b4) := hE61.trans ((show m_X8_readsTown_60 (AB ad F53) (nI b4) (nI b54) = m_X8_readsTown_69 (st (AB ad F53) 61 (rl ((nI 20) + (nI b4))) ((AB ad F53) 58 17)) (nI b4) from by unfold m_X8_readsTown_60; rw [if_neg (neq_cg rfl rfl c62)]).trans (congr (congrArg (m_X8_readsTown_69) ((st_cg rfl (congrArg rl m65) m66).trans (AB_ast hF67 eF68).symm)) (Eq.refl ((nI b4) : Int32))))
        obtain ⟨gg68, eg68⟩ : ∃ g9, g9 = upd gg47 (nI (20 + b4)).toNatClampNeg va55 := ⟨_, rfl⟩
        have hF68 : F68 61 = .inl (cA 0, 52, .inl gg68) := by rw [eF68, eg68]; exact va_up_self _ _ _
        have hg68 : ∀ j, j < 52 → rPr 61 j (gg68 j) := by rw [eg68]; exact pr_up hg47 (by rw [nI_clamp (by omega)]; exact to_T (by decide) (okT_o (by omega) (by omega) (by omega)))
        have he71 : gg68 2 = nI b4 := by rw [eg68, pk_un (by rw [nI_clamp (by omega)]; omega)]; exact he50
        refine lv_aload_n S.1 S.2.1 dX8_readsTown_83 rfl (lv_at hl9 1 rfl) ?_
        have hF72 := (show F68 58 = F53 58 by rw [eF68]; exact va_up_ne _ _ (by decide)).trans hF55
        refine r_get S hK hP68 58 (by decide) hF72 (C := RX8) (T := TX8) (N := 23) hiX8 rfl 3 (by decide) (am_at in_wsX8_readsTown_0 0 rfl) (v := .ref (ad 61)) rfl dX8_readsTown_84 ?_
        refine lv_iconst (v := (nI 2)) S.1 S.2.1 dX8_readsTown_87 (by decide +kernel) ?_
        refine lv_dup2_11 S.1 S.2.1 dX8_readsTown_88 rfl rfl ?_
        refine r_iald S hK hP68 61 (by decide) hF68 (vp_in_nI (show 2 < 52 by omega) (by omega)) dX8_readsTown_89 ?_
        refine lv_topi (fun v74 e74 => ?_)
        obtain rfl : v74 = nI b4 := e74.trans he71
        have m75 : ((AB ad F68) 61 (rl (nI 2))) = (nI b4) := (ab_cg rfl rfl).trans ((AB_g hF68).trans e74.symm)
        refine lv_iconst (v := (nI 1)) S.1 S.2.1 dX8_readsTown_90 (by decide +kernel) ?_
        refine lv_iadd S.1 S.2.1 dX8_readsTown_91 ?_
        refine lv_topi (fun v76 e76 => ?_)
        obtain rfl : v76 = nI (b4 + 1) := e76.trans (nI_add _ _)
        have m77 : (((AB ad F68) 61 (rl (nI 2))) + (nI 1)) = (nI (b4 + 1)) := cg2 (fun (x : Int32) (y : Int32) => x + y) m75 (Eq.refl ((nI 1) : Int32)) e76
        refine r_iast S hI hK hP68 hS68 61 (by decide) hF68 (vp_in_nI (show 2 < 52 by omega) (by omega)) dX8_readsTown_92 (fun F78 H78 locs78 eF78 hP78 hS78 => ?_)
        have hW78 := hW68.up eF78 (ok_I (show (61, 52) ∈ rLI by decide) (okI_up hg68 (by rw [nI_clamp (by omega)]; exact to_T (by decide) (okT_2 ⟨b4 + 1, by omega, rfl⟩))))
        have hFr78 := hFr68.up eF78 (by simp <;> first | omega | (simp only [isC, isJ] at *; omega))
        have hE80 : M = m_X8_readsTown_79 (AB ad F78) (nI b4) := hE70.trans ((show m_X8_readsTown_69 (AB ad F68) (nI b4) = m_X8_readsTown_79 (st (AB ad F68) 61 (rl (nI 2)) (((AB ad F68) 61 (rl (nI 2))) + (nI 1))) (nI b4) from rfl).trans (congr (congrArg (m_X8_readsTown_79) ((st_cg rfl (congrArg rl rfl) m77).trans (AB_ast hF68 eF78).symm)) (Eq.refl ((nI b4) : Int32))))
        obtain ⟨gg78, eg78⟩ : ∃ g9, g9 = upd gg68 (nI 2).toNatClampNeg (nI (b4 + 1)) := ⟨_, rfl⟩
        have hF78 : F78 61 = .inl (cA 0, 52, .inl gg78) := by rw [eF78, eg78]; exact va_up_self _ _ _
        have hg78 : ∀ j, j < 52 → rPr 61 j (gg78 j) := by rw [eg78]; exact pr_up hg68 (by rw [nI_clamp (by omega)]; exact to_T (by decide) (okT_2 ⟨b4 + 1, by omega, rfl⟩))
        refine lv_aload_n S.1 S.2.1 dX8_readsTown_93 rfl (lv_at hl9 1 rfl) ?_
        have hF81 := (show F78 58 = F68 58 by rw [eF78]; exact va_up_ne _ _ (by decide)).trans hF72
        have hA82 := fN_of (k := 14) (a := at55) hF81 rfl (Nat.lt_of_le_of_lt hb55_5 (by decide))
        have hL82 := fN_of (k := 1) (a := ty55) hF81 rfl (Nat.lt_of_le_of_lt hb55_1 (by decide))
        refine r_cVi (As := []) (rest := []) S hK hZ hP78 hS78 hl9.1 58 (by decide) hF81 (C := RX8) rfl (c_X8_ends l D cA ad t hI F78 hW78 ) (cwV 0 S.2.2.2.2 gX8_readsTown_X8_ends rfl rfl rfl (by decide +kernel) ⟨Nat.le_of_ble_eq_true rfl, Nat.le_of_ble_eq_true rfl⟩) rfl rfl (Nat.le_of_ble_eq_true rfl) ⟨Nat.zero_le _, Nat.zero_le _⟩ dX8_readsTown_94 (fun r83 F83 H83 locs83 hr83 hP83 hS83 => ?_)
        obtain ⟨hW83, hFc83, hr83⟩ := hr83
        obtain ⟨hr83, hm83⟩ := hr83
        have hFr83 := hFr78.tr hFc83 (by simp <;> first | omega | (simp only [isC, isJ] at *; omega))
        obtain ⟨⟨b84, hb84, rfl⟩, hz84, hx84⟩ := hr83
        obtain ⟨ty85, kn85, no85, en85, at85, sa85, sd85, wr85, pl85, va85, hF85, hb85_1, hb85_2, hb85_3, hb85_4, hb85_5, hb85_6⟩ := wt_m hW83
        have hA86 := fN_of (k := 14) (a := at85) hF85 rfl (Nat.lt_of_le_of_lt hb85_5 (by decide))
        have hL86 := fN_of (k := 1) (a := ty85) hF85 rfl (Nat.lt_of_le_of_lt hb85_1 (by decide))
        have hy84 : b84 ≠ 0 → _ := fun q => hx84 (nI_ne0 (by omega) (by omega))
        have mc87 : (m_X8_ends (AB ad F78)) = ((nI b84), AB ad F83) := (Eq.refl (m_X8_ends (AB ad F78))).trans hm83
        have hE89 : M = m_X8_readsTown_88 (AB ad F83) (nI b4) (nI b84) := hE80.trans ((show m_X8_readsTown_79 (AB ad F78) (nI b4) = m_X8_readsTown_88 ((m_X8_ends (AB ad F78))).2 (nI b4) ((m_X8_ends (AB ad F78))).1 from rfl).trans (congr (congr (congrArg (m_X8_readsTown_88) (congrArg Prod.snd mc87)) (Eq.refl ((nI b4) : Int32))) (congrArg Prod.fst mc87)))
        have hA90 := fN_of (k := 14) (a := at85) hF85 rfl (Nat.lt_of_le_of_lt hb85_5 (by decide))
        have hL90 := fN_of (k := 1) (a := ty85) hF85 rfl (Nat.lt_of_le_of_lt hb85_1 (by decide))
        have hE91 : M = ((nI b84), AB ad F83) := hE89.trans ((show m_X8_readsTown_88 (AB ad F83) (nI b4) (nI b84) = ((nI b84), (AB ad F83)) from rfl).trans (congrArg (fun q => (q, AB ad F83)) rfl))
        exact hret 97 _ _ _ _ _ dX8_readsTown_97 (nar_bool (by omega)) hP83 hS83 ⟨hW83, hFr83, ⟨⟨⟨b84, by omega, rfl⟩, by omega, fun h => by have hb9 : b84 ≠ 0 := fun q => h (by rw [q]; rfl); omega⟩, hM.symm.trans hE91⟩⟩
      have k92 := ci_eq (nI_toInt (n := b54) (Nat.lt_of_le_of_lt hb54 (by decide))) z_ti c62
      refine lv_iconst (v := (nI 0)) S.1 S.2.1 dX8_readsTown_68 (by decide +kernel) ?_
      have hA93 := fN_of (k := 14) (a := at55) hF55 rfl (Nat.lt_of_le_of_lt hb55_5 (by decide))
      have hL93 := fN_of (k := 1) (a := ty55) hF55 rfl (Nat.lt_of_le_of_lt hb55_1 (by decide))
      have hE94 : M = ((nI 0), AB ad F53) := hE61.trans ((show m_X8_readsTown_60 (AB ad F53) (nI b4) (nI b54) = ((nI 0), (AB ad F53)) from by unfold m_X8_readsTown_60; rw [if_pos (eq_cg rfl rfl c62)]).trans (congrArg (fun q => (q, AB ad F53)) rfl))
      exact hret 69 _ _ _ _ _ dX8_readsTown_69 rfl hP53 hS53 ⟨hW53, hFr53, ⟨⟨⟨0, by omega, rfl⟩, by omega, fun h => absurd rfl h⟩, hM.symm.trans hE94⟩⟩
    have k95 := ci_eq (nI_toInt (n := b33) (Nat.lt_of_le_of_lt hb33 (by decide))) z_ti c41
    refine lv_iconst (v := (nI 0)) S.1 S.2.1 dX8_readsTown_43 (by decide +kernel) ?_
    have hA96 := fN_of (k := 14) (a := at34) hF34 rfl (Nat.lt_of_le_of_lt hb34_5 (by decide))
    have hL96 := fN_of (k := 1) (a := ty34) hF34 rfl (Nat.lt_of_le_of_lt hb34_1 (by decide))
    have hE97 : M = ((nI 0), AB ad F32) := hE40.trans ((show m_X8_readsTown_39 (AB ad F32) (nI b4) (nI b33) = ((nI 0), (AB ad F32)) from by unfold m_X8_readsTown_39; rw [if_pos (eq_cg rfl rfl c41)]).trans (congrArg (fun q => (q, AB ad F32)) rfl))
    exact hret 44 _ _ _ _ _ dX8_readsTown_44 rfl hP32 hS32 ⟨hW32, hFr32, ⟨⟨⟨0, by omega, rfl⟩, by omega, fun h => absurd rfl h⟩, hM.symm.trans hE97⟩⟩
  have k98 := ci_eq (nI_toInt (n := b12) (Nat.lt_of_le_of_lt hb12 (by decide))) z_ti c20
  refine lv_iconst (v := (nI 0)) S.1 S.2.1 dX8_readsTown_18 (by decide +kernel) ?_
  have hA99 := fN_of (k := 14) (a := at13) hF13 rfl (Nat.lt_of_le_of_lt hb13_5 (by decide))
  have hL99 := fN_of (k := 1) (a := ty13) hF13 rfl (Nat.lt_of_le_of_lt hb13_1 (by decide))
  have hE100 : M = ((nI 0), AB ad F11) := hE19.trans ((show m_X8_readsTown_18 (AB ad F11) (nI b4) (nI b12) = ((nI 0), (AB ad F11)) from by unfold m_X8_readsTown_18; rw [if_pos (eq_cg rfl rfl c20)]).trans (congrArg (fun q => (q, AB ad F11)) rfl))
  exact hret 19 _ _ _ _ _ dX8_readsTown_19 rfl hP11 hS11 ⟨hW11, hFr11, ⟨⟨⟨0, by omega, rfl⟩, by omega, fun h => absurd rfl h⟩, hM.symm.trans hE100⟩⟩
noncomputable def m_X8_readsRoad_248 (k0 : SS → Int32 → Int32 → Int32 → Int32 × SS) (σ : SS) (a0 : Int32) (a1 : Int32) (a2 : Int32) : Int32 × SS :=
  ((nI 0), σ)
noncomputable def m_X8_readsRoad_236 (k0 : SS → Int32 → Int32 → Int32 → Int32 × SS) (σ : SS) (a0 : Int32) (a1 : Int32) (a2 : Int32) (a3 : Int32) : Int32 × SS :=
  (a3, σ)
noncomputable def m_X8_readsRoad_226 (k0 : SS → Int32 → Int32 → Int32 → Int32 × SS) (σ : SS) (a0 : Int32) (a1 : Int32) (a2 : Int32) : Int32 × SS :=
  m_X8_readsRoad_236 k0 ((m_X8_ends σ)).2 a0 a1 a2 ((m_X8_ends σ)).1
noncomputable def m_X8_readsRoad_215 (k0 : SS → Int32 → Int32 → Int32 → Int32 × SS) (σ : SS) (a0 : Int32) (a1 : Int32) (a2 : Int32) : Int32 × SS :=
  m_X8_readsRoad_226 k0 (st σ 61 (rl (nI 3)) ((σ 61 (rl (nI 3))) + (nI 1))) a0 a1 a2
noncomputable def m_X8_readsRoad_203 (k0 : SS → Int32 → Int32 → Int32 → Int32 × SS) (σ : SS) (a0 : Int32) (a1 : Int32) (a2 : Int32) : Int32 × SS :=
  m_X8_readsRoad_215 k0 (st σ 61 (rl ((nI 40) + (σ 61 (rl (nI 3))))) (σ 58 17)) a0 a1 a2
noncomputable def m_X8_readsRoad_L57_187_b (k0 : SS → Int32 → Int32 → Int32 → Int32 × SS) (σ : SS) (a0 : Int32) (a1 : Int32) (a2 : Int32) : Int32 × SS :=
  if (σ 61 (rl (nI 3))) ≤ a0 then
    if a1 = (0 : Int32) then
      m_X8_readsRoad_203 k0 (st σ 61 (rl ((nI 28) + (σ 61 (rl (nI 3))))) a2) a0 a1 a2
    else
      m_X8_readsRoad_248 k0 ((m_X8_isWrong σ (nI 4) (σ 58 18))).2 a0 a1 a2
  else
    if a1 = (0 : Int32) then
      if (σ 61 (rl ((nI 28) + a0))) = a2 then
        if (σ 61 (rl ((nI 40) + a0))) = (σ 58 17) then
          k0 σ (a0 + Int32.ofInt (1)) (nI 1) a2
        else
          if (σ 61 (rl ((nI 28) + a0))) = (σ 58 17) then
            if (σ 61 (rl ((nI 40) + a0))) = a2 then
              k0 σ (a0 + Int32.ofInt (1)) (nI 1) a2
            else
              k0 σ (a0 + Int32.ofInt (1)) (nI 0) a2
          else
            k0 σ (a0 + Int32.ofInt (1)) (nI 0) a2
      else
        if (σ 61 (rl ((nI 28) + a0))) = (σ 58 17) then
          if (σ 61 (rl ((nI 40) + a0))) = a2 then
            k0 σ (a0 + Int32.ofInt (1)) (nI 1) a2
          else
            k0 σ (a0 + Int32.ofInt (1)) (nI 0) a2
        else
          k0 σ (a0 + Int32.ofInt (1)) (nI 0) a2
    else
      k0 σ (a0 + Int32.ofInt (1)) (nI 1) a2
noncomputable def m_X8_readsRoad_L57_187 : Nat → SS → Int32 → Int32 → Int32 → Int32 × SS
  | 0 => fun σ _ _ _ => (0, σ)
  | n + 1 => m_X8_readsRoad_L57_187_b (m_X8_readsRoad_L57_187 n)
noncomputable def m_X8_readsRoad_110 (k0 : SS → Int32 → Int32 → Int32 → Int32 × SS) (σ : SS) (a0 : Int32) (a1 : Int32) (a2 : Int32) : Int32 × SS :=
  ((nI 0), σ)
noncomputable def m_X8_readsRoad_98 (k0 : SS → Int32 → Int32 → Int32 → Int32 × SS) (σ : SS) (a0 : Int32) (a1 : Int32) (a2 : Int32) (a3 : Int32) : Int32 × SS :=
  (a3, σ)
noncomputable def m_X8_readsRoad_88 (k0 : SS → Int32 → Int32 → Int32 → Int32 × SS) (σ : SS) (a0 : Int32) (a1 : Int32) (a2 : Int32) : Int32 × SS :=
  m_X8_readsRoad_98 k0 ((m_X8_ends σ)).2 a0 a1 a2 ((m_X8_ends σ)).1
noncomputable def m_X8_readsRoad_77 (k0 : SS → Int32 → Int32 → Int32 → Int32 × SS) (σ : SS) (a0 : Int32) (a1 : Int32) (a2 : Int32) : Int32 × SS :=
  m_X8_readsRoad_88 k0 (st σ 61 (rl (nI 3)) ((σ 61 (rl (nI 3))) + (nI 1))) a0 a1 a2
noncomputable def m_X8_readsRoad_65 (k0 : SS → Int32 → Int32 → Int32 → Int32 × SS) (σ : SS) (a0 : Int32) (a1 : Int32) (a2 : Int32) : Int32 × SS :=
  m_X8_readsRoad_77 k0 (st σ 61 (rl ((nI 40) + (σ 61 (rl (nI 3))))) (σ 58 17)) a0 a1 a2
noncomputable def m_X8_readsRoad_L57_49_b (k0 : SS → Int32 → Int32 → Int32 → Int32 × SS) (σ : SS) (a0 : Int32) (a1 : Int32) (a2 : Int32) : Int32 × SS :=
  if (σ 61 (rl (nI 3))) ≤ a0 then
    if a1 = (0 : Int32) then
      m_X8_readsRoad_65 k0 (st σ 61 (rl ((nI 28) + (σ 61 (rl (nI 3))))) a2) a0 a1 a2
    else
      m_X8_readsRoad_110 k0 ((m_X8_isWrong σ (nI 4) (σ 58 18))).2 a0 a1 a2
  else
    if a1 = (0 : Int32) then
      if (σ 61 (rl ((nI 28) + a0))) = a2 then
        if (σ 61 (rl ((nI 40) + a0))) = (σ 58 17) then
          k0 σ (a0 + Int32.ofInt (1)) (nI 1) a2
        else
          if (σ 61 (rl ((nI 28) + a0))) = (σ 58 17) then
            if (σ 61 (rl ((nI 40) + a0))) = a2 then
              k0 σ (a0 + Int32.ofInt (1)) (nI 1) a2
            else
              k0 σ (a0 + Int32.ofInt (1)) (nI 0) a2
          else
            k0 σ (a0 + Int32.ofInt (1)) (nI 0) a2
      else
        if (σ 61 (rl ((nI 28) + a0))) = (σ 58 17) then
          if (σ 61 (rl ((nI 40) + a0))) = a2 then
            k0 σ (a0 + Int32.ofInt (1)) (nI 1) a2
          else
            k0 σ (a0 + Int32.ofInt (1)) (nI 0) a2
        else
          k0 σ (a0 + Int32.ofInt (1)) (nI 0) a2
    else
      k0 σ (a0 + Int32.ofInt (1)) (nI 1) a2
noncomputable def m_X8_readsRoad_L57_49 : Nat → SS → Int32 → Int32 → Int32 → Int32 × SS
  | 0 => fun σ _ _ _ => (0, σ)
  | n + 1 => m_X8_readsRoad_L57_49_b (m_X8_readsRoad_L57_49 n)
noncomputable def m_X8_readsRoad_40 (σ : SS) (a0 : Int32) (a1 : Int32) : Int32 × SS :=
  if a1 = (0 : Int32) then
    ((nI 0), σ)
  else
    if a0 = (σ 58 17) then
      m_X8_readsRoad_L57_187 2000 σ (nI 0) (nI 1) a0
    else
      m_X8_readsRoad_L57_49 2000 σ (nI 0) (nI 0) a0
noncomputable def m_X8_readsRoad_20 (σ : SS) (a0 : Int32) : Int32 × SS :=
  if a0 = (0 : Int32) then
    ((nI 0), σ)
  else
    m_X8_readsRoad_40 ((m_X8_number σ (nI 0) ((σ 61 (rl (nI 2))) - (nI 1)))).2 (σ 58 17) ((m_X8_number σ (nI 0) ((σ 61 (rl (nI 2))) - (nI 1)))).1
noncomputable def m_X8_readsRoad (σ : SS) : Int32 × SS :=
  m_X8_readsRoad_20 ((m_X8_number σ (nI 0) ((σ 61 (rl (nI 2))) - (nI 1)))).2 ((m_X8_number σ (nI 0) ((σ 61 (rl (nI 2))) - (nI 1)))).1
set_option maxHeartbeats 4000000 in
set_option maxRecDepth 100000 in
theorem c_X8_readsRoad (l : Launch) (D : va_G) (cA ad : Nat → Nat) (t : Nat) (hI : rI ad) (F : Nat → va_E) (hW : WT cA ad F) (hR : aN (F 61) 3 < 12) : MI l D cA ad t yX8_readsRoad wsX8_readsRoad { frames := 2, cells := 0, slots := 0, locals := 46 } [.ref (ad 58)] F (fun r F' => WT cA ad F' ∧ rFr [58, 61] F F' ∧ ((le32 1 r ∧ fN (F' 58) 1 = fN (F 58) 1 ∧ (r ≠ 0 → fN (F 58) 14 ≤ fN (F' 58) 14)) ∧ m_X8_readsRoad (AB ad F) = (r, AB ad F'))) := by
  refine en_I rfl (by decide +kernel) (Nat.le_of_ble_eq_true rfl) ?_
  intro p e s m args below meth c ls0 Q S hK hZ hP hS hl0 hret
  have hl0 : lv_has ls0 6 [(0, .ref (ad 58))] := hl0
  have hFr : rFr [58, 61] F F := rFr.rf
  have hiX8 : ∀ w ∈ u_ws RX8 TX8 23, w ∈ wsX8_readsRoad := in_wsX8_readsRoad_2
  obtain ⟨M, hM⟩ : ∃ M, M = m_X8_readsRoad (AB ad F) := ⟨_, rfl⟩
  obtain ⟨ty1, kn1, no1, en1, at1, sa1, sd1, wr1, pl1, va1, hF1, hb1_1, hb1_2, hb1_3, hb1_4, hb1_5, hb1_6⟩ := wt_m hW
  have hA2 := fN_of (k := 14) (a := at1) hF1 rfl (Nat.lt_of_le_of_lt hb1_5 (by decide))
  have hL2 := fN_of (k := 1) (a := ty1) hF1 rfl (Nat.lt_of_le_of_lt hb1_1 (by decide))
  obtain ⟨g3, hF3, hg3⟩ := wt_I hW (show (61, 52) ∈ rLI by decide)
  obtain ⟨b4, hb4, he4⟩ := (pr_T (by decide) (hg3 3 (by decide))).2.2 rfl
  have hN5 := aN_of (j := 3) hF3 he4 (by omega)
  refine lv_aload_n S.1 S.2.1 dX8_readsRoad_0 rfl (lv_at hl0 0 rfl) ?_
  refine lv_iconst (v := (nI 0)) S.1 S.2.1 dX8_readsRoad_1 (by decide +kernel) ?_
  refine lv_aload_n S.1 S.2.1 dX8_readsRoad_2 rfl (lv_at hl0 0 rfl) ?_
  refine r_get S hK hP 58 (by decide) hF1 (C := RX8) (T := TX8) (N := 23) hiX8 rfl 3 (by decide) (am_at in_wsX8_readsRoad_0 0 rfl) (v := .ref (ad 61)) rfl dX8_readsRoad_3 ?_
  refine lv_iconst (v := (nI 2)) S.1 S.2.1 dX8_readsRoad_6 (by decide +kernel) ?_
  refine r_iald S hK hP 61 (by decide) hF3 (vp_in_nI (show 2 < 52 by omega) (by omega)) dX8_readsRoad_7 ?_
  refine lv_topi (fun v7 e7 => ?_)
  obtain ⟨b8, hb8, he8⟩ := (pr_T (by decide) (hg3 2 (by decide))).2.1 rfl
  obtain rfl : v7 = nI b8 := e7.trans he8
  have m9 : ((AB ad F) 61 (rl (nI 2))) = (nI b8) := (ab_cg rfl rfl).trans ((AB_g hF3).trans e7.symm)
  refine lv_iconst (v := (nI 1)) S.1 S.2.1 dX8_readsRoad_8 (by decide +kernel) ?_
  refine lv_isub S.1 S.2.1 dX8_readsRoad_9 ?_
  refine lv_topi (fun v10 e10 => ?_)
  have m11 : (((AB ad F) 61 (rl (nI 2))) - (nI 1)) = v10 := cg2 (fun (x : Int32) (y : Int32) => x - y) m9 (Eq.refl ((nI 1) : Int32)) e10
  have ks10 : v10.toInt = ((b8 : Nat) : Int) - ((1 : Nat) : Int) := by rw [e10]; exact pk_sub_toInt (by omega) (by omega)
  have hA12 := fN_of (k := 14) (a := at1) hF1 rfl (Nat.lt_of_le_of_lt hb1_5 (by decide))
  have hL12 := fN_of (k := 1) (a := ty1) hF1 rfl (Nat.lt_of_le_of_lt hb1_1 (by decide))
  refine r_cVi (As := [.int (nI 0), .int v10]) (rest := []) S hK hZ hP hS hl0.1 58 (by decide) hF1 (C := RX8) rfl (c_X8_number l D cA ad t hI F hW (nI 0) v10) (cwV 2 S.2.2.2.2 gX8_readsRoad_X8_number rfl rfl rfl (by decide +kernel) ⟨Nat.le_of_ble_eq_true rfl, Nat.le_of_ble_eq_true rfl⟩) rfl rfl (Nat.le_of_ble_eq_true rfl) ⟨Nat.zero_le _, Nat.zero_le _⟩ dX8_readsRoad_10 (fun r13 F13 H13 locs13 hr13 hP13 hS13 => ?_)
  obtain ⟨hW13, hFc13, hr13⟩ := hr13
  obtain ⟨hr13, hm13⟩ := hr13
  have hFr13 := hFr.tr hFc13 (by simp <;> first | omega | (simp only [isC, isJ] at *; omega))
  obtain ⟨⟨b14, hb14, rfl⟩, hz14, hx14, hv14⟩ := hr13
  obtain ⟨ty15, kn15, no15, en15, at15, sa15, sd15, wr15, pl15, va15, hF15, hb15_1, hb15_2, hb15_3, hb15_4, hb15_5, hb15_6⟩ := wt_m hW13
  have hA16 := fN_of (k := 14) (a := at15) hF15 rfl (Nat.lt_of_le_of_lt hb15_5 (by decide))
  have hL16 := fN_of (k := 1) (a := ty15) hF15 rfl (Nat.lt_of_le_of_lt hb15_1 (by decide))
  have ta17 : ((nI 0) : Int32).toInt = ((0 : Nat) : Int) := (nI_toInt (n := 0) (by decide))
  have ta18 : (v10 : Int32).toInt = v10.toInt := rfl
  have hy14 : b14 ≠ 0 → _ := fun q => hx14 (nI_ne0 (by omega) (by omega))
  have hw14 : b14 ≠ 0 → ((0 : Nat) : Int) ≤ va15.toInt ∧ va15.toInt ≤ v10.toInt := fun q => by have h9 := hv14 (nI_ne0 (by omega) (by omega)); rw [show fI (F13 58) 17 = va15 by unfold fI; rw [hF15]; rfl] at h9; omega
  have mc19 : (m_X8_number (AB ad F) (nI 0) (((AB ad F) 61 (rl (nI 2))) - (nI 1))) = ((nI b14), AB ad F13) := (congr (congr (Eq.refl (m_X8_number (AB ad F))) (Eq.refl ((nI 0) : Int32))) m11).trans hm13
  have hE21 : M = m_X8_readsRoad_20 (AB ad F13) (nI b14) := hM.trans ((show m_X8_readsRoad (AB ad F) = m_X8_readsRoad_20 ((m_X8_number (AB ad F) (nI 0) (((AB ad F) 61 (rl (nI 2))) - (nI 1)))).2 ((m_X8_number (AB ad F) (nI 0) (((AB ad F) 61 (rl (nI 2))) - (nI 1)))).1 from rfl).trans (congr (congrArg (m_X8_readsRoad_20) (congrArg Prod.snd mc19)) (congrArg Prod.fst mc19)))
  refine lv_if_ne (tgt := 18) S.1 S.2.1 dX8_readsRoad_13 (by decide) (fun c22 => ?_) (fun c22 => ?_)
  · skip
    have k23 := ci_ne (nI_toInt (n := b14) (Nat.lt_of_le_of_lt hb14 (by decide))) z_ti c22
    refine lv_aload_n S.1 S.2.1 dX8_readsRoad_18 rfl (lv_at hl0 0 rfl) ?_
    refine r_get S hK hP13 58 (by decide) hF15 (C := RX8) (T := TX8) (N := 23) hiX8 rfl 17 (by decide) (am_at in_wsX8_readsRoad_0 1 rfl) (v := .int va15) rfl dX8_readsRoad_19 ?_
    have m24 : ((AB ad F13) 58 17) = va15 := AB_f hF15 rfl
    refine lv_istore_n (lv' := [(1, .int va15), (0, .ref (ad 58))]) S.1 S.2.1 dX8_readsRoad_22 rfl hl0 (by decide) rfl (fun ls25 hl25 => ?_)
    refine lv_aload_n S.1 S.2.1 dX8_readsRoad_23 rfl (lv_at hl25 1 rfl) ?_
    refine lv_iconst (v := (nI 0)) S.1 S.2.1 dX8_readsRoad_24 (by decide +kernel) ?_
    refine lv_aload_n S.1 S.2.1 dX8_readsRoad_25 rfl (lv_at hl25 1 rfl) ?_
    refine r_get S hK hP13 58 (by decide) hF15 (C := RX8) (T := TX8) (N := 23) hiX8 rfl 3 (by decide) (am_at in_wsX8_readsRoad_0 0 rfl) (v := .ref (ad 61)) rfl dX8_readsRoad_26 ?_
    refine lv_iconst (v := (nI 2)) S.1 S.2.1 dX8_readsRoad_29 (by decide +kernel) ?_
    have hF26 := (hFc13 61 (by decide)).trans hF3
    refine r_iald S hK hP13 61 (by decide) hF26 (vp_in_nI (show 2 < 52 by omega) (by omega)) dX8_readsRoad_30 ?_
    refine lv_topi (fun v28 e28 => ?_)
    obtain rfl : v28 = nI b8 := e28.trans he8
    have m29 : ((AB ad F13) 61 (rl (nI 2))) = (nI b8) := (ab_cg rfl rfl).trans ((AB_g hF26).trans e28.symm)
    refine lv_iconst (v := (nI 1)) S.1 S.2.1 dX8_readsRoad_31 (by decide +kernel) ?_
    refine lv_isub S.1 S.2.1 dX8_readsRoad_32 ?_
    refine lv_topi (fun v30 e30 => ?_)
    have m31 : (((AB ad F13) 61 (rl (nI 2))) - (nI 1)) = v30 := cg2 (fun (x : Int32) (y : Int32) => x - y) m29 (Eq.refl ((nI 1) : Int32)) e30
    have ks30 : v30.toInt = ((b8 : Nat) : Int) - ((1 : Nat) : Int) := by rw [e30]; exact pk_sub_toInt (by omega) (by omega)
    have hA32 := fN_of (k := 14) (a := at15) hF15 rfl (Nat.lt_of_le_of_lt hb15_5 (by decide))
    have hL32 := fN_of (k := 1) (a := ty15) hF15 rfl (Nat.lt_of_le_of_lt hb15_1 (by decide))
    refine r_cVi (As := [.int (nI 0), .int v30]) (rest := []) S hK hZ hP13 hS13 hl25.1 58 (by decide) hF15 (C := RX8) rfl (c_X8_number l D cA ad t hI F13 hW13 (nI 0) v30) (cwV 2 S.2.2.2.2 gX8_readsRoad_X8_number rfl rfl rfl (by decide +kernel) ⟨Nat.le_of_ble_eq_true rfl, Nat.le_of_ble_eq_true rfl⟩) rfl rfl (Nat.le_of_ble_eq_true rfl) ⟨Nat.zero_le _, Nat.zero_le _⟩ dX8_readsRoad_33 (fun r33 F33 H33 locs33 hr33 hP33 hS33 => ?_)
    obtain ⟨hW33, hFc33, hr33⟩ := hr33
    obtain ⟨hr33, hm33⟩ := hr33
    have hFr33 := hFr13.tr hFc33 (by simp <;> first | omega | (simp only [isC, isJ] at *; omega))
    obtain ⟨⟨b34, hb34, rfl⟩, hz34, hx34, hv34⟩ := hr33
    obtain ⟨ty35, kn35, no35, en35, at35, sa35, sd35, wr35, pl35, va35, hF35, hb35_1, hb35_2, hb35_3, hb35_4, hb35_5, hb35_6⟩ := wt_m hW33
    have hA36 := fN_of (k := 14) (a := at35) hF35 rfl (Nat.lt_of_le_of_lt hb35_5 (by decide))
    have hL36 := fN_of (k := 1) (a := ty35) hF35 rfl (Nat.lt_of_le_of_lt hb35_1 (by decide))
    have ta37 : ((nI 0) : Int32).toInt = ((0 : Nat) : Int) := (nI_toInt (n := 0) (by decide))
    have ta38 : (v30 : Int32).toInt = v30.toInt := rfl
    have hy34 : b34 ≠ 0 → _ := fun q => hx34 (nI_ne0 (by omega) (by omega))
    have hw34 : b34 ≠ 0 → ((0 : Nat) : Int) ≤ va35.toInt ∧ va35.toInt ≤ v30.toInt := fun q => by have h9 := hv34 (nI_ne0 (by omega) (by omega)); rw [show fI (F33 58) 17 = va35 by unfold fI; rw [hF35]; rfl] at h9; omega
    have mc39 : (m_X8_number (AB ad F13) (nI 0) (((AB ad F13) 61 (rl (nI 2))) - (nI 1))) = ((nI b34), AB ad F33) := (congr (congr (Eq.refl (m_X8_number (AB ad F13))) (Eq.refl ((nI 0) : Int32))) m31).trans hm33
    have hE41 : M = m_X8_readsRoad_40 (AB ad F33) va15 (nI b34) := hE21.trans ((show m_X8_readsRoad_20 (AB ad F13) (nI b14) = m_X8_readsRoad_40 ((m_X8_number (AB ad F13) (nI 0) (((AB ad F13) 61 (rl (nI 2))) - (nI 1)))).2 ((AB ad F13) 58 17) ((m_X8_number (AB ad F13) (nI 0) (((AB ad F13) 61 (rl (nI 2))) - (nI 1)))).1 from by unfold m_X8_readsRoad_20; rw [if_neg (neq_cg rfl rfl c22)]).trans (congr (congr (congrArg (m_X8_readsRoad_40) (congrArg Prod.snd mc39)) m24) (congrArg Prod.fst mc39)))
    refine lv_if_ne (tgt := 41) S.1 S.2.1 dX8_readsRoad_36 (by decide) (fun c42 => ?_) (fun c42 => ?_)
    · skip
      have k43 := ci_ne (nI_toInt (n := b34) (Nat.lt_of_le_of_lt hb34 (by decide))) z_ti c42
      refine lv_iload_n S.1 S.2.1 dX8_readsRoad_41 rfl (lv_at hl25 0 rfl) ?_
      refine lv_aload_n S.1 S.2.1 dX8_readsRoad_42 rfl (lv_at hl25 1 rfl) ?_
      refine r_get S hK hP33 58 (by decide) hF35 (C := RX8) (T := TX8) (N := 23) hiX8 rfl 17 (by decide) (am_at in_wsX8_readsRoad_0 1 rfl) (v := .int va35) rfl dX8_readsRoad_43 ?_
      have m44 : ((AB ad F33) 58 17) = va35 := AB_f hF35 rfl
      refine lv_icmp_ne (tgt := 53) S.1 S.2.1 dX8_readsRoad_46 (by decide) (fun c45 => ?_) (fun c45 => ?_)
      · skip
        have k46 := ci_ne rfl rfl c45
        refine lv_iconst (v := (nI 0)) S.1 S.2.1 dX8_readsRoad_53 (by decide +kernel) ?_
        refine lv_istore_n (lv' := [(2, .int (nI 0)), (1, .int va15), (0, .ref (ad 58))]) S.1 S.2.1 dX8_readsRoad_54 rfl hl25 (by decide) rfl (fun ls47 hl47 => ?_)
        refine lv_iconst (v := (nI 0)) S.1 S.2.1 dX8_readsRoad_55 (by decide +kernel) ?_
        refine lv_istore_n (lv' := [(3, .int (nI 0)), (2, .int (nI 0)), (1, .int va15), (0, .ref (ad 58))]) S.1 S.2.1 dX8_readsRoad_56 rfl hl47 (by decide) rfl (fun ls48 hl48 => ?_)
        have lp49 : ∀ (n49 : Nat) (q349 : Nat) (x49_2 : Int32), q349 ≤ 12 → 12 - q349 < n49 → M = m_X8_readsRoad_L57_49 n49 (AB ad F33) (nI q349) x49_2 va15 → ∀ (ls : Array Slot), lv_has ls 6 [(3, .int (nI q349)), (2, .int x49_2), (1, .int va15), (0, .ref (ad 58))] → W p l e { frames := 2, cells := 0, slots := 0, locals := 46 } s m args below meth c H33 locs33 0 0 Q (F0 m 57 ls []) := by
          intro n49
          induction n49 with
          | zero =>
            intro q349 x49_2 iv49_0 hm49 hEl49 ls49 hl49
            exact absurd hm49 (Nat.not_lt_zero _)
          | succ n49 ih49 =>
            intro q349 x49_2 iv49_0 hm49 hEl49 ls49 hl49
            have hE50 : M = m_X8_readsRoad_L57_49_b (m_X8_readsRoad_L57_49 n49) (AB ad F33) (nI q349) x49_2 va15 := hEl49
            refine lv_iload_n S.1 S.2.1 dX8_readsRoad_57 rfl (lv_at hl49 0 rfl) ?_
            refine lv_aload_n S.1 S.2.1 dX8_readsRoad_58 rfl (lv_at hl49 3 rfl) ?_
            refine r_get S hK hP33 58 (by decide) hF35 (C := RX8) (T := TX8) (N := 23) hiX8 rfl 3 (by decide) (am_at in_wsX8_readsRoad_0 0 rfl) (v := .ref (ad 61)) rfl dX8_readsRoad_59 ?_
            refine lv_iconst (v := (nI 3)) S.1 S.2.1 dX8_readsRoad_62 (by decide +kernel) ?_
            have hF51 := (hFc33 61 (by decide)).trans hF26
            refine r_iald S hK hP33 61 (by decide) hF51 (vp_in_nI (show 3 < 52 by omega) (by omega)) dX8_readsRoad_63 ?_
            refine lv_topi (fun v53 e53 => ?_)
            obtain rfl : v53 = nI b4 := e53.trans he4
            have m54 : ((AB ad F33) 61 (rl (nI 3))) = (nI b4) := (ab_cg rfl rfl).trans ((AB_g hF51).trans e53.symm)
            refine lv_icmp_ge (tgt := 135) S.1 S.2.1 dX8_readsRoad_64 (by decide) (fun c55 => ?_) (fun c55 => ?_)
            · skip
              have k56 := ci_le (nI_toInt (n := b4) (Nat.lt_of_le_of_lt hb4 (by decide))) (nI_toInt (n := q349) (by omega)) c55
              refine lv_iload_n S.1 S.2.1 dX8_readsRoad_135 rfl (lv_at hl49 1 rfl) ?_
              refine lv_if_eq (tgt := 149) S.1 S.2.1 dX8_readsRoad_136 (by decide) (fun c57 => ?_) (fun c57 => ?_)
              · skip
                have k58 := ci_eq rfl z_ti c57
                refine lv_aload_n S.1 S.2.1 dX8_readsRoad_149 rfl (lv_at hl49 3 rfl) ?_
                refine r_get S hK hP33 58 (by decide) hF35 (C := RX8) (T := TX8) (N := 23) hiX8 rfl 3 (by decide) (am_at in_wsX8_readsRoad_0 0 rfl) (v := .ref (ad 61)) rfl dX8_readsRoad_150 ?_
                refine lv_bipush (v := (nI 28)) S.1 S.2.1 dX8_readsRoad_153 (by decide +kernel) ?_
                refine lv_aload_n S.1 S.2.1 dX8_readsRoad_155 rfl (lv_at hl49 3 rfl) ?_
                refine r_get S hK hP33 58 (by decide) hF35 (C := RX8) (T := TX8) (N := 23) hiX8 rfl 3 (by decide) (am_at in_wsX8_readsRoad_0 0 rfl) (v := .ref (ad 61)) rfl dX8_readsRoad_156 ?_
                refine lv_iconst (v := (nI 3)) S.1 S.2.1 dX8_readsRoad_159 (by decide +kernel) ?_
                refine r_iald S hK hP33 61 (by decide) hF51 (vp_in_nI (show 3 < 52 by omega) (by omega)) dX8_readsRoad_160 ?_
                refine lv_topi (fun v60 e60 => ?_)
                obtain rfl : v60 = nI b4 := e60.trans he4
                have m61 : ((AB ad F33) 61 (rl (nI 3))) = (nI b4) := (ab_cg rfl rfl).trans ((AB_g hF51).trans e60.symm)
                refine lv_iadd S.1 S.2.1 dX8_readsRoad_161 ?_
                refine lv_topi (fun v62 e62 => ?_)
                obtain rfl : v62 = nI (28 + b4) := e62.trans (nI_add _ _)
                have m63 : ((nI 28) + ((AB ad F33) 61 (rl (nI 3)))) = (nI (28 + b4)) := cg2 (fun (x : Int32) (y : Int32) => x + y) (Eq.refl ((nI 28) : Int32)) m61 e62
                refine lv_iload_n S.1 S.2.1 dX8_readsRoad_162 rfl (lv_at hl49 2 rfl) ?_
                refine r_iast S hI hK hP33 hS33 61 (by decide) hF51 (vp_in_nI (show 28 + b4 < 52 by omega) (by omega)) dX8_readsRoad_163 (fun F64 H64 locs64 eF64 hP64 hS64 => ?_)
                have hW64 := hW33.up eF64 (ok_I (show (61, 52) ∈ rLI by decide) (okI_up hg3 (by rw [nI_clamp (by omega)]; exact to_T (by decide) (okT_o (by omega) (by omega) (by omega)))))
                have hFr64 := hFr33.up eF64 (by simp <;> first | omega | (simp only [isC, isJ] at *; omega))
                have hE66 : M = m_X8_readsRoad_65 (m_X8_readsRoad_L57_49 n49) (AB ad F64) (nI q349) x49_2 va15 := hE50.trans ((show m_X8_readsRoad_L57_49_b (m_X8_readsRoad_L57_49 n49) (AB ad F33) (nI q349) x49_2 va15 = m_X8_readsRoad_65 (m_X8_readsRoad_L57_49 n49) (st (AB ad F33) 61 (rl ((nI 28) + ((AB ad F33) 61 (rl (nI 3))))) va15) (nI q349) x49_2 va15 from by unfold m_X8_readsRoad_L57_49_b; rw [if_pos (le_cg m54 rfl c55), if_pos (eq_cg rfl rfl c57)]).trans (congr (congr (congr (congrArg (m_X8_readsRoad_65 (m_X8_readsRoad_L57_49 n49)) ((st_cg rfl (congrArg rl m63) rfl).trans (AB_ast hF51 eF64).symm)) (Eq.refl ((nI q349) : Int32))) (Eq.refl (x49_2 : Int32))) (Eq.refl (va15 : Int32))))
                obtain ⟨gg64, eg64⟩ : ∃ g9, g9 = upd g3 (nI (28 + b4)).toNatClampNeg va15 := ⟨_, rfl⟩
                have hF64 : F64 61 = .inl (cA 0, 52, .inl gg64) := by rw [eF64, eg64]; exact va_up_self _ _ _
                have hg64 : ∀ j, j < 52 → rPr 61 j (gg64 j) := by rw [eg64]; exact pr_up hg3 (by rw [nI_clamp (by omega)]; exact to_T (by decide) (okT_o (by omega) (by omega) (by omega)))
                have he67 : gg64 3 = nI b4 := by rw [eg64, pk_un (by rw [nI_clamp (by omega)]; omega)]; exact he4
                have he68 : gg64 2 = nI b8 := by rw [eg64, pk_un (by rw [nI_clamp (by omega)]; omega)]; exact he8
                refine lv_aload_n S.1 S.2.1 dX8_readsRoad_164 rfl (lv_at hl49 3 rfl) ?_
                have hF69 := (show F64 58 = F33 58 by rw [eF64]; exact va_up_ne _ _ (by decide)).trans hF35
                refine r_get S hK hP64 58 (by decide) hF69 (C := RX8) (T := TX8) (N := 23) hiX8 rfl 3 (by decide) (am_at in_wsX8_readsRoad_0 0 rfl) (v := .ref (ad 61)) rfl dX8_readsRoad_165 ?_
                refine lv_bipush (v := (nI 40)) S.1 S.2.1 dX8_readsRoad_168 (by decide +kernel) ?_
                refine lv_aload_n S.1 S.2.1 dX8_readsRoad_170 rfl (lv_at hl49 3 rfl) ?_
                refine r_get S hK hP64 58 (by decide) hF69 (C := RX8) (T := TX8) (N := 23) hiX8 rfl 3 (by decide) (am_at in_wsX8_readsRoad_0 0 rfl) (v := .ref (ad 61)) rfl dX8_readsRoad_171 ?_
                refine lv_iconst (v := (nI 3)) S.1 S.2.1 dX8_readsRoad_174 (by decide +kernel) ?_
                refine r_iald S hK hP64 61 (by decide) hF64 (vp_in_nI (show 3 < 52 by omega) (by omega)) dX8_readsRoad_175 ?_
                refine lv_topi (fun v71 e71 => ?_)
                obtain rfl : v71 = nI b4 := e71.trans he67
                have m72 : ((AB ad F64) 61 (rl (nI 3))) = (nI b4) := (ab_cg rfl rfl).trans ((AB_g hF64).trans e71.symm)
                refine lv_iadd S.1 S.2.1 dX8_readsRoad_176 ?_
                refine lv_topi (fun v73 e73 => ?_)
                obtain rfl : v73 = nI (40 + b4) := e73.trans (nI_add _ _)
                have m74 : ((nI 40) + ((AB ad F64) 61 (rl (nI 3)))) = (nI (40 + b4)) := cg2 (fun (x : Int32) (y : Int32) => x + y) (Eq.refl ((nI 40) : Int32)) m72 e73
                refine lv_aload_n S.1 S.2.1 dX8_readsRoad_177 rfl (lv_at hl49 3 rfl) ?_
                refine r_get S hK hP64 58 (by decide) hF69 (C := RX8) (T := TX8) (N := 23) hiX8 rfl 17 (by decide) (am_at in_wsX8_readsRoad_0 1 rfl) (v := .int va35) rfl dX8_readsRoad_178 ?_
                have m75 : ((AB ad F64) 58 17) = va35 := AB_f hF69 rfl
                refine r_iast S hI hK hP64 hS64 61 (by decide) hF64 (vp_in_nI (show 40 + b4 < 52 by omega) (by omega)) dX8_readsRoad_181 (fun F76 H76 locs76 eF76 hP76 hS76 => ?_)
                have hW76 := hW64.up eF76 (ok_I (show (61, 52) ∈ rLI by decide) (okI_up hg64 (by rw [nI_clamp (by omega)]; exact to_T (by decide) (okT_o (by omega) (by omega) (by omega)))))
                have hFr76 := hFr64.up eF76 (by simp <;> first | omega | (simp only [isC, isJ] at *; omega))
                have hE78 : M = m_X8_readsRoad_77 (m_X8_readsRoad_L57_49 n49) (AB ad F76) (nI q349) x49_2 va15 := hE66.trans ((show m_X8_readsRoad_65 (m_X8_readsRoad_L57_49 n49) (AB ad F64) (nI q349) x49_2 va15 = m_X8_readsRoad_77 (m_X8_readsRoad_L57_49 n49) (st (AB ad F64) 61 (rl ((nI 40) + ((AB ad F64) 61 (rl (nI 3))))) ((AB ad F64) 58 17)) (nI q349) x49_2 va15 from rfl).trans (congr (congr (congr (congrArg (m_X8_readsRoad_77 (m_X8_readsRoad_L57_49 n49)) ((st_cg rfl (congrArg rl m74) m75).trans (AB_ast hF64 eF76).symm)) (Eq.refl ((nI q349) : Int32))) (Eq.refl (x49_2 : Int32))) (Eq.refl (va15 : Int32))))
                obtain ⟨gg76, eg76⟩ : ∃ g9, g9 = upd gg64 (nI (40 + b4)).toNatClampNeg va35 := ⟨_, rfl⟩
                have hF76 : F76 61 = .inl (cA 0, 52, .inl gg76) := by rw [eF76, eg76]; exact va_up_self _ _ _
                have hg76 : ∀ j, j < 52 → rPr 61 j (gg76 j) := by rw [eg76]; exact pr_up hg64 (by rw [nI_clamp (by omega)]; exact to_T (by decide) (okT_o (by omega) (by omega) (by omega)))
                have he79 : gg76 3 = nI b4 := by rw [eg76, pk_un (by rw [nI_clamp (by omega)]; omega)]; exact he67
                have he80 : gg76 2 = nI b8 := by rw [eg76, pk_un (by rw [nI_clamp (by omega)]; omega)]; exact he68
                refine lv_aload_n S.1 S.2.1 dX8_readsRoad_182 rfl (lv_at hl49 3 rfl) ?_
                have hF81 := (show F76 58 = F64 58 by rw [eF76]; exact va_up_ne _ _ (by decide)).trans hF69
                refine r_get S hK hP76 58 (by decide) hF81 (C := RX8) (T := TX8) (N := 23) hiX8 rfl 3 (by decide) (am_at in_wsX8_readsRoad_0 0 rfl) (v := .ref (ad 61)) rfl dX8_readsRoad_183 ?_
                refine lv_iconst (v := (nI 3)) S.1 S.2.1 dX8_readsRoad_186 (by decide +kernel) ?_
                refine lv_dup2_11 S.1 S.2.1 dX8_readsRoad_187 rfl rfl ?_
                refine r_iald S hK hP76 61 (by decide) hF76 (vp_in_nI (show 3 < 52 by omega) (by omega)) dX8_readsRoad_188 ?_
                refine lv_topi (fun v83 e83 => ?_)
                obtain rfl : v83 = nI b4 := e83.trans he79
                have m84 : ((AB ad F76) 61 (rl (nI 3))) = (nI b4) := (ab_cg rfl rfl).trans ((AB_g hF76).trans e83.symm)
                refine lv_iconst (v := (nI 1)) S.1 S.2.1 dX8_readsRoad_189 (by decide +kernel) ?_
                refine lv_iadd S.1 S.2.1 dX8_readsRoad_190 ?_
                refine lv_topi (fun v85 e85 => ?_)
                obtain rfl : v85 = nI (b4 + 1) := e85.trans (nI_add _ _)
                have m86 : (((AB ad F76) 61 (rl (nI 3))) + (nI 1)) = (nI (b4 + 1)) := cg2 (fun (x : Int32) (y : Int32) => x + y) m84 (Eq.refl ((nI 1) : Int32)) e85
                refine r_iast S hI hK hP76 hS76 61 (by decide) hF76 (vp_in_nI (show 3 < 52 by omega) (by omega)) dX8_readsRoad_191 (fun F87 H87 locs87 eF87 hP87 hS87 => ?_)
                have hW87 := hW76.up eF87 (ok_I (show (61, 52) ∈ rLI by decide) (okI_up hg76 (by rw [nI_clamp (by omega)]; exact to_T (by decide) (okT_3 ⟨b4 + 1, by omega, rfl⟩))))
                have hFr87 := hFr76.up eF87 (by simp <;> first | omega | (simp only [isC, isJ] at *; omega))
                have hE89 : M = m_X8_readsRoad_88 (m_X8_readsRoad_L57_49 n49) (AB ad F87) (nI q349) x49_2 va15 := hE78.trans ((show m_X8_readsRoad_77 (m_X8_readsRoad_L57_49 n49) (AB ad F76) (nI q349) x49_2 va15 = m_X8_readsRoad_88 (m_X8_readsRoad_L57_49 n49) (st (AB ad F76) 61 (rl (nI 3)) (((AB ad F76) 61 (rl (nI 3))) + (nI 1))) (nI q349) x49_2 va15 from rfl).trans (congr (congr (congr (congrArg (m_X8_readsRoad_88 (m_X8_readsRoad_L57_49 n49)) ((st_cg rfl (congrArg rl rfl) m86).trans (AB_ast hF76 eF87).symm)) (Eq.refl ((nI q349) : Int32))) (Eq.refl (x49_2 : Int32))) (Eq.refl (va15 : Int32))))
                obtain ⟨gg87, eg87⟩ : ∃ g9, g9 = upd gg76 (nI 3).toNatClampNeg (nI (b4 + 1)) := ⟨_, rfl⟩
                have hF87 : F87 61 = .inl (cA 0, 52, .inl gg87) := by rw [eF87, eg87]; exact va_up_self _ _ _
                have hg87 : ∀ j, j < 52 → rPr 61 j (gg87 j) := by rw [eg87]; exact pr_up hg76 (by rw [nI_clamp (by omega)]; exact to_T (by decide) (okT_3 ⟨b4 + 1, by omega, rfl⟩))
                have he90 : gg87 2 = nI b8 := by rw [eg87, pk_un (by rw [nI_clamp (by omega)]; omega)]; exact he80
                refine lv_aload_n S.1 S.2.1 dX8_readsRoad_192 rfl (lv_at hl49 3 rfl) ?_
                have hF91 := (show F87 58 = F76 58 by rw [eF87]; exact va_up_ne _ _ (by decide)).trans hF81
                have hA92 := fN_of (k := 14) (a := at35) hF91 rfl (Nat.lt_of_le_of_lt hb35_5 (by decide))
                have hL92 := fN_of (k := 1) (a := ty35) hF91 rfl (Nat.lt_of_le_of_lt hb35_1 (by decide))
                refine r_cVi (As := []) (rest := []) S hK hZ hP87 hS87 hl49.1 58 (by decide) hF91 (C := RX8) rfl (c_X8_ends l D cA ad t hI F87 hW87 ) (cwV 0 S.2.2.2.2 gX8_readsRoad_X8_ends rfl rfl rfl (by decide +kernel) ⟨Nat.le_of_ble_eq_true rfl, Nat.le_of_ble_eq_true rfl⟩) rfl rfl (Nat.le_of_ble_eq_true rfl) ⟨Nat.zero_le _, Nat.zero_le _⟩ dX8_readsRoad_193 (fun r93 F93 H93 locs93 hr93 hP93 hS93 => ?_)
                obtain ⟨hW93, hFc93, hr93⟩ := hr93
                obtain ⟨hr93, hm93⟩ := hr93
                have hFr93 := hFr87.tr hFc93 (by simp <;> first | omega | (simp only [isC, isJ] at *; omega))
                obtain ⟨⟨b94, hb94, rfl⟩, hz94, hx94⟩ := hr93
                obtain ⟨ty95, kn95, no95, en95, at95, sa95, sd95, wr95, pl95, va95, hF95, hb95_1, hb95_2, hb95_3, hb95_4, hb95_5, hb95_6⟩ := wt_m hW93
                have hA96 := fN_of (k := 14) (a := at95) hF95 rfl (Nat.lt_of_le_of_lt hb95_5 (by decide))
                have hL96 := fN_of (k := 1) (a := ty95) hF95 rfl (Nat.lt_of_le_of_lt hb95_1 (by decide))
                have hy94 : b94 ≠ 0 → _ := fun q => hx94 (nI_ne0 (by omega) (by omega))
                have mc97 : (m_X8_ends (AB ad F87)) = ((nI b94), AB ad F93) := (Eq.refl (m_X8_ends (AB ad F87))).trans hm93
                have hE99 : M = m_X8_readsRoad_98 (m_X8_readsRoad_L57_49 n49) (AB ad F93) (nI q349) x49_2 va15 (nI b94) := hE89.trans ((show m_X8_readsRoad_88 (m_X8_readsRoad_L57_49 n49) (AB ad F87) (nI q349) x49_2 va15 = m_X8_readsRoad_98 (m_X8_readsRoad_L57_49 n49) ((m_X8_ends (AB ad F87))).2 (nI q349) x49_2 va15 ((m_X8_ends (AB ad F87))).1 from rfl).trans (congr (congr (congr (congr (congrArg (m_X8_readsRoad_98 (m_X8_readsRoad_L57_49 n49)) (congrArg Prod.snd mc97)) (Eq.refl ((nI q349) : Int32))) (Eq.refl (x49_2 : Int32))) (Eq.refl (va15 : Int32))) (congrArg Prod.fst mc97)))
                have hA100 := fN_of (k := 14) (a := at95) hF95 rfl (Nat.lt_of_le_of_lt hb95_5 (by decide))
                have hL100 := fN_of (k := 1) (a := ty95) hF95 rfl (Nat.lt_of_le_of_lt hb95_1 (by decide))
                have hE101 : M = ((nI b94), AB ad F93) := hE99.trans ((show m_X8_readsRoad_98 (m_X8_readsRoad_L57_49 n49) (AB ad F93) (nI q349) x49_2 va15 (nI b94) = ((nI b94), (AB ad F93)) from rfl).trans (congrArg (fun q => (q, AB ad F93)) rfl))
                exact hret 196 _ _ _ _ _ dX8_readsRoad_196 (nar_bool (by omega)) hP93 hS93 ⟨hW93, hFr93, ⟨⟨⟨b94, by omega, rfl⟩, by omega, fun h => by have hb9 : b94 ≠ 0 := fun q => h (by rw [q]; rfl); omega⟩, hM.symm.trans hE101⟩⟩
              have k102 := ci_ne rfl z_ti c57
              refine lv_aload_n S.1 S.2.1 dX8_readsRoad_139 rfl (lv_at hl49 3 rfl) ?_
              refine lv_iconst (v := (nI 4)) S.1 S.2.1 dX8_readsRoad_140 (by decide +kernel) ?_
              refine lv_aload_n S.1 S.2.1 dX8_readsRoad_141 rfl (lv_at hl49 3 rfl) ?_
              refine r_get S hK hP33 58 (by decide) hF35 (C := RX8) (T := TX8) (N := 23) hiX8 rfl 18 (by decide) (am_at in_wsX8_readsRoad_0 2 rfl) (v := .int (nI sa35)) rfl dX8_readsRoad_142 ?_
              have m103 : ((AB ad F33) 58 18) = (nI sa35) := AB_f hF35 rfl
              have hA104 := fN_of (k := 14) (a := at35) hF35 rfl (Nat.lt_of_le_of_lt hb35_5 (by decide))
              have hL104 := fN_of (k := 1) (a := ty35) hF35 rfl (Nat.lt_of_le_of_lt hb35_1 (by decide))
              refine r_cVi (As := [.int (nI 4), .int (nI sa35)]) (rest := []) S hK hZ hP33 hS33 hl49.1 58 (by decide) hF35 (C := RX8) rfl (c_X8_isWrong l D cA ad t hI F33 hW33 (nI 4) (sa35) (by omega)) (cwV 2 S.2.2.2.2 gX8_readsRoad_X8_isWrong rfl rfl rfl (by decide +kernel) ⟨Nat.le_of_ble_eq_true rfl, Nat.le_of_ble_eq_true rfl⟩) rfl rfl (Nat.le_of_ble_eq_true rfl) ⟨Nat.zero_le _, Nat.zero_le _⟩ dX8_readsRoad_145 (fun r105 F105 H105 locs105 hr105 hP105 hS105 => ?_)
              obtain ⟨hW105, hFc105, hr105⟩ := hr105
              obtain ⟨hr105, hm105⟩ := hr105
              have hFr105 := hFr33.tr hFc105 (by simp <;> first | omega | (simp only [isC, isJ] at *; omega))
              obtain ⟨rfl, hz106⟩ := hr105
              obtain ⟨ty107, kn107, no107, en107, at107, sa107, sd107, wr107, pl107, va107, hF107, hb107_1, hb107_2, hb107_3, hb107_4, hb107_5, hb107_6⟩ := wt_m hW105
              have hA108 := fN_of (k := 14) (a := at107) hF107 rfl (Nat.lt_of_le_of_lt hb107_5 (by decide))
              have hL108 := fN_of (k := 1) (a := ty107) hF107 rfl (Nat.lt_of_le_of_lt hb107_1 (by decide))
              have mc109 : (m_X8_isWrong (AB ad F33) (nI 4) ((AB ad F33) 58 18)) = ((nI 0), AB ad F105) := (congr (congr (Eq.refl (m_X8_isWrong (AB ad F33))) (Eq.refl ((nI 4) : Int32))) m103).trans hm105
              have hE111 : M = m_X8_readsRoad_110 (m_X8_readsRoad_L57_49 n49) (AB ad F105) (nI q349) x49_2 va15 := hE50.trans ((show m_X8_readsRoad_L57_49_b (m_X8_readsRoad_L57_49 n49) (AB ad F33) (nI q349) x49_2 va15 = m_X8_readsRoad_110 (m_X8_readsRoad_L57_49 n49) ((m_X8_isWrong (AB ad F33) (nI 4) ((AB ad F33) 58 18))).2 (nI q349) x49_2 va15 from by unfold m_X8_readsRoad_L57_49_b; rw [if_pos (le_cg m54 rfl c55), if_neg (neq_cg rfl rfl c57)]).trans (congr (congr (congr (congrArg (m_X8_readsRoad_110 (m_X8_readsRoad_L57_49 n49)) (congrArg Prod.snd mc109)) (Eq.refl ((nI q349) : Int32))) (Eq.refl (x49_2 : Int32))) (Eq.refl (va15 : Int32))))
              have hA112 := fN_of (k := 14) (a := at107) hF107 rfl (Nat.lt_of_le_of_lt hb107_5 (by decide))
              have hL112 := fN_of (k := 1) (a := ty107) hF107 rfl (Nat.lt_of_le_of_lt hb107_1 (by decide))
              have hE113 : M = ((nI 0), AB ad F105) := hE111.trans ((show m_X8_readsRoad_110 (m_X8_readsRoad_L57_49 n49) (AB ad F105) (nI q349) x49_2 va15 = ((nI 0), (AB ad F105)) from rfl).trans (congrArg (fun q => (q, AB ad F105)) rfl))
              exact hret 148 _ _ _ _ _ dX8_readsRoad_148 rfl hP105 hS105 ⟨hW105, hFr105, ⟨⟨⟨0, by omega, rfl⟩, by omega, fun h => absurd rfl h⟩, hM.symm.trans hE113⟩⟩
            have k114 := ci_nle (nI_toInt (n := b4) (Nat.lt_of_le_of_lt hb4 (by decide))) (nI_toInt (n := q349) (by omega)) c55
            refine lv_aload_n S.1 S.2.1 dX8_readsRoad_67 rfl (lv_at hl49 3 rfl) ?_
            refine r_get S hK hP33 58 (by decide) hF35 (C := RX8) (T := TX8) (N := 23) hiX8 rfl 3 (by decide) (am_at in_wsX8_readsRoad_0 0 rfl) (v := .ref (ad 61)) rfl dX8_readsRoad_68 ?_
            refine lv_bipush (v := (nI 28)) S.1 S.2.1 dX8_readsRoad_71 (by decide +kernel) ?_
            refine lv_iload_n S.1 S.2.1 dX8_readsRoad_73 rfl (lv_at hl49 0 rfl) ?_
            refine lv_iadd S.1 S.2.1 dX8_readsRoad_74 ?_
            refine lv_topi (fun v115 e115 => ?_)
            obtain rfl : v115 = nI (28 + q349) := e115.trans (nI_add _ _)
            have m116 : ((nI 28) + (nI q349)) = (nI (28 + q349)) := cg2 (fun (x : Int32) (y : Int32) => x + y) (Eq.refl ((nI 28) : Int32)) (Eq.refl ((nI q349) : Int32)) e115
            refine r_iald S hK hP33 61 (by decide) hF51 (vp_in_nI (show 28 + q349 < 52 by omega) (by omega)) dX8_readsRoad_75 ?_
            refine lv_topi (fun v118 e118 => ?_)
            have m119 : ((AB ad F33) 61 (rl ((nI 28) + (nI q349)))) = v118 := (ab_cg rfl m116).trans ((AB_g hF51).trans e118.symm)
            refine lv_istore (lv' := [(4, .int v118), (3, .int (nI q349)), (2, .int x49_2), (1, .int va15), (0, .ref (ad 58))]) S.1 S.2.1 dX8_readsRoad_76 hl49 (by decide) rfl (fun ls120 hl120 => ?_)
            refine lv_aload_n S.1 S.2.1 dX8_readsRoad_78 rfl (lv_at hl120 4 rfl) ?_
            refine r_get S hK hP33 58 (by decide) hF35 (C := RX8) (T := TX8) (N := 23) hiX8 rfl 3 (by decide) (am_at in_wsX8_readsRoad_0 0 rfl) (v := .ref (ad 61)) rfl dX8_readsRoad_79 ?_
            refine lv_bipush (v := (nI 40)) S.1 S.2.1 dX8_readsRoad_82 (by decide +kernel) ?_
            refine lv_iload_n S.1 S.2.1 dX8_readsRoad_84 rfl (lv_at hl120 1 rfl) ?_
            refine lv_iadd S.1 S.2.1 dX8_readsRoad_85 ?_
            refine lv_topi (fun v121 e121 => ?_)
            obtain rfl : v121 = nI (40 + q349) := e121.trans (nI_add _ _)
            have m122 : ((nI 40) + (nI q349)) = (nI (40 + q349)) := cg2 (fun (x : Int32) (y : Int32) => x + y) (Eq.refl ((nI 40) : Int32)) (Eq.refl ((nI q349) : Int32)) e121
            refine r_iald S hK hP33 61 (by decide) hF51 (vp_in_nI (show 40 + q349 < 52 by omega) (by omega)) dX8_readsRoad_86 ?_
            refine lv_topi (fun v124 e124 => ?_)
            have m125 : ((AB ad F33) 61 (rl ((nI 40) + (nI q349)))) = v124 := (ab_cg rfl m122).trans ((AB_g hF51).trans e124.symm)
            refine lv_istore (lv' := [(5, .int v124), (4, .int v118), (3, .int (nI q349)), (2, .int x49_2), (1, .int va15), (0, .ref (ad 58))]) S.1 S.2.1 dX8_readsRoad_87 hl120 (by decide) rfl (fun ls126 hl126 => ?_)
            refine lv_iload_n S.1 S.2.1 dX8_readsRoad_89 rfl (lv_at hl126 3 rfl) ?_
            refine lv_if_ne (tgt := 123) S.1 S.2.1 dX8_readsRoad_90 (by decide) (fun c127 => ?_) (fun c127 => ?_)
            · skip
              have k128 := ci_ne rfl z_ti c127
              refine lv_iconst (v := (nI 1)) S.1 S.2.1 dX8_readsRoad_123 (by decide +kernel) ?_
              refine lv_goto (tgt := 128) S.1 S.2.1 dX8_readsRoad_124 (by decide) ?_
              refine lv_istore_n (lv' := [(2, .int (nI 1)), (5, .int v124), (4, .int v118), (3, .int (nI q349)), (1, .int va15), (0, .ref (ad 58))]) S.1 S.2.1 dX8_readsRoad_128 rfl hl126 (by decide) rfl (fun ls129 hl129 => ?_)
              have m131 : ((nI q349) + Int32.ofInt (1)) = (nI (q349 + 1)) := (congrArg (fun q : Int32 => q + Int32.ofInt (1)) rfl).trans (nI_add _ 1)
              refine lv_iinc (v := (nI (q349 + 1))) (lv' := [(3, .int (nI (q349 + 1))), (2, .int (nI 1)), (5, .int v124), (4, .int v118), (1, .int va15), (0, .ref (ad 58))]) S.1 S.2.1 dX8_readsRoad_129 hl129 (k := 3) rfl (nI_add _ 1) (by decide) rfl (fun ls130 hl130 => ?_)
              refine lv_goto (tgt := 57) S.1 S.2.1 dX8_readsRoad_132 (by decide) ?_
              have hE132 : M = (m_X8_readsRoad_L57_49 n49) (AB ad F33) (nI (q349 + 1)) (nI 1) va15 := hE50.trans ((show m_X8_readsRoad_L57_49_b (m_X8_readsRoad_L57_49 n49) (AB ad F33) (nI q349) x49_2 va15 = (m_X8_readsRoad_L57_49 n49) (AB ad F33) ((nI q349) + Int32.ofInt (1)) (nI 1) va15 from by unfold m_X8_readsRoad_L57_49_b; rw [if_neg (nle_cg m54 rfl c55), if_neg (neq_cg rfl rfl c127)]).trans (congr (congr (congr (congrArg ((m_X8_readsRoad_L57_49 n49)) (rfl : AB ad F33 = AB ad F33)) m131) (Eq.refl ((nI 1) : Int32))) (Eq.refl (va15 : Int32))))
              exact ih49 (q349 + 1) ((nI 1)) (by omega) (by omega) hE132 ls130 (lv_sub hl130 [0, 1, 4, 5] rfl)
            have k133 := ci_eq rfl z_ti c127
            refine lv_iload S.1 S.2.1 dX8_readsRoad_93 (lv_at hl126 1 rfl) ?_
            refine lv_iload_n S.1 S.2.1 dX8_readsRoad_95 rfl (lv_at hl126 4 rfl) ?_
            refine lv_icmp_ne (tgt := 108) S.1 S.2.1 dX8_readsRoad_96 (by decide) (fun c134 => ?_) (fun c134 => ?_)
            · skip
              have k135 := ci_ne rfl rfl c134
              refine lv_iload S.1 S.2.1 dX8_readsRoad_108 (lv_at hl126 1 rfl) ?_
              refine lv_aload_n S.1 S.2.1 dX8_readsRoad_110 rfl (lv_at hl126 5 rfl) ?_
              refine r_get S hK hP33 58 (by decide) hF35 (C := RX8) (T := TX8) (N := 23) hiX8 rfl 17 (by decide) (am_at in_wsX8_readsRoad_0 1 rfl) (v := .int va35) rfl dX8_readsRoad_111 ?_
              have m136 : ((AB ad F33) 58 17) = va35 := AB_f hF35 rfl
              refine lv_icmp_ne (tgt := 127) S.1 S.2.1 dX8_readsRoad_114 (by decide) (fun c137 => ?_) (fun c137 => ?_)
              · skip
                have k138 := ci_ne rfl rfl c137
                refine lv_iconst (v := (nI 0)) S.1 S.2.1 dX8_readsRoad_127 (by decide +kernel) ?_
                refine lv_istore_n (lv' := [(2, .int (nI 0)), (5, .int v124), (4, .int v118), (3, .int (nI q349)), (1, .int va15), (0, .ref (ad 58))]) S.1 S.2.1 dX8_readsRoad_128 rfl hl126 (by decide) rfl (fun ls139 hl139 => ?_)
                have m141 : ((nI q349) + Int32.ofInt (1)) = (nI (q349 + 1)) := (congrArg (fun q : Int32 => q + Int32.ofInt (1)) rfl).trans (nI_add _ 1)
                refine lv_iinc (v := (nI (q349 + 1))) (lv' := [(3, .int (nI (q349 + 1))), (2, .int (nI 0)), (5, .int v124), (4, .int v118), (1, .int va15), (0, .ref (ad 58))]) S.1 S.2.1 dX8_readsRoad_129 hl139 (k := 3) rfl (nI_add _ 1) (by decide) rfl (fun ls140 hl140 => ?_)
                refine lv_goto (tgt := 57) S.1 S.2.1 dX8_readsRoad_132 (by decide) ?_
                have hE142 : M = (m_X8_readsRoad_L57_49 n49) (AB ad F33) (nI (q349 + 1)) (nI 0) va15 := hE50.trans ((show m_X8_readsRoad_L57_49_b (m_X8_readsRoad_L57_49 n49) (AB ad F33) (nI q349) x49_2 va15 = (m_X8_readsRoad_L57_49 n49) (AB ad F33) ((nI q349) + Int32.ofInt (1)) (nI 0) va15 from by unfold m_X8_readsRoad_L57_49_b; rw [if_neg (nle_cg m54 rfl c55), if_pos (eq_cg rfl rfl c127), if_neg (neq_cg m119 rfl c134), if_neg (neq_cg m119 m136 c137)]).trans (congr (congr (congr (congrArg ((m_X8_readsRoad_L57_49 n49)) (rfl : AB ad F33 = AB ad F33)) m141) (Eq.refl ((nI 0) : Int32))) (Eq.refl (va15 : Int32))))
                exact ih49 (q349 + 1) ((nI 0)) (by omega) (by omega) hE142 ls140 (lv_sub hl140 [0, 1, 4, 5] rfl)
              have k143 := ci_eq rfl rfl c137
              refine lv_iload S.1 S.2.1 dX8_readsRoad_117 (lv_at hl126 0 rfl) ?_
              refine lv_iload_n S.1 S.2.1 dX8_readsRoad_119 rfl (lv_at hl126 4 rfl) ?_
              refine lv_icmp_ne (tgt := 127) S.1 S.2.1 dX8_readsRoad_120 (by decide) (fun c144 => ?_) (fun c144 => ?_)
              · skip
                have k145 := ci_ne rfl rfl c144
                refine lv_iconst (v := (nI 0)) S.1 S.2.1 dX8_readsRoad_127 (by decide +kernel) ?_
                refine lv_istore_n (lv' := [(2, .int (nI 0)), (5, .int v124), (4, .int v118), (3, .int (nI q349)), (1, .int va15), (0, .ref (ad 58))]) S.1 S.2.1 dX8_readsRoad_128 rfl hl126 (by decide) rfl (fun ls146 hl146 => ?_)
                have m148 : ((nI q349) + Int32.ofInt (1)) = (nI (q349 + 1)) := (congrArg (fun q : Int32 => q + Int32.ofInt (1)) rfl).trans (nI_add _ 1)
                refine lv_iinc (v := (nI (q349 + 1))) (lv' := [(3, .int (nI (q349 + 1))), (2, .int (nI 0)), (5, .int v124), (4, .int v118), (1, .int va15), (0, .ref (ad 58))]) S.1 S.2.1 dX8_readsRoad_129 hl146 (k := 3) rfl (nI_add _ 1) (by decide) rfl (fun ls147 hl147 => ?_)
                refine lv_goto (tgt := 57) S.1 S.2.1 dX8_readsRoad_132 (by decide) ?_
                have hE149 : M = (m_X8_readsRoad_L57_49 n49) (AB ad F33) (nI (q349 + 1)) (nI 0) va15 := hE50.trans ((show m_X8_readsRoad_L57_49_b (m_X8_readsRoad_L57_49 n49) (AB ad F33) (nI q349) x49_2 va15 = (m_X8_readsRoad_L57_49 n49) (AB ad F33) ((nI q349) + Int32.ofInt (1)) (nI 0) va15 from by unfold m_X8_readsRoad_L57_49_b; rw [if_neg (nle_cg m54 rfl c55), if_pos (eq_cg rfl rfl c127), if_neg (neq_cg m119 rfl c134), if_pos (eq_cg m119 m136 c137), if_neg (neq_cg m125 rfl c144)]).trans (congr (congr (congr (congrArg ((m_X8_readsRoad_L57_49 n49)) (rfl : AB ad F33 = AB ad F33)) m148) (Eq.refl ((nI 0) : Int32))) (Eq.refl (va15 : Int32))))
                exact ih49 (q349 + 1) ((nI 0)) (by omega) (by omega) hE149 ls147 (lv_sub hl147 [0, 1, 4, 5] rfl)
              have k150 := ci_eq rfl rfl c144
              refine lv_iconst (v := (nI 1)) S.1 S.2.1 dX8_readsRoad_123 (by decide +kernel) ?_
              refine lv_goto (tgt := 128) S.1 S.2.1 dX8_readsRoad_124 (by decide) ?_
              refine lv_istore_n (lv' := [(2, .int (nI 1)), (5, .int v124), (4, .int v118), (3, .int (nI q349)), (1, .int va15), (0, .ref (ad 58))]) S.1 S.2.1 dX8_readsRoad_128 rfl hl126 (by decide) rfl (fun ls151 hl151 => ?_)
              have m153 : ((nI q349) + Int32.ofInt (1)) = (nI (q349 + 1)) := (congrArg (fun q : Int32 => q + Int32.ofInt (1)) rfl).trans (nI_add _ 1)
              refine lv_iinc (v := (nI (q349 + 1))) (lv' := [(3, .int (nI (q349 + 1))), (2, .int (nI 1)), (5, .int v124), (4, .int v118), (1, .int va15), (0, .ref (ad 58))]) S.1 S.2.1 dX8_readsRoad_129 hl151 (k := 3) rfl (nI_add _ 1) (by decide) rfl (fun ls152 hl152 => ?_)
              refine lv_goto (tgt := 57) S.1 S.2.1 dX8_readsRoad_132 (by decide) ?_
              have hE154 : M = (m_X8_readsRoad_L57_49 n49) (AB ad F33) (nI (q349 + 1)) (nI 1) va15 := hE50.trans ((show m_X8_readsRoad_L57_49_b (m_X8_readsRoad_L57_49 n49) (AB ad F33) (nI q349) x49_2 va15 = (m_X8_readsRoad_L57_49 n49) (AB ad F33) ((nI q349) + Int32.ofInt (1)) (nI 1) va15 from by unfold m_X8_readsRoad_L57_49_b; rw [if_neg (nle_cg m54 rfl c55), if_pos (eq_cg rfl rfl c127), if_neg (neq_cg m119 rfl c134), if_pos (eq_cg m119 m136 c137), if_pos (eq_cg m125 rfl c144)]).trans (congr (congr (congr (congrArg ((m_X8_readsRoad_L57_49 n49)) (rfl : AB ad F33 = AB ad F33)) m153) (Eq.refl ((nI 1) : Int32))) (Eq.refl (va15 : Int32))))
              exact ih49 (q349 + 1) ((nI 1)) (by omega) (by omega) hE154 ls152 (lv_sub hl152 [0, 1, 4, 5] rfl)
            have k155 := ci_eq rfl rfl c134
            refine lv_iload S.1 S.2.1 dX8_readsRoad_99 (lv_at hl126 0 rfl) ?_
            refine lv_aload_n S.1 S.2.1 dX8_readsRoad_101 rfl (lv_at hl126 5 rfl) ?_
            refine r_get S hK hP33 58 (by decide) hF35 (C := RX8) (T := TX8) (N := 23) hiX8 rfl 17 (by decide) (am_at in_wsX8_readsRoad_0 1 rfl) (v := .int va35) rfl dX8_readsRoad_102 ?_
            have m156 : ((AB ad F33) 58 17) = va35 := AB_f hF35 rfl
            refine lv_icmp_eq (tgt := 123) S.1 S.2.1 dX8_readsRoad_105 (by decide) (fun c157 => ?_) (fun c157 => ?_)
            · skip
              have k158 := ci_eq rfl rfl c157
              refine lv_iconst (v := (nI 1)) S.1 S.2.1 dX8_readsRoad_123 (by decide +kernel) ?_
              refine lv_goto (tgt := 128) S.1 S.2.1 dX8_readsRoad_124 (by decide) ?_
              refine lv_istore_n (lv' := [(2, .int (nI 1)), (5, .int v124), (4, .int v118), (3, .int (nI q349)), (1, .int va15), (0, .ref (ad 58))]) S.1 S.2.1 dX8_readsRoad_128 rfl hl126 (by decide) rfl (fun ls159 hl159 => ?_)
              have m161 : ((nI q349) + Int32.ofInt (1)) = (nI (q349 + 1)) := (congrArg (fun q : Int32 => q + Int32.ofInt (1)) rfl).trans (nI_add _ 1)
              refine lv_iinc (v := (nI (q349 + 1))) (lv' := [(3, .int (nI (q349 + 1))), (2, .int (nI 1)), (5, .int v124), (4, .int v118), (1, .int va15), (0, .ref (ad 58))]) S.1 S.2.1 dX8_readsRoad_129 hl159 (k := 3) rfl (nI_add _ 1) (by decide) rfl (fun ls160 hl160 => ?_)
              refine lv_goto (tgt := 57) S.1 S.2.1 dX8_readsRoad_132 (by decide) ?_
              have hE162 : M = (m_X8_readsRoad_L57_49 n49) (AB ad F33) (nI (q349 + 1)) (nI 1) va15 := hE50.trans ((show m_X8_readsRoad_L57_49_b (m_X8_readsRoad_L57_49 n49) (AB ad F33) (nI q349) x49_2 va15 = (m_X8_readsRoad_L57_49 n49) (AB ad F33) ((nI q349) + Int32.ofInt (1)) (nI 1) va15 from by unfold m_X8_readsRoad_L57_49_b; rw [if_neg (nle_cg m54 rfl c55), if_pos (eq_cg rfl rfl c127), if_pos (eq_cg m119 rfl c134), if_pos (eq_cg m125 m156 c157)]).trans (congr (congr (congr (congrArg ((m_X8_readsRoad_L57_49 n49)) (rfl : AB ad F33 = AB ad F33)) m161) (Eq.refl ((nI 1) : Int32))) (Eq.refl (va15 : Int32))))
              exact ih49 (q349 + 1) ((nI 1)) (by omega) (by omega) hE162 ls160 (lv_sub hl160 [0, 1, 4, 5] rfl)
            have k163 := ci_ne rfl rfl c157
            refine lv_iload S.1 S.2.1 dX8_readsRoad_108 (lv_at hl126 1 rfl) ?_
            refine lv_aload_n S.1 S.2.1 dX8_readsRoad_110 rfl (lv_at hl126 5 rfl) ?_
            refine r_get S hK hP33 58 (by decide) hF35 (C := RX8) (T := TX8) (N := 23) hiX8 rfl 17 (by decide) (am_at in_wsX8_readsRoad_0 1 rfl) (v := .int va35) rfl dX8_readsRoad_111 ?_
            have m164 : ((AB ad F33) 58 17) = va35 := AB_f hF35 rfl
            refine lv_icmp_ne (tgt := 127) S.1 S.2.1 dX8_readsRoad_114 (by decide) (fun c165 => ?_) (fun c165 => ?_)
            · skip
              have k166 := ci_ne rfl rfl c165
              refine lv_iconst (v := (nI 0)) S.1 S.2.1 dX8_readsRoad_127 (by decide +kernel) ?_
              refine lv_istore_n (lv' := [(2, .int (nI 0)), (5, .int v124), (4, .int v118), (3, .int (nI q349)), (1, .int va15), (0, .ref (ad 58))]) S.1 S.2.1 dX8_readsRoad_128 rfl hl126 (by decide) rfl (fun ls167 hl167 => ?_)
              have m169 : ((nI q349) + Int32.ofInt (1)) = (nI (q349 + 1)) := (congrArg (fun q : Int32 => q + Int32.ofInt (1)) rfl).trans (nI_add _ 1)
              refine lv_iinc (v := (nI (q349 + 1))) (lv' := [(3, .int (nI (q349 + 1))), (2, .int (nI 0)), (5, .int v124), (4, .int v118), (1, .int va15), (0, .ref (ad 58))]) S.1 S.2.1 dX8_readsRoad_129 hl167 (k := 3) rfl (nI_add _ 1) (by decide) rfl (fun ls168 hl168 => ?_)
              refine lv_goto (tgt := 57) S.1 S.2.1 dX8_readsRoad_132 (by decide) ?_
              have hE170 : M = (m_X8_readsRoad_L57_49 n49) (AB ad F33) (nI (q349 + 1)) (nI 0) va15 := hE50.trans ((show m_X8_readsRoad_L57_49_b (m_X8_readsRoad_L57_49 n49) (AB ad F33) (nI q349) x49_2 va15 = (m_X8_readsRoad_L57_49 n49) (AB ad F33) ((nI q349) + Int32.ofInt (1)) (nI 0) va15 from by unfold m_X8_readsRoad_L57_49_b; rw [if_neg (nle_cg m54 rfl c55), if_pos (eq_cg rfl rfl c127), if_pos (eq_cg m119 rfl c134), if_neg (neq_cg m125 m156 c157), if_neg (neq_cg m119 m164 c165)]).trans (congr (congr (congr (congrArg ((m_X8_readsRoad_L57_49 n49)) (rfl : AB ad F33 = AB ad F33)) m169) (Eq.refl ((nI 0) : Int32))) (Eq.refl (va15 : Int32))))
              exact ih49 (q349 + 1) ((nI 0)) (by omega) (by omega) hE170 ls168 (lv_sub hl168 [0, 1, 4, 5] rfl)
            have k171 := ci_eq rfl rfl c165
            refine lv_iload S.1 S.2.1 dX8_readsRoad_117 (lv_at hl126 0 rfl) ?_
            refine lv_iload_n S.1 S.2.1 dX8_readsRoad_119 rfl (lv_at hl126 4 rfl) ?_
            refine lv_icmp_ne (tgt := 127) S.1 S.2.1 dX8_readsRoad_120 (by decide) (fun c172 => ?_) (fun c172 => ?_)
            · skip
              have k173 := ci_ne rfl rfl c172
              refine lv_iconst (v := (nI 0)) S.1 S.2.1 dX8_readsRoad_127 (by decide +kernel) ?_
              refine lv_istore_n (lv' := [(2, .int (nI 0)), (5, .int v124), (4, .int v118), (3, .int (nI q349)), (1, .int va15), (0, .ref (ad 58))]) S.1 S.2.1 dX8_readsRoad_128 rfl hl126 (by decide) rfl (fun ls174 hl174 => ?_)
              have m176 : ((nI q349) + Int32.ofInt (1)) = (nI (q349 + 1)) := (congrArg (fun q : Int32 => q + Int32.ofInt (1)) rfl).trans (nI_add _ 1)
              refine lv_iinc (v := (nI (q349 + 1))) (lv' := [(3, .int (nI (q349 + 1))), (2, .int (nI 0)), (5, .int v124), (4, .int v118), (1, .int va15), (0, .ref (ad 58))]) S.1 S.2.1 dX8_readsRoad_129 hl174 (k := 3) rfl (nI_add _ 1) (by decide) rfl (fun ls175 hl175 => ?_)
              refine lv_goto (tgt := 57) S.1 S.2.1 dX8_readsRoad_132 (by decide) ?_
              have hE177 : M = (m_X8_readsRoad_L57_49 n49) (AB ad F33) (nI (q349 + 1)) (nI 0) va15 := hE50.trans ((show m_X8_readsRoad_L57_49_b (m_X8_readsRoad_L57_49 n49) (AB ad F33) (nI q349) x49_2 va15 = (m_X8_readsRoad_L57_49 n49) (AB ad F33) ((nI q349) + Int32.ofInt (1)) (nI 0) va15 from by unfold m_X8_readsRoad_L57_49_b; rw [if_neg (nle_cg m54 rfl c55), if_pos (eq_cg rfl rfl c127), if_pos (eq_cg m119 rfl c134), if_neg (neq_cg m125 m156 c157), if_pos (eq_cg m119 m164 c165), if_neg (neq_cg m125 rfl c172)]).trans (congr (congr (congr (congrArg ((m_X8_readsRoad_L57_49 n49)) (rfl : AB ad F33 = AB ad F33)) m176) (Eq.refl ((nI 0) : Int32))) (Eq.refl (va15 : Int32))))
              exact ih49 (q349 + 1) ((nI 0)) (by omega) (by omega) hE177 ls175 (lv_sub hl175 [0, 1, 4, 5] rfl)
            have k178 := ci_eq rfl rfl c172
            refine lv_iconst (v := (nI 1)) S.1 S.2.1 dX8_readsRoad_123 (by decide +kernel) ?_
            refine lv_goto (tgt := 128) S.1 S.2.1 dX8_readsRoad_124 (by decide) ?_
            refine lv_istore_n (lv' := [(2, .int (nI 1)), (5, .int v124), (4, .int v118), (3, .int (nI q349)), (1, .int va15), (0, .ref (ad 58))]) S.1 S.2.1 dX8_readsRoad_128 rfl hl126 (by decide) rfl (fun ls179 hl179 => ?_)
            have m181 : ((nI q349) + Int32.ofInt (1)) = (nI (q349 + 1)) := (congrArg (fun q : Int32 => q + Int32.ofInt (1)) rfl).trans (nI_add _ 1)
            refine lv_iinc (v := (nI (q349 + 1))) (lv' := [(3, .int (nI (q349 + 1))), (2, .int (nI 1)), (5, .int v124), (4, .int v118), (1, .int va15), (0, .ref (ad 58))]) S.1 S.2.1 dX8_readsRoad_129 hl179 (k := 3) rfl (nI_add _ 1) (by decide) rfl (fun ls180 hl180 => ?_)
            refine lv_goto (tgt := 57) S.1 S.2.1 dX8_readsRoad_132 (by decide) ?_
            have hE182 : M = (m_X8_readsRoad_L57_49 n49) (AB ad F33) (nI (q349 + 1)) (nI 1) va15 := hE50.trans ((show m_X8_readsRoad_L57_49_b (m_X8_readsRoad_L57_49 n49) (AB ad F33) (nI q349) x49_2 va15 = (m_X8_readsRoad_L57_49 n49) (AB ad F33) ((nI q349) + Int32.ofInt (1)) (nI 1) va15 from by unfold m_X8_readsRoad_L57_49_b; rw [if_neg (nle_cg m54 rfl c55), if_pos (eq_cg rfl rfl c127), if_pos (eq_cg m119 rfl c134), if_neg (neq_cg m125 m156 c157), if_pos (eq_cg m119 m164 c165), if_pos (eq_cg m125 rfl c172)]).trans (congr (congr (congr (congrArg ((m_X8_readsRoad_L57_49 n49)) (rfl : AB ad F33 = AB ad F33)) m181) (Eq.refl ((nI 1) : Int32))) (Eq.refl (va15 : Int32))))
            exact ih49 (q349 + 1) ((nI 1)) (by omega) (by omega) hE182 ls180 (lv_sub hl180 [0, 1, 4, 5] rfl)
        have hE183 : M = m_X8_readsRoad_L57_49 2000 (AB ad F33) (nI 0) (nI 0) va15 := hE41.trans ((show m_X8_readsRoad_40 (AB ad F33) va15 (nI b34) = m_X8_readsRoad_L57_49 2000 (AB ad F33) (nI 0) (nI 0) va15 from by unfold m_X8_readsRoad_40; rw [if_neg (neq_cg rfl rfl c42), if_neg (neq_cg rfl m44 c45)]).trans (congr (congr (congr (congrArg (m_X8_readsRoad_L57_49 2000) (rfl : AB ad F33 = AB ad F33)) (Eq.refl ((nI 0) : Int32))) (Eq.refl ((nI 0) : Int32))) (Eq.refl (va15 : Int32))))
        exact lp49 2000 (0) ((nI 0)) (by omega) (by omega) hE183 ls48 (lv_sub hl48 [0, 1, 2, 3] rfl)
      have k184 := ci_eq rfl rfl c45
      refine lv_iconst (v := (nI 1)) S.1 S.2.1 dX8_readsRoad_49 (by decide +kernel) ?_
      refine lv_goto (tgt := 54) S.1 S.2.1 dX8_readsRoad_50 (by decide) ?_
      refine lv_istore_n (lv' := [(2, .int (nI 1)), (1, .int va15), (0, .ref (ad 58))]) S.1 S.2.1 dX8_readsRoad_54 rfl hl25 (by decide) rfl (fun ls185 hl185 => ?_)
      refine lv_iconst (v := (nI 0)) S.1 S.2.1 dX8_readsRoad_55 (by decide +kernel) ?_
      refine lv_istore_n (lv' := [(3, .int (nI 0)), (2, .int (nI 1)), (1, .int va15), (0, .ref (ad 58))]) S.1 S.2.1 dX8_readsRoad_56 rfl hl185 (by decide) rfl (fun ls186 hl186 => ?_)
      have lp187 : ∀ (n187 : Nat) (q3187 : Nat) (x187_2 : Int32), q3187 ≤ 12 → 12 - q3187 < n187 → M = m_X8_readsRoad_L57_187 n187 (AB ad F33) (nI q3187) x187_2 va15 → ∀ (ls : Array Slot), lv_has ls 6 [(3, .int (nI q3187)), (2, .int x187_2), (1, .int va15), (0, .ref (ad 58))] → W p l e { frames := 2, cells := 0, slots := 0, locals := 46 } s m args below meth c H33 locs33 0 0 Q (F0 m 57 ls []) := by
        intro n187
        induction n187 with
        | zero =>
          intro q3187 x187_2 iv187_0 hm187 hEl187 ls187 hl187
          exact absurd hm187 (Nat.not_lt_zero _)
        | succ n187 ih187 =>
          intro q3187 x187_2 iv187_0 hm187 hEl187 ls187 hl187
          have hE188 : M = m_X8_readsRoad_L57_187_b (m_X8_readsRoad_L57_187 n187) (AB ad F33) (nI q3187) x187_2 va15 := hEl187
          refine lv_iload_n S.1 S.2.1 dX8_readsRoad_57 rfl (lv_at hl187 0 rfl) ?_
          refine lv_aload_n S.1 S.2.1 dX8_readsRoad_58 rfl (lv_at hl187 3 rfl) ?_
          refine r_get S hK hP33 58 (by decide) hF35 (C := RX8) (T := TX8) (N := 23) hiX8 rfl 3 (by decide) (am_at in_wsX8_readsRoad_0 0 rfl) (v := .ref (ad 61)) rfl dX8_readsRoad_59 ?_
          refine lv_iconst (v := (nI 3)) S.1 S.2.1 dX8_readsRoad_62 (by decide +kernel) ?_
          have hF189 := (hFc33 61 (by decide)).trans hF26
          refine r_iald S hK hP33 61 (by decide) hF189 (vp_in_nI (show 3 < 52 by omega) (by omega)) dX8_readsRoad_63 ?_
          refine lv_topi (fun v191 e191 => ?_)
          obtain rfl : v191 = nI b4 := e191.trans he4
          have m192 : ((AB ad F33) 61 (rl (nI 3))) = (nI b4) := (ab_cg rfl rfl).trans ((AB_g hF189).trans e191.symm)
          refine lv_icmp_ge (tgt := 135) S.1 S.2.1 dX8_readsRoad_64 (by decide) (fun c193 => ?_) (fun c193 => ?_)
          · skip
            have k194 := ci_le (nI_toInt (n := b4) (Nat.lt_of_le_of_lt hb4 (by decide))) (nI_toInt (n := q3187) (by omega)) c193
            refine lv_iload_n S.1 S.2.1 dX8_readsRoad_135 rfl (lv_at hl187 1 rfl) ?_
            refine lv_if_eq (tgt := 149) S.1 S.2.1 dX8_readsRoad_136 (by decide) (fun c195 => ?_) (fun c195 => ?_)
            · skip
              have k196 := ci_eq rfl z_ti c195
              refine lv_aload_n S.1 S.2.1 dX8_readsRoad_149 rfl (lv_at hl187 3 rfl) ?_
              refine r_get S hK hP33 58 (by decide) hF35 (C := RX8) (T := TX8) (N := 23) hiX8 rfl 3 (by decide) (am_at in_wsX8_readsRoad_0 0 rfl) (v := .ref (ad 61)) rfl dX8_readsRoad_150 ?_
              refine lv_bipush (v := (nI 28)) S.1 S.2.1 dX8_readsRoad_153 (by decide +kernel) ?_
              refine lv_aload_n S.1 S.2.1 dX8_readsRoad_155 rfl (lv_at hl187 3 rfl) ?_
              refine r_get S hK hP33 58 (by decide) hF35 (C := RX8) (T := TX8) (N := 23) hiX8 rfl 3 (by decide) (am_at in_wsX8_readsRoad_0 0 rfl) (v := .ref (ad 61)) rfl dX8_readsRoad_156 ?_
              refine lv_iconst (v := (nI 3)) S.1 S.2.1 dX8_readsRoad_159 (by decide +kernel) ?_
              refine r_iald S hK hP33 61 (by decide) hF189 (vp_in_nI (show 3 < 52 by omega) (by omega)) dX8_readsRoad_160 ?_
              refine lv_topi (fun v198 e198 => ?_)
              obtain rfl : v198 = nI b4 := e198.trans he4
              have m199 : ((AB ad F33) 61 (rl (nI 3))) = (nI b4) := (ab_cg rfl rfl).trans ((AB_g hF189).trans e198.symm)
              refine lv_iadd S.1 S.2.1 dX8_readsRoad_161 ?_
              refine lv_topi (fun v200 e200 => ?_)
              obtain rfl : v200 = nI (28 + b4) := e200.trans (nI_add _ _)
              have m201 : ((nI 28) + ((AB ad F33) 61 (rl (nI 3)))) = (nI (28 + b4)) := cg2 (fun (x : Int32) (y : Int32) => x + y) (Eq.refl ((nI 28) : Int32)) m199 e200
              refine lv_iload_n S.1 S.2.1 dX8_readsRoad_162 rfl (lv_at hl187 2 rfl) ?_
              refine r_iast S hI hK hP33 hS33 61 (by decide) hF189 (vp_in_nI (show 28 + b4 < 52 by omega) (by omega)) dX8_readsRoad_163 (fun F202 H202 locs202 eF202 hP202 hS202 => ?_)
              have hW202 := hW33.up eF202 (ok_I (show (61, 52) ∈ rLI by decide) (okI_up hg3 (by rw [nI_clamp (by omega)]; exact to_T (by decide) (okT_o (by omega) (by omega) (by omega)))))
              have hFr202 := hFr33.up eF202 (by simp <;> first | omega | (simp only [isC, isJ] at *; omega))
              have hE204 : M = m_X8_readsRoad_203 (m_X8_readsRoad_L57_187 n187) (AB ad F202) (nI q3187) x187_2 va15 := hE188.trans ((show m_X8_readsRoad_L57_187_b (m_X8_readsRoad_L57_187 n187) (AB ad F33) (nI q3187) x187_2 va15 = m_X8_readsRoad_203 (m_X8_readsRoad_L57_187 n187) (st (AB ad F33) 61 (rl ((nI 28) + ((AB ad F33) 61 (rl (nI 3))))) va15) (nI q3187) x187_2 va15 from by unfold m_X8_readsRoad_L57_187_b; rw [if_pos (le_cg m192 rfl c193), if_pos (eq_cg rfl rfl c195)]).trans (congr (congr (congr (congrArg (m_X8_readsRoad_203 (m_X8_readsRoad_L57_187 n187)) ((st_cg rfl (congrArg rl m201) rfl).trans (AB_ast hF189 eF202).symm)) (Eq.refl ((nI q3187) : Int32))) (Eq.refl (x187_2 : Int32))) (Eq.refl (va15 : Int32))))
              obtain ⟨gg202, eg202⟩ : ∃ g9, g9 = upd g3 (nI (28 + b4)).toNatClampNeg va15 := ⟨_, rfl⟩
              have hF202 : F202 61 = .inl (cA 0, 52, .inl gg202) := by rw [eF202, eg202]; exact va_up_self _ _ _
              have hg202 : ∀ j, j < 52 → rPr 61 j (gg202 j) := by rw [eg202]; exact pr_up hg3 (by rw [nI_clamp (by omega)]; exact to_T (by decide) (okT_o (by omega) (by omega) (by omega)))
              have he205 : gg202 3 = nI b4 := by rw [eg202, pk_un (by rw [nI_clamp (by omega)]; omega)]; exact he4
              have he206 : gg202 2 = nI b8 := by rw [eg202, pk_un (by rw [nI_clamp (by omega)]; omega)]; exact he8
              refine lv_aload_n S.1 S.2.1 dX8_readsRoad_164 rfl (lv_at hl187 3 rfl) ?_
              have hF207 := (show F202 58 = F33 58 by rw [eF202]; exact va_up_ne _ _ (by decide)).trans hF35
              refine r_get S hK hP202 58 (by decide) hF207 (C := RX8) (T := TX8) (N := 23) hiX8 rfl 3 (by decide) (am_at in_wsX8_readsRoad_0 0 rfl) (v := .ref (ad 61)) rfl dX8_readsRoad_165 ?_
              refine lv_bipush (v := (nI 40)) S.1 S.2.1 dX8_readsRoad_168 (by decide +kernel) ?_
              refine lv_aload_n S.1 S.2.1 dX8_readsRoad_170 rfl (lv_at hl187 3 rfl) ?_
              refine r_get S hK hP202 58 (by decide) hF207 (C := RX8) (T := TX8) (N := 23) hiX8 rfl 3 (by decide) (am_at in_wsX8_readsRoad_0 0 rfl) (v := .ref (ad 61)) rfl dX8_readsRoad_171 ?_
              refine lv_iconst (v := (nI 3)) S.1 S.2.1 dX8_readsRoad_174 (by decide +kernel) ?_
              refine r_iald S hK hP202 61 (by decide) hF202 (vp_in_nI (show 3 < 52 by omega) (by omega)) dX8_readsRoad_175 ?_
              refine lv_topi (fun v209 e209 => ?_)
              obtain rfl : v209 = nI b4 := e209.trans he205
              have m210 : ((AB ad F202) 61 (rl (nI 3))) = (nI b4) := (ab_cg rfl rfl).trans ((AB_g hF202).trans e209.symm)
              refine lv_iadd S.1 S.2.1 dX8_readsRoad_176 ?_
              refine lv_topi (fun v211 e211 => ?_)
              obtain rfl : v211 = nI (40 + b4) := e211.trans (nI_add _ _)
              have m212 : ((nI 40) + ((AB ad F202) 61 (rl (nI 3)))) = (nI (40 + b4)) := cg2 (fun (x : Int32) (y : Int32) => x + y) (Eq.refl ((nI 40) : Int32)) m210 e211
              refine lv_aload_n S.1 S.2.1 dX8_readsRoad_177 rfl (lv_at hl187 3 rfl) ?_
              refine r_get S hK hP202 58 (by decide) hF207 (C := RX8) (T := TX8) (N := 23) hiX8 rfl 17 (by decide) (am_at in_wsX8_readsRoad_0 1 rfl) (v := .int va35) rfl dX8_readsRoad_178 ?_
              have m213 : ((AB ad F202) 58 17) = va35 := AB_f hF207 rfl
              refine r_iast S hI hK hP202 hS202 61 (by decide) hF202 (vp_in_nI (show 40 + b4 < 52 by omega) (by omega)) dX8_readsRoad_181 (fun F214 H214 locs214 eF214 hP214 hS214 => ?_)
              have hW214 := hW202.up eF214 (ok_I (show (61, 52) ∈ rLI by decide) (okI_up hg202 (by rw [nI_clamp (by omega)]; exact to_T (by decide) (okT_o (by omega) (by omega) (by omega)))))
              have hFr214 := hFr202.up eF214 (by simp <;> first | omega | (simp only [isC, isJ] at *; omega))
              have hE216 : M = m_X8_readsRoad_215 (m_X8_readsRoad_L57_187 n187) (AB ad F214) (nI q3187) x187_2 va15 := hE204.trans ((show m_X8_readsRoad_203 (m_X8_readsRoad_L57_187 n187) (AB ad F202) (nI q3187) x187_2 va15 = m_X8_readsRoad_215 (m_X8_readsRoad_L57_187 n187) (st (AB ad F202) 61 (rl ((nI 40) + ((AB ad F202) 61 (rl (nI 3))))) ((AB ad F202) 58 17)) (nI q3187) x187_2 va15 from rfl).trans (congr (congr (congr (congrArg (m_X8_readsRoad_215 (m_X8_readsRoad_L57_187 n187)) ((st_cg rfl (congrArg rl m212) m213).trans (AB_ast hF202 eF214).symm)) (Eq.refl ((nI q3187) : Int32))) (Eq.refl (x187_2 : Int32))) (Eq.refl (va15 : Int32))))
              obtain ⟨gg214, eg214⟩ : ∃ g9, g9 = upd gg202 (nI (40 + b4)).toNatClampNeg va35 := ⟨_, rfl⟩
              have hF214 : F214 61 = .inl (cA 0, 52, .inl gg214) := by rw [eF214, eg214]; exact va_up_self _ _ _
              have hg214 : ∀ j, j < 52 → rPr 61 j (gg214 j) := by rw [eg214]; exact pr_up hg202 (by rw [nI_clamp (by omega)]; exact to_T (by decide) (okT_o (by omega) (by omega) (by omega)))
              have he217 : gg214 3 = nI b4 := by rw [eg214, pk_un (by rw [nI_clamp (by omega)]; omega)]; exact he205
              have he218 : gg214 2 = nI b8 := by rw [eg214, pk_un (by rw [nI_clamp (by omega)]; omega)]; exact he206
              refine lv_aload_n S.1 S.2.1 dX8_readsRoad_182 rfl (lv_at hl187 3 rfl) ?_
              have hF219 := (show F214 58 = F202 58 by rw [eF214]; exact va_up_ne _ _ (by decide)).trans hF207
              refine r_get S hK hP214 58 (by decide) hF219 (C := RX8) (T := TX8) (N := 23) hiX8 rfl 3 (by decide) (am_at in_wsX8_readsRoad_0 0 rfl) (v := .ref (ad 61)) rfl dX8_readsRoad_183 ?_
              refine lv_iconst (v := (nI 3)) S.1 S.2.1 dX8_readsRoad_186 (by decide +kernel) ?_
              refine lv_dup2_11 S.1 S.2.1 dX8_readsRoad_187 rfl rfl ?_
              refine r_iald S hK hP214 61 (by decide) hF214 (vp_in_nI (show 3 < 52 by omega) (by omega)) dX8_readsRoad_188 ?_
              refine lv_topi (fun v221 e221 => ?_)
              obtain rfl : v221 = nI b4 := e221.trans he217
              have m222 : ((AB ad F214) 61 (rl (nI 3))) = (nI b4) := (ab_cg rfl rfl).trans ((AB_g hF214).trans e221.symm)
              refine lv_iconst (v := (nI 1)) S.1 S.2.1 dX8_readsRoad_189 (by decide +kernel) ?_
              refine lv_iadd S.1 S.2.1 dX8_readsRoad_190 ?_
              refine lv_topi (fun v223 e223 => ?_)
              obtain rfl : v223 = nI (b4 + 1) := e223.trans (nI_add _ _)
              have m224 : (((AB ad F214) 61 (rl (nI 3))) + (nI 1)) = (nI (b4 + 1)) := cg2 (fun (x : Int32) (y : Int32) => x + y) m222 (Eq.refl ((nI 1) : Int32)) e223
              refine r_iast S hI hK hP214 hS214 61 (by decide) hF214 (vp_in_nI (show 3 < 52 by omega) (by omega)) dX8_readsRoad_191 (fun F225 H225 locs225 eF225 hP225 hS225 => ?_)
              have hW225 := hW214.up eF225 (ok_I (show (61, 52) ∈ rLI by decide) (okI_up hg214 (by rw [nI_clamp (by omega)]; exact to_T (by decide) (okT_3 ⟨b4 + 1, by omega, rfl⟩))))
              have hFr225 := hFr214.up eF225 (by simp <;> first | omega | (simp only [isC, isJ] at *; omega))
              have hE227 : M = m_X8_readsRoad_226 (m_X8_readsRoad_L57_187 n187) (AB ad F225) (nI q3187) x187_2 va15 := hE216.trans ((show m_X8_readsRoad_215 (m_X8_readsRoad_L57_187 n187) (AB ad F214) (nI q3187) x187_2 va15 = m_X8_readsRoad_226 (m_X8_readsRoad_L57_187 n187) (st (AB ad F214) 61 (rl (nI 3)) (((AB ad F214) 61 (rl (nI 3))) + (nI 1))) (nI q3187) x187_2 va15 from rfl).trans (congr (congr (congr (congrArg (m_X8_readsRoad_226 (m_X8_readsRoad_L57_187 n187)) ((st_cg rfl (congrArg rl rfl) m224).trans (AB_ast hF214 eF225).symm)) (Eq.refl ((nI q3187) : Int32))) (Eq.refl (x187_2 : Int32))) (Eq.refl (va15 : Int32))))
              obtain ⟨gg225, eg225⟩ : ∃ g9, g9 = upd gg214 (nI 3).toNatClampNeg (nI (b4 + 1)) := ⟨_, rfl⟩
              have hF225 : F225 61 = .inl (cA 0, 52, .inl gg225) := by rw [eF225, eg225]; exact va_up_self _ _ _
              have hg225 : ∀ j, j < 52 → rPr 61 j (gg225 j) := by rw [eg225]; exact pr_up hg214 (by rw [nI_clamp (by omega)]; exact to_T (by decide) (okT_3 ⟨b4 + 1, by omega, rfl⟩))
              have he228 : gg225 2 = nI b8 := by rw [eg225, pk_un (by rw [nI_clamp (by omega)]; omega)]; exact he218
              refine lv_aload_n S.1 S.2.1 dX8_readsRoad_192 rfl (lv_at hl187 3 rfl) ?_
              have hF229 := (show F225 58 = F214 58 by rw [eF225]; exact va_up_ne _ _ (by decide)).trans hF219
              have hA230 := fN_of (k := 14) (a := at35) hF229 rfl (Nat.lt_of_le_of_lt hb35_5 (by decide))
              have hL230 := fN_of (k := 1) (a := ty35) hF229 rfl (Nat.lt_of_le_of_lt hb35_1 (by decide))
              refine r_cVi (As := []) (rest := []) S hK hZ hP225 hS225 hl187.1 58 (by decide) hF229 (C := RX8) rfl (c_X8_ends l D cA ad t hI F225 hW225 ) (cwV 0 S.2.2.2.2 gX8_readsRoad_X8_ends rfl rfl rfl (by decide +kernel) ⟨Nat.le_of_ble_eq_true rfl, Nat.le_of_ble_eq_true rfl⟩) rfl rfl (Nat.le_of_ble_eq_true rfl) ⟨Nat.zero_le _, Nat.zero_le _⟩ dX8_readsRoad_193 (fun r231 F231 H231 locs231 hr231 hP231 hS231 => ?_)
              obtain ⟨hW231, hFc231, hr231⟩ := hr231
              obtain ⟨hr231, hm231⟩ := hr231
              have hFr231 := hFr225.tr hFc231 (by simp <;> first | omega | (simp only [isC, isJ] at *; omega))
              obtain ⟨⟨b232, hb232, rfl⟩, hz232, hx232⟩ := hr231
              obtain ⟨ty233, kn233, no233, en233, at233, sa233, sd233, wr233, pl233, va233, hF233, hb233_1, hb233_2, hb233_3, hb233_4, hb233_5, hb233_6⟩ := wt_m hW231
              have hA234 := fN_of (k := 14) (a := at233) hF233 rfl (Nat.lt_of_le_of_lt hb233_5 (by decide))
              have hL234 := fN_of (k := 1) (a := ty233) hF233 rfl (Nat.lt_of_le_of_lt hb233_1 (by decide))
              have hy232 : b232 ≠ 0 → _ := fun q => hx232 (nI_ne0 (by omega) (by omega))
              have mc235 : (m_X8_ends (AB ad F225)) = ((nI b232), AB ad F231) := (Eq.refl (m_X8_ends (AB ad F225))).trans hm231
              have hE237 : M = m_X8_readsRoad_236 (m_X8_readsRoad_L57_187 n187) (AB ad F231) (nI q3187) x187_2 va15 (nI b232) := hE227.trans ((show m_X8_readsRoad_226 (m_X8_readsRoad_L57_187 n187) (AB ad F225) (nI q3187) x187_2 va15 = m_X8_readsRoad_236 (m_X8_readsRoad_L57_187 n187) ((m_X8_ends (AB ad F225))).2 (nI q3187) x187_2 va15 ((m_X8_ends (AB ad F225))).1 from rfl).trans (congr (congr (congr (congr (congrArg (m_X8_readsRoad_236 (m_X8_readsRoad_L57_187 n187)) (congrArg Prod.snd mc235)) (Eq.refl ((nI q3187) : Int32))) (Eq.refl (x187_2 : Int32))) (Eq.refl (va15 : Int32))) (congrArg Prod.fst mc235)))
              have hA238 := fN_of (k := 14) (a := at233) hF233 rfl (Nat.lt_of_le_of_lt hb233_5 (by decide))
              have hL238 := fN_of (k := 1) (a := ty233) hF233 rfl (Nat.lt_of_le_of_lt hb233_1 (by decide))
              have hE239 : M = ((nI b232), AB ad F231) := hE237.trans ((show m_X8_readsRoad_236 (m_X8_readsRoad_L57_187 n187) (AB ad F231) (nI q3187) x187_2 va15 (nI b232) = ((nI b232), (AB ad F231)) from rfl).trans (congrArg (fun q => (q, AB ad F231)) rfl))
              exact hret 196 _ _ _ _ _ dX8_readsRoad_196 (nar_bool (by omega)) hP231 hS231 ⟨hW231, hFr231, ⟨⟨⟨b232, by omega, rfl⟩, by omega, fun h => by have hb9 : b232 ≠ 0 := fun q => h (by rw [q]; rfl); omega⟩, hM.symm.trans hE239⟩⟩
            have k240 := ci_ne rfl z_ti c195
            refine lv_aload_n S.1 S.2.1 dX8_readsRoad_139 rfl (lv_at hl187 3 rfl) ?_
            refine lv_iconst (v := (nI 4)) S.1 S.2.1 dX8_readsRoad_140 (by decide +kernel) ?_
            refine lv_aload_n S.1 S.2.1 dX8_readsRoad_141 rfl (lv_at hl187 3 rfl) ?_
            refine r_get S hK hP33 58 (by decide) hF35 (C := RX8) (T := TX8) (N := 23) hiX8 rfl 18 (by decide) (am_at in_wsX8_readsRoad_0 2 rfl) (v := .int (nI sa35)) rfl dX8_readsRoad_142 ?_
            have m241 : ((AB ad F33) 58 18) = (nI sa35) := AB_f hF35 rfl
            have hA242 := fN_of (k := 14) (a := at35) hF35 rfl (Nat.lt_of_le_of_lt hb35_5 (by decide))
            have hL242 := fN_of (k := 1) (a := ty35) hF35 rfl (Nat.lt_of_le_of_lt hb35_1 (by decide))
            refine r_cVi (As := [.int (nI 4), .int (nI sa35)]) (rest := []) S hK hZ hP33 hS33 hl187.1 58 (by decide) hF35 (C := RX8) rfl (c_X8_isWrong l D cA ad t hI F33 hW33 (nI 4) (sa35) (by omega)) (cwV 2 S.2.2.2.2 gX8_readsRoad_X8_isWrong rfl rfl rfl (by decide +kernel) ⟨Nat.le_of_ble_eq_true rfl, Nat.le_of_ble_eq_true rfl⟩) rfl rfl (Nat.le_of_ble_eq_true rfl) ⟨Nat.zero_le _, Nat.zero_le _⟩ dX8_readsRoad_145 (fun r243 F243 H243 locs243 hr243 hP243 hS243 => ?_)
            obtain ⟨hW243, hFc243, hr243⟩ := hr243
            obtain ⟨hr243, hm243⟩ := hr243
            have hFr243 := hFr33.tr hFc243 (by simp <;> first | omega | (simp only [isC, isJ] at *; omega))
            obtain ⟨rfl, hz244⟩ := hr243
            obtain ⟨ty245, kn245, no245, en245, at245, sa245, sd245, wr245, pl245, va245, hF245, hb245_1, hb245_2, hb245_3, hb245_4, hb245_5, hb245_6⟩ := wt_m hW243
            have hA246 := fN_of (k := 14) (a := at245) hF245 rfl (Nat.lt_of_le_of_lt hb245_5 (by decide))
            have hL246 := fN_of (k := 1) (a := ty245) hF245 rfl (Nat.lt_of_le_of_lt hb245_1 (by decide))
            have mc247 : (m_X8_isWrong (AB ad F33) (nI 4) ((AB ad F33) 58 18)) = ((nI 0), AB ad F243) := (congr (congr (Eq.refl (m_X8_isWrong (AB ad F33))) (Eq.refl ((nI 4) : Int32))) m241).trans hm243
            have hE249 : M = m_X8_readsRoad_248 (m_X8_readsRoad_L57_187 n187) (AB ad F243) (nI q3187) x187_2 va15 := hE188.trans ((show m_X8_readsRoad_L57_187_b (m_X8_readsRoad_L57_187 n187) (AB ad F33) (nI q3187) x187_2 va15 = m_X8_readsRoad_248 (m_X8_readsRoad_L57_187 n187) ((m_X8_isWrong (AB ad F33) (nI 4) ((AB ad F33) 58 18))).2 (nI q3187) x187_2 va15 from by unfold m_X8_readsRoad_L57_187_b; rw [if_pos (le_cg m192 rfl c193), if_neg (neq_cg rfl rfl c195)]).trans (congr (congr (congr (congrArg (m_X8_readsRoad_248 (m_X8_readsRoad_L57_187 n187)) (congrArg Prod.snd mc247)) (Eq.refl ((nI q3187) : Int32))) (Eq.refl (x187_2 : Int32))) (Eq.refl (va15 : Int32))))
            have hA250 := fN_of (k := 14) (a := at245) hF245 rfl (Nat.lt_of_le_of_lt hb245_5 (by decide))
            have hL250 := fN_of (k := 1) (a := ty245) hF245 rfl (Nat.lt_of_le_of_lt hb245_1 (by decide))
            have hE251 : M = ((nI 0), AB ad F243) := hE249.trans ((show m_X8_readsRoad_248 (m_X8_readsRoad_L57_187 n187) (AB ad F243) (nI q3187) x187_2 va15 = ((nI 0), (AB ad F243)) from rfl).trans (congrArg (fun q => (q, AB ad F243)) rfl))
            exact hret 148 _ _ _ _ _ dX8_readsRoad_148 rfl hP243 hS243 ⟨hW243, hFr243, ⟨⟨⟨0, by omega, rfl⟩, by omega, fun h => absurd rfl h⟩, hM.symm.trans hE251⟩⟩
          have k252 := ci_nle (nI_toInt (n := b4) (Nat.lt_of_le_of_lt hb4 (by decide))) (nI_toInt (n := q3187) (by omega)) c193
          refine lv_aload_n S.1 S.2.1 dX8_readsRoad_67 rfl (lv_at hl187 3 rfl) ?_
          refine r_get S hK hP33 58 (by decide) hF35 (C := RX8) (T := TX8) (N := 23) hiX8 rfl 3 (by decide) (am_at in_wsX8_readsRoad_0 0 rfl) (v := .ref (ad 61)) rfl dX8_readsRoad_68 ?_
          refine lv_bipush (v := (nI 28)) S.1 S.2.1 dX8_readsRoad_71 (by decide +kernel) ?_
          refine lv_iload_n S.1 S.2.1 dX8_readsRoad_73 rfl (lv_at hl187 0 rfl) ?_
          refine lv_iadd S.1 S.2.1 dX8_readsRoad_74 ?_
          refine lv_topi (fun v253 e253 => ?_)
          obtain rfl : v253 = nI (28 + q3187) := e253.trans (nI_add _ _)
          have m254 : ((nI 28) + (nI q3187)) = (nI (28 + q3187)) := cg2 (fun (x : Int32) (y : Int32) => x + y) (Eq.refl ((nI 28) : Int32)) (Eq.refl ((nI q3187) : Int32)) e253
          refine r_iald S hK hP33 61 (by decide) hF189 (vp_in_nI (show 28 + q3187 < 52 by omega) (by omega)) dX8_readsRoad_75 ?_
          refine lv_topi (fun v256 e256 => ?_)
          have m257 : ((AB ad F33) 61 (rl ((nI 28) + (nI q3187)))) = v256 := (ab_cg rfl m254).trans ((AB_g hF189).trans e256.symm)
          refine lv_istore (lv' := [(4, .int v256), (3, .int (nI q3187)), (2, .int x187_2), (1, .int va15), (0, .ref (ad 58))]) S.1 S.2.1 dX8_readsRoad_76 hl187 (by decide) rfl (fun ls258 hl258 => ?_)
          refine lv_aload_n S.1 S.2.1 dX8_readsRoad_78 rfl (lv_at hl258 4 rfl) ?_
          refine r_get S hK hP33 58 (by decide) hF35 (C := RX8) (T := TX8) (N := 23) hiX8 rfl 3 (by decide) (am_at in_wsX8_readsRoad_0 0 rfl) (v := .ref (ad 61)) rfl dX8_readsRoad_79 ?_
          refine lv_bipush (v := (nI 40)) S.1 S.2.1 dX8_readsRoad_82 (by decide +kernel) ?_
          refine lv_iload_n S.1 S.2.1 dX8_readsRoad_84 rfl (lv_at hl258 1 rfl) ?_
          refine lv_iadd S.1 S.2.1 dX8_readsRoad_85 ?_
          refine lv_topi (fun v259 e259 => ?_)
          obtain rfl : v259 = nI (40 + q3187) := e259.trans (nI_add _ _)
          have m260 : ((nI 40) + (nI q3187)) = (nI (40 + q3187)) := cg2 (fun (x : Int32) (y : Int32) => x + y) (Eq.refl ((nI 40) : Int32)) (Eq.refl ((nI q3187) : Int32)) e259
          refine r_iald S hK hP33 61 (by decide) hF189 (vp_in_nI (show 40 + q3187 < 52 by omega) (by omega)) dX8_readsRoad_86 ?_
          refine lv_topi (fun v262 e262 => ?_)
          have m263 : ((AB ad F33) 61 (rl ((nI 40) + (nI q3187)))) = v262 := (ab_cg rfl m260).trans ((AB_g hF189).trans e262.symm)
          refine lv_istore (lv' := [(5, .int v262), (4, .int v256), (3, .int (nI q3187)), (2, .int x187_2), (1, .int va15), (0, .ref (ad 58))]) S.1 S.2.1 dX8_readsRoad_87 hl258 (by decide) rfl (fun ls264 hl264 => ?_)
          refine lv_iload_n S.1 S.2.1 dX8_readsRoad_89 rfl (lv_at hl264 3 rfl) ?_
          refine lv_if_ne (tgt := 123) S.1 S.2.1 dX8_readsRoad_90 (by decide) (fun c265 => ?_) (fun c265 => ?_)
          · skip
            have k266 := ci_ne rfl z_ti c265
            refine lv_iconst (v := (nI 1)) S.1 S.2.1 dX8_readsRoad_123 (by decide +kernel) ?_
            refine lv_goto (tgt := 128) S.1 S.2.1 dX8_readsRoad_124 (by decide) ?_
            refine lv_istore_n (lv' := [(2, .int (nI 1)), (5, .int v262), (4, .int v256), (3, .int (nI q3187)), (1, .int va15), (0, .ref (ad 58))]) S.1 S.2.1 dX8_readsRoad_128 rfl hl264 (by decide) rfl (fun ls267 hl267 => ?_)
            have m269 : ((nI q3187) + Int32.ofInt (1)) = (nI (q3187 + 1)) := (congrArg (fun q : Int32 => q + Int32.ofInt (1)) rfl).trans (nI_add _ 1)
            refine lv_iinc (v := (nI (q3187 + 1))) (lv' := [(3, .int (nI (q3187 + 1))), (2, .int (nI 1)), (5, .int v262), (4, .int v256), (1, .int va15), (0, .ref (ad 58))]) S.1 S.2.1 dX8_readsRoad_129 hl267 (k := 3) rfl (nI_add _ 1) (by decide) rfl (fun ls268 hl268 => ?_)
            refine lv_goto (tgt := 57) S.1 S.2.1 dX8_readsRoad_132 (by decide) ?_
            have hE270 : M = (m_X8_readsRoad_L57_187 n187) (AB ad F33) (nI (q3187 + 1)) (nI 1) va15 := hE188.trans ((show m_X8_readsRoad_L57_187_b (m_X8_readsRoad_L57_187 n187) (AB ad F33) (nI q3187) x187_2 va15 = (m_X8_readsRoad_L57_187 n187) (AB ad F33) ((nI q3187) + Int32.ofInt (1)) (nI 1) va15 from by unfold m_X8_readsRoad_L57_187_b; rw [if_neg (nle_cg m192 rfl c193), if_neg (neq_cg rfl rfl c265)]).trans (congr (congr (congr (congrArg ((m_X8_readsRoad_L57_187 n187)) (rfl : AB ad F33 = AB ad F33)) m269) (Eq.refl ((nI 1) : Int32))) (Eq.refl (va15 : Int32))))
            exact ih187 (q3187 + 1) ((nI 1)) (by omega) (by omega) hE270 ls268 (lv_sub hl268 [0, 1, 4, 5] rfl)
          have k271 := ci_eq rfl z_ti c265
          refine lv_iload S.1 S.2.1 dX8_readsRoad_93 (lv_at hl264 1 rfl) ?_
          refine lv_iload_n S.1 S.2.1 dX8_readsRoad_95 rfl (lv_at hl264 4 rfl) ?_
          refine lv_icmp_ne (tgt := 108) S.1 S.2.1 dX8_readsRoad_96 (by decide) (fun c272 => ?_) (fun c272 => ?_)
          · skip
            have k273 := ci_ne rfl rfl c272
            refine lv_iload S.1 S.2.1 dX8_readsRoad_108 (lv_at hl264 1 rfl) ?_
            refine lv_aload_n S.1 S.2.1 dX8_readsRoad_110 rfl (lv_at hl264 5 rfl) ?_
            refine r_get S hK hP33 58 (by decide) hF35 (C := RX8) (T := TX8) (N := 23) hiX8 rfl 17 (by decide) (am_at in_wsX8_readsRoad_0 1 rfl) (v := .int va35) rfl dX8_readsRoad_111 ?_
            have m274 : ((AB ad F33) 58 17) = va35 := AB_f hF35 rfl
            refine lv_icmp_ne (tgt := 127) S.1 S.2.1 dX8_readsRoad_114 (by decide) (fun c275 => ?_) (fun c275 => ?_)
            · skip
              have k276 := ci_ne rfl rfl c275
              refine lv_iconst (v := (nI 0)) S.1 S.2.1 dX8_readsRoad_127 (by decide +kernel) ?_
              refine lv_istore_n (lv' := [(2, .int (nI 0)), (5, .int v262), (4, .int v256), (3, .int (nI q3187)), (1, .int va15), (0, .ref (ad 58))]) S.1 S.2.1 dX8_readsRoad_128 rfl hl264 (by decide) rfl (fun ls277 hl277 => ?_)
              have m279 : ((nI q3187) + Int32.ofInt (1)) = (nI (q3187 + 1)) := (congrArg (fun q : Int32 => q + Int32.ofInt (1)) rfl).trans (nI_add _ 1)
              refine lv_iinc (v := (nI (q3187 + 1))) (lv' := [(3, .int (nI (q3187 + 1))), (2, .int (nI 0)), (5, .int v262), (4, .int v256), (1, .int va15), (0, .ref (ad 58))]) S.1 S.2.1 dX8_readsRoad_129 hl277 (k := 3) rfl (nI_add _ 1) (by decide) rfl (fun ls278 hl278 => ?_)
              refine lv_goto (tgt := 57) S.1 S.2.1 dX8_readsRoad_132 (by decide) ?_
              have hE280 : M = (m_X8_readsRoad_L57_187 n187) (AB ad F33) (nI (q3187 + 1)) (nI 0) va15 := hE188.trans ((show m_X8_readsRoad_L57_187_b (m_X8_readsRoad_L57_187 n187) (AB ad F33) (nI q3187) x187_2 va15 = (m_X8_readsRoad_L57_187 n187) (AB ad F33) ((nI q3187) + Int32.ofInt (1)) (nI 0) va15 from by unfold m_X8_readsRoad_L57_187_b; rw [if_neg (nle_cg m192 rfl c193), if_pos (eq_cg rfl rfl c265), if_neg (neq_cg m257 rfl c272), if_neg (neq_cg m257 m274 c275)]).trans (congr (congr (congr (congrArg ((m_X8_readsRoad_L57_187 n187)) (rfl : AB ad F33 = AB ad F33)) m279) (Eq.refl ((nI 0) : Int32))) (Eq.refl (va15 : Int32))))
              exact ih187 (q3187 + 1) ((nI 0)) (by omega) (by omega) hE280 ls278 (lv_sub hl278 [0, 1, 4, 5] rfl)
            have k281 := ci_eq rfl rfl c275
            refine lv_iload S.1 S.2.1 dX8_readsRoad_117 (lv_at hl264 0 rfl) ?_
            refine lv_iload_n S.1 S.2.1 dX8_readsRoad_119 rfl (lv_at hl264 4 rfl) ?_
            refine lv_icmp_ne (tgt := 127) S.1 S.2.1 dX8_readsRoad_120 (by decide) (fun c282 => ?_) (fun c282 => ?_)
            · skip
              have k283 := ci_ne rfl rfl c282
              refine lv_iconst (v := (nI 0)) S.1 S.2.1 dX8_readsRoad_127 (by decide +kernel) ?_
              refine lv_istore_n (lv' := [(2, .int (nI 0)), (5, .int v262), (4, .int v256), (3, .int (nI q3187)), (1, .int va15), (0, .ref (ad 58))]) S.1 S.2.1 dX8_readsRoad_128 rfl hl264 (by decide) rfl (fun ls284 hl284 => ?_)
              have m286 : ((nI q3187) + Int32.ofInt (1)) = (nI (q3187 + 1)) := (congrArg (fun q : Int32 => q + Int32.ofInt (1)) rfl).trans (nI_add _ 1)
              refine lv_iinc (v := (nI (q3187 + 1))) (lv' := [(3, .int (nI (q3187 + 1))), (2, .int (nI 0)), (5, .int v262), (4, .int v256), (1, .int va15), (0, .ref (ad 58))]) S.1 S.2.1 dX8_readsRoad_129 hl284 (k := 3) rfl (nI_add _ 1) (by decide) rfl (fun ls285 hl285 => ?_)
              refine lv_goto (tgt := 57) S.1 S.2.1 dX8_readsRoad_132 (by decide) ?_
              have hE287 : M = (m_X8_readsRoad_L57_187 n187) (AB ad F33) (nI (q3187 + 1)) (nI 0) va15 := hE188.trans ((show m_X8_readsRoad_L57_187_b (m_X8_readsRoad_L57_187 n187) (AB ad F33) (nI q3187) x187_2 va15 = (m_X8_readsRoad_L57_187 n187) (AB ad F33) ((nI q3187) + Int32.ofInt (1)) (nI 0) va15 from by unfold m_X8_readsRoad_L57_187_b; rw [if_neg (nle_cg m192 rfl c193), if_pos (eq_cg rfl rfl c265), if_neg (neq_cg m257 rfl c272), if_pos (eq_cg m257 m274 c275), if_neg (neq_cg m263 rfl c282)]).trans (congr (congr (congr (congrArg ((m_X8_readsRoad_L57_187 n187)) (rfl : AB ad F33 = AB ad F33)) m286) (Eq.refl ((nI 0) : Int32))) (Eq.refl (va15 : Int32))))
              exact ih187 (q3187 + 1) ((nI 0)) (by omega) (by omega) hE287 ls285 (lv_sub hl285 [0, 1, 4, 5] rfl)
            have k288 := ci_eq rfl rfl c282
            refine lv_iconst (v := (nI 1)) S.1 S.2.1 dX8_readsRoad_123 (by decide +kernel) ?_
            refine lv_goto (tgt := 128) S.1 S.2.1 dX8_readsRoad_124 (by decide) ?_
            refine lv_istore_n (lv' := [(2, .int (nI 1)), (5, .int v262), (4, .int v256), (3, .int (nI q3187)), (1, .int va15), (0, .ref (ad 58))]) S.1 S.2.1 dX8_readsRoad_128 rfl hl264 (by decide) rfl (fun ls289 hl289 => ?_)
            have m291 : ((nI q3187) + Int32.ofInt (1)) = (nI (q3187 + 1)) := (congrArg (fun q : Int32 => q + Int32.ofInt (1)) rfl).trans (nI_add _ 1)
            refine lv_iinc (v := (nI (q3187 + 1))) (lv' := [(3, .int (nI (q3187 + 1))), (2, .int (nI 1)), (5, .int v262), (4, .int v256), (1, .int va15), (0, .ref (ad 58))]) S.1 S.2.1 dX8_readsRoad_129 hl289 (k := 3) rfl (nI_add _ 1) (by decide) rfl (fun ls290 hl290 => ?_)
            refine lv_goto (tgt := 57) S.1 S.2.1 dX8_readsRoad_132 (by decide) ?_
            have hE292 : M = (m_X8_readsRoad_L57_187 n187) (AB ad F33) (nI (q3187 + 1)) (nI 1) va15 := hE188.trans ((show m_X8_readsRoad_L57_187_b (m_X8_readsRoad_L57_187 n187) (AB ad F33) (nI q3187) x187_2 va15 = (m_X8_readsRoad_L57_187 n187) (AB ad F33) ((nI q3187) + Int32.ofInt (1)) (nI 1) va15 from by unfold m_X8_readsRoad_L57_187_b; rw [if_neg (nle_cg m192 rfl c193), if_pos (eq_cg rfl rfl c265), if_neg (neq_cg m257 rfl c272), if_pos (eq_cg m257 m274 c275), if_pos (eq_cg m263 rfl c282)]).trans (congr (congr (congr (congrArg ((m_X8_readsRoad_L57_187 n187)) (rfl : AB ad F33 = AB ad F33)) m291) (Eq.refl ((nI 1) : Int32))) (Eq.refl (va15 : Int32))))
            exact ih187 (q3187 + 1) ((nI 1)) (by omega) (by omega) hE292 ls290 (lv_sub hl290 [0, 1, 4, 5] rfl)
          have k293 := ci_eq rfl rfl c272
          refine lv_iload S.1 S.2.1 dX8_readsRoad_99 (lv_at hl264 0 rfl) ?_
          refine lv_aload_n S.1 S.2.1 dX8_readsRoad_101 rfl (lv_at hl264 5 rfl) ?_
          refine r_get S hK hP33 58 (by decide) hF35 (C := RX8) (T := TX8) (N := 23) hiX8 rfl 17 (by decide) (am_at in_wsX8_readsRoad_0 1 rfl) (v := .int va35) rfl dX8_readsRoad_102 ?_
          have m294 : ((AB ad F33) 58 17) = va35 := AB_f hF35 rfl
          refine lv_icmp_eq (tgt := 123) S.1 S.2.1 dX8_readsRoad_105 (by decide) (fun c295 => ?_) (fun c295 => ?_)
          · skip
            have k296 := ci_eq rfl rfl c295
            refine lv_iconst (v := (nI 1)) S.1 S.2.1 dX8_readsRoad_123 (by decide +kernel) ?_
            refine lv_goto (tgt := 128) S.1 S.2.1 dX8_readsRoad_124 (by decide) ?_
            refine lv_istore_n (lv' := [(2, .int (nI 1)), (5, .int v262), (4, .int v256), (3, .int (nI q3187)), (1, .int va15), (0, .ref (ad 58))]) S.1 S.2.1 dX8_readsRoad_128 rfl hl264 (by decide) rfl (fun ls297 hl297 => ?_)
            have m299 : ((nI q3187) + Int32.ofInt (1)) = (nI (q3187 + 1)) := (congrArg (fun q : Int32 => q + Int32.ofInt (1)) rfl).trans (nI_add _ 1)
            refine lv_iinc (v := (nI (q3187 + 1))) (lv' := [(3, .int (nI (q3187 + 1))), (2, .int (nI 1)), (5, .int v262), (4, .int v256), (1, .int va15), (0, .ref (ad 58))]) S.1 S.2.1 dX8_readsRoad_129 hl297 (k := 3) rfl (nI_add _ 1) (by decide) rfl (fun ls298 hl298 => ?_)
            refine lv_goto (tgt := 57) S.1 S.2.1 dX8_readsRoad_132 (by decide) ?_
            have hE300 : M = (m_X8_readsRoad_L57_187 n187) (AB ad F33) (nI (q3187 + 1)) (nI 1) va15 := hE188.trans ((show m_X8_readsRoad_L57_187_b (m_X8_readsRoad_L57_187 n187) (AB ad F33) (nI q3187) x187_2 va15 = (m_X8_readsRoad_L57_187 n187) (AB ad F33) ((nI q3187) + Int32.ofInt (1)) (nI 1) va15 from by unfold m_X8_readsRoad_L57_187_b; rw [if_neg (nle_cg m192 rfl c193), if_pos (eq_cg rfl rfl c265), if_pos (eq_cg m257 rfl c272), if_pos (eq_cg m263 m294 c295)]).trans (congr (congr (congr (congrArg ((m_X8_readsRoad_L57_187 n187)) (rfl : AB ad F33 = AB ad F33)) m299) (Eq.refl ((nI 1) : Int32))) (Eq.refl (va15 : Int32))))
            exact ih187 (q3187 + 1) ((nI 1)) (by omega) (by omega) hE300 ls298 (lv_sub hl298 [0, 1, 4, 5] rfl)
          have k301 := ci_ne rfl rfl c295
          refine lv_iload S.1 S.2.1 dX8_readsRoad_108 (lv_at hl264 1 rfl) ?_
          refine lv_aload_n S.1 S.2.1 dX8_readsRoad_110 rfl (lv_at hl264 5 rfl) ?_
          refine r_get S hK hP33 58 (by decide) hF35 (C := RX8) (T := TX8) (N := 23) hiX8 rfl 17 (by decide) (am_at in_wsX8_readsRoad_0 1 rfl) (v := .int va35) rfl dX8_readsRoad_111 ?_
          have m302 : ((AB ad F33) 58 17) = va35 := AB_f hF35 rfl
          refine lv_icmp_ne (tgt := 127) S.1 S.2.1 dX8_readsRoad_114 (by decide) (fun c303 => ?_) (fun c303 => ?_)
          · skip
            have k304 := ci_ne rfl rfl c303
            refine lv_iconst (v := (nI 0)) S.1 S.2.1 dX8_readsRoad_127 (by decide +kernel) ?_
            refine lv_istore_n (lv' := [(2, .int (nI 0)), (5, .int v262), (4, .int v256), (3, .int (nI q3187)), (1, .int va15), (0, .ref (ad 58))]) S.1 S.2.1 dX8_readsRoad_128 rfl hl264 (by decide) rfl (fun ls305 hl305 => ?_)
            have m307 : ((nI q3187) + Int32.ofInt (1)) = (nI (q3187 + 1)) := (congrArg (fun q : Int32 => q + Int32.ofInt (1)) rfl).trans (nI_add _ 1)
            refine lv_iinc (v := (nI (q3187 + 1))) (lv' := [(3, .int (nI (q3187 + 1))), (2, .int (nI 0)), (5, .int v262), (4, .int v256), (1, .int va15), (0, .ref (ad 58))]) S.1 S.2.1 dX8_readsRoad_129 hl305 (k := 3) rfl (nI_add _ 1) (by decide) rfl (fun ls306 hl306 => ?_)
            refine lv_goto (tgt := 57) S.1 S.2.1 dX8_readsRoad_132 (by decide) ?_
            have hE308 : M = (m_X8_readsRoad_L57_187 n187) (AB ad F33) (nI (q3187 + 1)) (nI 0) va15 := hE188.trans ((show m_X8_readsRoad_L57_187_b (m_X8_readsRoad_L57_187 n187) (AB ad F33) (nI q3187) x187_2 va15 = (m_X8_readsRoad_L57_187 n187) (AB ad F33) ((nI q3187) + Int32.ofInt (1)) (nI 0) va15 from by unfold m_X8_readsRoad_L57_187_b; rw [if_neg (nle_cg m192 rfl c193), if_pos (eq_cg rfl rfl c265), if_pos (eq_cg m257 rfl c272), if_neg (neq_cg m263 m294 c295), if_neg (neq_cg m257 m302 c303)]).trans (congr (congr (congr (congrArg ((m_X8_readsRoad_L57_187 n187)) (rfl : AB ad F33 = AB ad F33)) m307) (Eq.refl ((nI 0) : Int32))) (Eq.refl (va15 : Int32))))
            exact ih187 (q3187 + 1) ((nI 0)) (by omega) (by omega) hE308 ls306 (lv_sub hl306 [0, 1, 4, 5] rfl)
          have k309 := ci_eq rfl rfl c303
          refine lv_iload S.1 S.2.1 dX8_readsRoad_117 (lv_at hl264 0 rfl) ?_
          refine lv_iload_n S.1 S.2.1 dX8_readsRoad_119 rfl (lv_at hl264 4 rfl) ?_
          refine lv_icmp_ne (tgt := 127) S.1 S.2.1 dX8_readsRoad_120 (by decide) (fun c310 => ?_) (fun c310 => ?_)
          · skip
            have k311 := ci_ne rfl rfl c310
            refine lv_iconst (v := (nI 0)) S.1 S.2.1 dX8_readsRoad_127 (by decide +kernel) ?_
            refine lv_istore_n (lv' := [(2, .int (nI 0)), (5, .int v262), (4, .int v256), (3, .int (nI q3187)), (1, .int va15), (0, .ref (ad 58))]) S.1 S.2.1 dX8_readsRoad_128 rfl hl264 (by decide) rfl (fun ls312 hl312 => ?_)
            have m314 : ((nI q3187) + Int32.ofInt (1)) = (nI (q3187 + 1)) := (congrArg (fun q : Int32 => q + Int32.ofInt (1)) rfl).trans (nI_add _ 1)
            refine lv_iinc (v := (nI (q3187 + 1))) (lv' := [(3, .int (nI (q3187 + 1))), (2, .int (nI 0)), (5, .int v262), (4, .int v256), (1, .int va15), (0, .ref (ad 58))]) S.1 S.2.1 dX8_readsRoad_129 hl312 (k := 3) rfl (nI_add _ 1) (by decide) rfl (fun ls313 hl313 => ?_)
            refine lv_goto (tgt := 57) S.1 S.2.1 dX8_readsRoad_132 (by decide) ?_
            have hE315 : M = (m_X8_readsRoad_L57_187 n187) (AB ad F33) (nI (q3187 + 1)) (nI 0) va15 := hE188.trans ((show m_X8_readsRoad_L57_187_b (m_X8_readsRoad_L57_187 n187) (AB ad F33) (nI q3187) x187_2 va15 = (m_X8_readsRoad_L57_187 n187) (AB ad F33) ((nI q3187) + Int32.ofInt (1)) (nI 0) va15 from by unfold m_X8_readsRoad_L57_187_b; rw [if_neg (nle_cg m192 rfl c193), if_pos (eq_cg rfl rfl c265), if_pos (eq_cg m257 rfl c272), if_neg (neq_cg m263 m294 c295), if_pos (eq_cg m257 m302 c303), if_neg (neq_cg m263 rfl c310)]).trans (congr (congr (congr (congrArg ((m_X8_readsRoad_L57_187 n187)) (rfl : AB ad F33 = AB ad F33)) m314) (Eq.refl ((nI 0) : Int32))) (Eq.refl (va15 : Int32))))
            exact ih187 (q3187 + 1) ((nI 0)) (by omega) (by omega) hE315 ls313 (lv_sub hl313 [0, 1, 4, 5] rfl)
          have k316 := ci_eq rfl rfl c310
          refine lv_iconst (v := (nI 1)) S.1 S.2.1 dX8_readsRoad_123 (by decide +kernel) ?_
          refine lv_goto (tgt := 128) S.1 S.2.1 dX8_readsRoad_124 (by decide) ?_
          refine lv_istore_n (lv' := [(2, .int (nI 1)), (5, .int v262), (4, .int v256), (3, .int (nI q3187)), (1, .int va15), (0, .ref (ad 58))]) S.1 S.2.1 dX8_readsRoad_128 rfl hl264 (by decide) rfl (fun ls317 hl317 => ?_)
          have m319 : ((nI q3187) + Int32.ofInt (1)) = (nI (q3187 + 1)) := (congrArg (fun q : Int32 => q + Int32.ofInt (1)) rfl).trans (nI_add _ 1)
          refine lv_iinc (v := (nI (q3187 + 1))) (lv' := [(3, .int (nI (q3187 + 1))), (2, .int (nI 1)), (5, .int v262), (4, .int v256), (1, .int va15), (0, .ref (ad 58))]) S.1 S.2.1 dX8_readsRoad_129 hl317 (k := 3) rfl (nI_add _ 1) (by decide) rfl (fun ls318 hl318 => ?_)
          refine lv_goto (tgt := 57) S.1 S.2.1 dX8_readsRoad_132 (by decide) ?_
          have hE320 : M = (m_X8_readsRoad_L57_187 n187) (AB ad F33) (nI (q3187 + 1)) (nI 1) va15 := hE188.trans ((show m_X8_readsRoad_L57_187_b (m_X8_readsRoad_L57_187 n187) (AB ad F33) (nI q3187) x187_2 va15 = (m_X8_readsRoad_L57_187 n187) (AB ad F33) ((nI q3187) + Int32.ofInt (1)) (nI 1) va15 from by unfold m_X8_readsRoad_L57_187_b; rw [if_neg (nle_cg m192 rfl c193), if_pos (eq_cg rfl rfl c265), if_pos (eq_cg m257 rfl c272), if_neg (neq_cg m263 m294 c295), if_pos (eq_cg m257 m302 c303), if_pos (eq_cg m263 rfl c310)]).trans (congr (congr (congr (congrArg ((m_X8_readsRoad_L57_187 n187)) (rfl : AB ad F33 = AB ad F33)) m319) (Eq.refl ((nI 1) : Int32))) (Eq.refl (va15 : Int32))))
          exact ih187 (q3187 + 1) ((nI 1)) (by omega) (by omega) hE320 ls318 (lv_sub hl318 [0, 1, 4, 5] rfl)
      have hE321 : M = m_X8_readsRoad_L57_187 2000 (AB ad F33) (nI 0) (nI 1) va15 := hE41.trans ((show m_X8_readsRoad_40 (AB ad F33) va15 (nI b34) = m_X8_readsRoad_L57_187 2000 (AB ad F33) (nI 0) (nI 1) va15 from by unfold m_X8_readsRoad_40; rw [if_neg (neq_cg rfl rfl c42), if_pos (eq_cg rfl m44 c45)]).trans (congr (congr (congr (congrArg (m_X8_readsRoad_L57_187 2000) (rfl : AB ad F33 = AB ad F33)) (Eq.refl ((nI 0) : Int32))) (Eq.refl ((nI 1) : Int32))) (Eq.refl (va15 : Int32))))
      exact lp187 2000 (0) ((nI 1)) (by omega) (by omega) hE321 ls186 (lv_sub hl186 [0, 1, 2, 3] rfl)
    have k322 := ci_eq (nI_toInt (n := b34) (Nat.lt_of_le_of_lt hb34 (by decide))) z_ti c42
    refine lv_iconst (v := (nI 0)) S.1 S.2.1 dX8_readsRoad_39 (by decide +kernel) ?_
    have hA323 := fN_of (k := 14) (a := at35) hF35 rfl (Nat.lt_of_le_of_lt hb35_5 (by decide))
    have hL323 := fN_of (k := 1) (a := ty35) hF35 rfl (Nat.lt_of_le_of_lt hb35_1 (by decide))
    have hE324 : M = ((nI 0), AB ad F33) := hE41.trans ((show m_X8_readsRoad_40 (AB ad F33) va15 (nI b34) = ((nI 0), (AB ad F33)) from by unfold m_X8_readsRoad_40; rw [if_pos (eq_cg rfl rfl c42)]).trans (congrArg (fun q => (q, AB ad F33)) rfl))
    exact hret 40 _ _ _ _ _ dX8_readsRoad_40 rfl hP33 hS33 ⟨hW33, hFr33, ⟨⟨⟨0, by omega, rfl⟩, by omega, fun h => absurd rfl h⟩, hM.symm.trans hE324⟩⟩
  have k325 := ci_eq (nI_toInt (n := b14) (Nat.lt_of_le_of_lt hb14 (by decide))) z_ti c22
  refine lv_iconst (v := (nI 0)) S.1 S.2.1 dX8_readsRoad_16 (by decide +kernel) ?_
  have hA326 := fN_of (k := 14) (a := at15) hF15 rfl (Nat.lt_of_le_of_lt hb15_5 (by decide))
  have hL326 := fN_of (k := 1) (a := ty15) hF15 rfl (Nat.lt_of_le_of_lt hb15_1 (by decide))
  have hE327 : M = ((nI 0), AB ad F13) := hE21.trans ((show m_X8_readsRoad_20 (AB ad F13) (nI b14) = ((nI 0), (AB ad F13)) from by unfold m_X8_readsRoad_20; rw [if_pos (eq_cg rfl rfl c22)]).trans (congrArg (fun q => (q, AB ad F13)) rfl))
  exact hret 17 _ _ _ _ _ dX8_readsRoad_17 rfl hP13 hS13 ⟨hW13, hFr13, ⟨⟨⟨0, by omega, rfl⟩, by omega, fun h => absurd rfl h⟩, hM.symm.trans hE327⟩⟩
noncomputable def m_X8_readsClause_390 (σ : SS) (a0 : Int32) : Int32 × SS :=
  ((nI 0), σ)
noncomputable def m_X8_readsClause_372 (σ : SS) (a0 : Int32) : Int32 × SS :=
  ((nI 0), σ)
noncomputable def m_X8_readsClause_358 (σ : SS) (a0 : Int32) : Int32 × SS :=
  ((nI 0), σ)
noncomputable def m_X8_readsClause_338 (σ : SS) (a0 : Int32) : Int32 × SS :=
  ((nI 0), σ)
noncomputable def m_X8_readsClause_326 (σ : SS) (a0 : Int32) (a1 : Int32) : Int32 × SS :=
  (a1, σ)
noncomputable def m_X8_readsClause_316 (σ : SS) (a0 : Int32) : Int32 × SS :=
  m_X8_readsClause_326 ((m_X8_readsStay σ)).2 a0 ((m_X8_readsStay σ)).1
noncomputable def m_X8_readsClause_301 (σ : SS) (a0 : Int32) (a1 : Int32) : Int32 × SS :=
  (a1, σ)
noncomputable def m_X8_readsClause_291 (σ : SS) (a0 : Int32) : Int32 × SS :=
  m_X8_readsClause_301 ((m_X8_readsStay σ)).2 a0 ((m_X8_readsStay σ)).1
noncomputable def m_X8_readsClause_280 (σ : SS) (a0 : Int32) : Int32 × SS :=
  ((nI 0), σ)
noncomputable def m_X8_readsClause_262 (σ : SS) (a0 : Int32) : Int32 × SS :=
  ((nI 0), σ)
noncomputable def m_X8_readsClause_250 (σ : SS) (a0 : Int32) (a1 : Int32) : Int32 × SS :=
  (a1, σ)
noncomputable def m_X8_readsClause_240 (σ : SS) (a0 : Int32) : Int32 × SS :=
  m_X8_readsClause_250 ((m_X8_readsStay σ)).2 a0 ((m_X8_readsStay σ)).1
noncomputable def m_X8_readsClause_225 (σ : SS) (a0 : Int32) (a1 : Int32) : Int32 × SS :=
  (a1, σ)
noncomputable def m_X8_readsClause_215 (σ : SS) (a0 : Int32) : Int32 × SS :=
  m_X8_readsClause_225 ((m_X8_readsStay σ)).2 a0 ((m_X8_readsStay σ)).1
noncomputable def m_X8_readsClause_193 (σ : SS) (a0 : Int32) : Int32 × SS :=
  ((nI 0), σ)
noncomputable def m_X8_readsClause_181 (σ : SS) (a0 : Int32) (a1 : Int32) : Int32 × SS :=
  (a1, σ)
noncomputable def m_X8_readsClause_167 (σ : SS) (a0 : Int32) : Int32 × SS :=
  m_X8_readsClause_181 ((m_X8_readsRoad σ)).2 a0 ((m_X8_readsRoad σ)).1
noncomputable def m_X8_readsClause_140 (σ : SS) (a0 : Int32) : Int32 × SS :=
  ((nI 0), σ)
noncomputable def m_X8_readsClause_126 (σ : SS) (a0 : Int32) : Int32 × SS :=
  ((nI 0), σ)
noncomputable def m_X8_readsClause_114 (σ : SS) (a0 : Int32) (a1 : Int32) : Int32 × SS :=
  (a1, σ)
noncomputable def m_X8_readsClause_100 (σ : SS) (a0 : Int32) : Int32 × SS :=
  m_X8_readsClause_114 ((m_X8_readsTown σ)).2 a0 ((m_X8_readsTown σ)).1
noncomputable def m_X8_readsClause_85 (σ : SS) (a0 : Int32) (a1 : Int32) : Int32 × SS :=
  (a1, σ)
noncomputable def m_X8_readsClause_71 (σ : SS) (a0 : Int32) : Int32 × SS :=
  m_X8_readsClause_85 ((m_X8_readsTown σ)).2 a0 ((m_X8_readsTown σ)).1
noncomputable def m_X8_readsClause_60 (σ : SS) (a0 : Int32) : Int32 × SS :=
  ((nI 0), σ)
noncomputable def m_X8_readsClause_30 (σ : SS) (a0 : Int32) : Int32 × SS :=
  ((nI 0), σ)
noncomputable def m_X8_readsClause (σ : SS) (a0 : Int32) : Int32 × SS :=
  if (σ 61 (rl (nI 0))) = (0 : Int32) then
    if a0 = (nI 108) then
      if a0 = (nI 116) then
        if (σ 61 (rl (nI 2))) = (nI 8) then
          m_X8_readsClause_280 ((m_X8_isWrong σ (nI 3) (σ 58 14))).2 a0
        else
          if a0 = (nI 114) then
            if (σ 61 (rl (nI 3))) = (nI 12) then
              m_X8_readsClause_338 ((m_X8_isWrong σ (nI 3) (σ 58 14))).2 a0
            else
              m_X8_readsClause_316 (st σ 58 14 ((σ 58 14) + (nI 1))) a0
          else
            m_X8_readsClause_291 (st σ 58 14 ((σ 58 14) + (nI 1))) a0
      else
        if a0 = (nI 114) then
          if (σ 61 (rl (nI 3))) = (nI 12) then
            m_X8_readsClause_262 ((m_X8_isWrong σ (nI 3) (σ 58 14))).2 a0
          else
            m_X8_readsClause_240 (st σ 58 14 ((σ 58 14) + (nI 1))) a0
        else
          m_X8_readsClause_215 (st σ 58 14 ((σ 58 14) + (nI 1))) a0
    else
      if a0 = (nI 116) then
        m_X8_readsClause_358 ((m_X8_isWrong σ (nI 1) (σ 58 14))).2 a0
      else
        if a0 = (nI 114) then
          m_X8_readsClause_390 ((m_X8_isWrong σ (nI 1) (σ 58 14))).2 a0
        else
          m_X8_readsClause_372 ((m_X8_isWrong σ (nI 1) (σ 58 14))).2 a0
  else
    if a0 = (nI 108) then
      m_X8_readsClause_30 ((m_X8_isWrong σ (nI 3) (σ 58 14))).2 a0
    else
      if a0 = (nI 116) then
        if (σ 61 (rl (nI 2))) = (nI 8) then
          m_X8_readsClause_60 ((m_X8_isWrong σ (nI 3) (σ 58 14))).2 a0
        else
          if a0 = (nI 114) then
            if (σ 61 (rl (nI 3))) = (nI 12) then
              m_X8_readsClause_126 ((m_X8_isWrong σ (nI 3) (σ 58 14))).2 a0
            else
              m_X8_readsClause_100 (st σ 58 14 ((σ 58 14) + (nI 1))) a0
          else
            m_X8_readsClause_71 (st σ 58 14 ((σ 58 14) + (nI 1))) a0
      else
        if a0 = (nI 114) then
          if (σ 61 (rl (nI 3))) = (nI 12) then
            m_X8_readsClause_193 ((m_X8_isWrong σ (nI 3) (σ 58 14))).2 a0
          else
            m_X8_readsClause_167 (st σ 58 14 ((σ 58 14) + (nI 1))) a0
        else
          m_X8_readsClause_140 ((m_X8_isWrong σ (nI 1) (σ 58 14))).2 a0
set_option maxHeartbeats 4000000 in
set_option maxRecDepth 100000 in
theorem c_X8_readsClause (l : Launch) (D : va_G) (cA ad : Nat → Nat) (t : Nat) (hI : rI ad) (F : Nat → va_E) (hW : WT cA ad F) (p1 : Int32) (hat : p1.toInt = -1 ∨ fN (F 58) 14 < fN (F 58) 1) : MI l D cA ad t yX8_readsClause wsX8_readsClause { frames := 3, cells := 0, slots := 0, locals := 71 } [.ref (ad 58), .int p1] F (fun r F' => WT cA ad F' ∧ rFr [58, 61] F F' ∧ ((le32 1 r ∧ fN (F' 58) 1 = fN (F 58) 1 ∧ (r ≠ 0 → fN (F 58) 14 < fN (F' 58) 14)) ∧ m_X8_readsClause (AB ad F) p1 = (r, AB ad F'))) := by
  refine en_I rfl (by decide +kernel) (Nat.le_of_ble_eq_true rfl) ?_
  intro p e s m args below meth c ls0 Q S hK hZ hP hS hl0 hret
  have hl0 : lv_has ls0 3 [(0, .ref (ad 58)), (1, .int p1)] := hl0
  have hFr : rFr [58, 61] F F := rFr.rf
  have hiX8 : ∀ w ∈ u_ws RX8 TX8 23, w ∈ wsX8_readsClause := in_wsX8_readsClause_2
  obtain ⟨M, hM⟩ : ∃ M, M = m_X8_readsClause (AB ad F) p1 := ⟨_, rfl⟩
  obtain ⟨ty1, kn1, no1, en1, at1, sa1, sd1, wr1, pl1, va1, hF1, hb1_1, hb1_2, hb1_3, hb1_4, hb1_5, hb1_6⟩ := wt_m hW
  have hA2 := fN_of (k := 14) (a := at1) hF1 rfl (Nat.lt_of_le_of_lt hb1_5 (by decide))
  have hL2 := fN_of (k := 1) (a := ty1) hF1 rfl (Nat.lt_of_le_of_lt hb1_1 (by decide))
  refine lv_aload_n S.1 S.2.1 dX8_readsClause_0 rfl (lv_at hl0 0 rfl) ?_
  refine r_get S hK hP 58 (by decide) hF1 (C := RX8) (T := TX8) (N := 23) hiX8 rfl 3 (by decide) (am_at in_wsX8_readsClause_0 0 rfl) (v := .ref (ad 61)) rfl dX8_readsClause_1 ?_
  refine lv_iconst (v := (nI 0)) S.1 S.2.1 dX8_readsClause_4 (by decide +kernel) ?_
  obtain ⟨g3, hF3, hg3⟩ := wt_I hW (show (61, 52) ∈ rLI by decide)
  refine r_iald S hK hP 61 (by decide) hF3 (vp_in_nI (show 0 < 52 by omega) (by omega)) dX8_readsClause_5 ?_
  refine lv_topi (fun v5 e5 => ?_)
  obtain ⟨b6, hb6, he6⟩ := (pr_T (by decide) (hg3 0 (by decide))).1 rfl
  obtain rfl : v5 = nI b6 := e5.trans he6
  have m7 : ((AB ad F) 61 (rl (nI 0))) = (nI b6) := (ab_cg rfl rfl).trans ((AB_g hF3).trans e5.symm)
  refine lv_if_ne (tgt := 13) S.1 S.2.1 dX8_readsClause_6 (by decide) (fun c8 => ?_) (fun c8 => ?_)
  · skip
    have k9 := ci_ne (nI_toInt (n := b6) (Nat.lt_of_le_of_lt hb6 (by decide))) z_ti c8
    refine lv_iconst (v := (nI 0)) S.1 S.2.1 dX8_readsClause_13 (by decide +kernel) ?_
    refine lv_istore_n (lv' := [(2, .int (nI 0)), (0, .ref (ad 58)), (1, .int p1)]) S.1 S.2.1 dX8_readsClause_14 rfl hl0 (by decide) rfl (fun ls10 hl10 => ?_)
    refine lv_iload_n S.1 S.2.1 dX8_readsClause_15 rfl (lv_at hl10 2 rfl) ?_
    refine lv_bipush (v := (nI 108)) S.1 S.2.1 dX8_readsClause_16 (by decide +kernel) ?_
    refine lv_icmp_eq (tgt := 33) S.1 S.2.1 dX8_readsClause_18 (by decide) (fun c11 => ?_) (fun c11 => ?_)
    · skip
      have k12 := ci_eq rfl (nI_toInt (n := 108) (by decide)) c11
      refine lv_iload_n S.1 S.2.1 dX8_readsClause_33 rfl (lv_at hl10 0 rfl) ?_
      refine lv_iload_n S.1 S.2.1 dX8_readsClause_34 rfl (lv_at hl10 2 rfl) ?_
      refine lv_bipush (v := (nI 108)) S.1 S.2.1 dX8_readsClause_35 (by decide +kernel) ?_
      refine lv_icmp_ne (tgt := 44) S.1 S.2.1 dX8_readsClause_37 (by decide) (fun c13 => absurd c11 c13) (fun c13 => ?_)
      have k14 := ci_eq rfl (nI_toInt (n := 108) (by decide)) c13
      refine lv_iconst (v := (nI 1)) S.1 S.2.1 dX8_readsClause_40 (by decide +kernel) ?_
      refine lv_goto (tgt := 45) S.1 S.2.1 dX8_readsClause_41 (by decide) ?_
      refine lv_icmp_eq (tgt := 62) S.1 S.2.1 dX8_readsClause_45 (by decide) (fun c15 => absurd c15 (by decide +kernel)) (fun c15 => ?_)
      have k16 := ci_ne (nI_toInt (n := 0) (by decide)) (nI_toInt (n := 1) (by decide)) c15
      refine lv_iload_n S.1 S.2.1 dX8_readsClause_48 rfl (lv_at hl10 0 rfl) ?_
      refine lv_if_eq (tgt := 62) S.1 S.2.1 dX8_readsClause_49 (by decide) (fun c17 => ?_) (fun c17 => absurd (by decide +kernel) c17)
      have k18 := ci_eq (nI_toInt (n := 0) (by decide)) z_ti c17
      refine lv_iload_n S.1 S.2.1 dX8_readsClause_62 rfl (lv_at hl10 0 rfl) ?_
      refine lv_if_ne (tgt := 72) S.1 S.2.1 dX8_readsClause_63 (by decide) (fun c19 => absurd (by decide +kernel) c19) (fun c19 => ?_)
      have k20 := ci_eq (nI_toInt (n := 0) (by decide)) z_ti c19
      refine lv_iload_n S.1 S.2.1 dX8_readsClause_66 rfl (lv_at hl10 2 rfl) ?_
      refine lv_bipush (v := (nI 108)) S.1 S.2.1 dX8_readsClause_67 (by decide +kernel) ?_
      refine lv_icmp_eq (tgt := 106) S.1 S.2.1 dX8_readsClause_69 (by decide) (fun c21 => ?_) (fun c21 => absurd c13 c21)
      have k22 := ci_eq rfl (nI_toInt (n := 108) (by decide)) c21
      refine lv_aload_n S.1 S.2.1 dX8_readsClause_106 rfl (lv_at hl10 1 rfl) ?_
      refine lv_iconst (v := (nI 3)) S.1 S.2.1 dX8_readsClause_107 (by decide +kernel) ?_
      refine lv_aload_n S.1 S.2.1 dX8_readsClause_108 rfl (lv_at hl10 1 rfl) ?_
      refine r_get S hK hP 58 (by decide) hF1 (C := RX8) (T := TX8) (N := 23) hiX8 rfl 14 (by decide) (am_at in_wsX8_readsClause_0 1 rfl) (v := .int (nI at1)) rfl dX8_readsClause_109 ?_
      have m23 : ((AB ad F) 58 14) = (nI at1) := AB_f hF1 rfl
      have hA24 := fN_of (k := 14) (a := at1) hF1 rfl (Nat.lt_of_le_of_lt hb1_5 (by decide))
      have hL24 := fN_of (k := 1) (a := ty1) hF1 rfl (Nat.lt_of_le_of_lt hb1_1 (by decide))
      refine r_cVi (As := [.int (nI 3), .int (nI at1)]) (rest := []) S hK hZ hP hS hl10.1 58 (by decide) hF1 (C := RX8) rfl (c_X8_isWrong l D cA ad t hI F hW (nI 3) (at1) (by omega)) (cwV 2 S.2.2.2.2 gX8_readsClause_X8_isWrong rfl rfl rfl (by decide +kernel) ⟨Nat.le_of_ble_eq_true rfl, Nat.le_of_ble_eq_true rfl⟩) rfl rfl (Nat.le_of_ble_eq_true rfl) ⟨Nat.zero_le _, Nat.zero_le _⟩ dX8_readsClause_112 (fun r25 F25 H25 locs25 hr25 hP25 hS25 => ?_)
      obtain ⟨hW25, hFc25, hr25⟩ := hr25
      obtain ⟨hr25, hm25⟩ := hr25
      have hFr25 := hFr.tr hFc25 (by simp <;> first | omega | (simp only [isC, isJ] at *; omega))
      obtain ⟨rfl, hz26⟩ := hr25
      obtain ⟨ty27, kn27, no27, en27, at27, sa27, sd27, wr27, pl27, va27, hF27, hb27_1, hb27_2, hb27_3, hb27_4, hb27_5, hb27_6⟩ := wt_m hW25
      have hA28 := fN_of (k := 14) (a := at27) hF27 rfl (Nat.lt_of_le_of_lt hb27_5 (by decide))
      have hL28 := fN_of (k := 1) (a := ty27) hF27 rfl (Nat.lt_of_le_of_lt hb27_1 (by decide))
      have mc29 : (m_X8_isWrong (AB ad F) (nI 3) ((AB ad F) 58 14)) = ((nI 0), AB ad F25) := (congr (congr (Eq.refl (m_X8_isWrong (AB ad F))) (Eq.refl ((nI 3) : Int32))) m23).trans hm25
      have hE31 : M = m_X8_readsClause_30 (AB ad F25) p1 := hM.trans ((show m_X8_readsClause (AB ad F) p1 = m_X8_readsClause_30 ((m_X8_isWrong (AB ad F) (nI 3) ((AB ad F) 58 14))).2 p1 from by unfold m_X8_readsClause; rw [if_neg (neq_cg m7 rfl c8), if_pos (eq_cg rfl rfl c11)]).trans (congr (congrArg (m_X8_readsClause_30) (congrArg Prod.snd mc29)) (Eq.refl (p1 : Int32))))
      have hA32 := fN_of (k := 14) (a := at27) hF27 rfl (Nat.lt_of_le_of_lt hb27_5 (by decide))
      have hL32 := fN_of (k := 1) (a := ty27) hF27 rfl (Nat.lt_of_le_of_lt hb27_1 (by decide))
      have hE33 : M = ((nI 0), AB ad F25) := hE31.trans ((show m_X8_readsClause_30 (AB ad F25) p1 = ((nI 0), (AB ad F25)) from rfl).trans (congrArg (fun q => (q, AB ad F25)) rfl))
      exact hret 115 _ _ _ _ _ dX8_readsClause_115 rfl hP25 hS25 ⟨hW25, hFr25, ⟨⟨⟨0, by omega, rfl⟩, by omega, fun h => absurd rfl h⟩, hM.symm.trans hE33⟩⟩
    have k34 := ci_ne rfl (nI_toInt (n := 108) (by decide)) c11
    refine lv_iload_n S.1 S.2.1 dX8_readsClause_21 rfl (lv_at hl10 2 rfl) ?_
    refine lv_bipush (v := (nI 116)) S.1 S.2.1 dX8_readsClause_22 (by decide +kernel) ?_
    refine lv_icmp_eq (tgt := 33) S.1 S.2.1 dX8_readsClause_24 (by decide) (fun c35 => ?_) (fun c35 => ?_)
    · skip
      have k36 := ci_eq rfl (nI_toInt (n := 116) (by decide)) c35
      refine lv_iload_n S.1 S.2.1 dX8_readsClause_33 rfl (lv_at hl10 0 rfl) ?_
      refine lv_iload_n S.1 S.2.1 dX8_readsClause_34 rfl (lv_at hl10 2 rfl) ?_
      refine lv_bipush (v := (nI 108)) S.1 S.2.1 dX8_readsClause_35 (by decide +kernel) ?_
      refine lv_icmp_ne (tgt := 44) S.1 S.2.1 dX8_readsClause_37 (by decide) (fun c37 => ?_) (fun c37 => absurd c37 c11)
      have k38 := ci_ne rfl (nI_toInt (n := 108) (by decide)) c37
      refine lv_iconst (v := (nI 0)) S.1 S.2.1 dX8_readsClause_44 (by decide +kernel) ?_
      refine lv_icmp_eq (tgt := 62) S.1 S.2.1 dX8_readsClause_45 (by decide) (fun c39 => ?_) (fun c39 => absurd (by decide +kernel) c39)
      have k40 := ci_eq (nI_toInt (n := 0) (by decide)) (nI_toInt (n := 0) (by decide)) c39
      refine lv_iload_n S.1 S.2.1 dX8_readsClause_62 rfl (lv_at hl10 0 rfl) ?_
      refine lv_if_ne (tgt := 72) S.1 S.2.1 dX8_readsClause_63 (by decide) (fun c41 => absurd (by decide +kernel) c41) (fun c41 => ?_)
      have k42 := ci_eq (nI_toInt (n := 0) (by decide)) z_ti c41
      refine lv_iload_n S.1 S.2.1 dX8_readsClause_66 rfl (lv_at hl10 2 rfl) ?_
      refine lv_bipush (v := (nI 108)) S.1 S.2.1 dX8_readsClause_67 (by decide +kernel) ?_
      refine lv_icmp_eq (tgt := 106) S.1 S.2.1 dX8_readsClause_69 (by decide) (fun c43 => absurd c43 c37) (fun c43 => ?_)
      have k44 := ci_ne rfl (nI_toInt (n := 108) (by decide)) c43
      refine lv_iload_n S.1 S.2.1 dX8_readsClause_72 rfl (lv_at hl10 2 rfl) ?_
      refine lv_bipush (v := (nI 116)) S.1 S.2.1 dX8_readsClause_73 (by decide +kernel) ?_
      refine lv_icmp_ne (tgt := 89) S.1 S.2.1 dX8_readsClause_75 (by decide) (fun c45 => absurd c35 c45) (fun c45 => ?_)
      have k46 := ci_eq rfl (nI_toInt (n := 116) (by decide)) c45
      refine lv_aload_n S.1 S.2.1 dX8_readsClause_78 rfl (lv_at hl10 1 rfl) ?_
      refine r_get S hK hP 58 (by decide) hF1 (C := RX8) (T := TX8) (N := 23) hiX8 rfl 3 (by decide) (am_at in_wsX8_readsClause_0 0 rfl) (v := .ref (ad 61)) rfl dX8_readsClause_79 ?_
      refine lv_iconst (v := (nI 2)) S.1 S.2.1 dX8_readsClause_82 (by decide +kernel) ?_
      refine r_iald S hK hP 61 (by decide) hF3 (vp_in_nI (show 2 < 52 by omega) (by omega)) dX8_readsClause_83 ?_
      refine lv_topi (fun v48 e48 => ?_)
      obtain ⟨b49, hb49, he49⟩ := (pr_T (by decide) (hg3 2 (by decide))).2.1 rfl
      obtain rfl : v48 = nI b49 := e48.trans he49
      have m50 : ((AB ad F) 61 (rl (nI 2))) = (nI b49) := (ab_cg rfl rfl).trans ((AB_g hF3).trans e48.symm)
      refine lv_bipush (v := (nI 8)) S.1 S.2.1 dX8_readsClause_84 (by decide +kernel) ?_
      refine lv_icmp_eq (tgt := 106) S.1 S.2.1 dX8_readsClause_86 (by decide) (fun c51 => ?_) (fun c51 => ?_)
      · skip
        have k52 := ci_eq (nI_toInt (n := b49) (Nat.lt_of_le_of_lt hb49 (by decide))) (nI_toInt (n := 8) (by decide)) c51
        refine lv_aload_n S.1 S.2.1 dX8_readsClause_106 rfl (lv_at hl10 1 rfl) ?_
        refine lv_iconst (v := (nI 3)) S.1 S.2.1 dX8_readsClause_107 (by decide +kernel) ?_
        refine lv_aload_n S.1 S.2.1 dX8_readsClause_108 rfl (lv_at hl10 1 rfl) ?_
        refine r_get S hK hP 58 (by decide) hF1 (C := RX8) (T := TX8) (N := 23) hiX8 rfl 14 (by decide) (am_at in_wsX8_readsClause_0 1 rfl) (v := .int (nI at1)) rfl dX8_readsClause_109 ?_
        have m53 : ((AB ad F) 58 14) = (nI at1) := AB_f hF1 rfl
        have hA54 := fN_of (k := 14) (a := at1) hF1 rfl (Nat.lt_of_le_of_lt hb1_5 (by decide))
        have hL54 := fN_of (k := 1) (a := ty1) hF1 rfl (Nat.lt_of_le_of_lt hb1_1 (by decide))
        refine r_cVi (As := [.int (nI 3), .int (nI at1)]) (rest := []) S hK hZ hP hS hl10.1 58 (by decide) hF1 (C := RX8) rfl (c_X8_isWrong l D cA ad t hI F hW (nI 3) (at1) (by omega)) (cwV 2 S.2.2.2.2 gX8_readsClause_X8_isWrong rfl rfl rfl (by decide +kernel) ⟨Nat.le_of_ble_eq_true rfl, Nat.le_of_ble_eq_true rfl⟩) rfl rfl (Nat.le_of_ble_eq_true rfl) ⟨Nat.zero_le _, Nat.zero_le _⟩ dX8_readsClause_112 (fun r55 F55 H55 locs55 hr55 hP55 hS55 => ?_)
        obtain ⟨hW55, hFc55, hr55⟩ := hr55
        obtain ⟨hr55, hm55⟩ := hr55
        have hFr55 := hFr.tr hFc55 (by simp <;> first | omega | (simp only [isC, isJ] at *; omega))
        obtain ⟨rfl, hz56⟩ := hr55
        obtain ⟨ty57, kn57, no57, en57, at57, sa57, sd57, wr57, pl57, va57, hF57, hb57_1, hb57_2, hb57_3, hb57_4, hb57_5, hb57_6⟩ := wt_m hW55
        have hA58 := fN_of (k := 14) (a := at57) hF57 rfl (Nat.lt_of_le_of_lt hb57_5 (by decide))
        have hL58 := fN_of (k := 1) (a := ty57) hF57 rfl (Nat.lt_of_le_of_lt hb57_1 (by decide))
        have mc59 : (m_X8_isWrong (AB ad F) (nI 3) ((AB ad F) 58 14)) = ((nI 0), AB ad F55) := (congr (congr (Eq.refl (m_X8_isWrong (AB ad F))) (Eq.refl ((nI 3) : Int32))) m53).trans hm55
        have hE61 : M = m_X8_readsClause_60 (AB ad F55) p1 := hM.trans ((show m_X8_readsClause (AB ad F) p1 = m_X8_readsClause_60 ((m_X8_isWrong (AB ad F) (nI 3) ((AB ad F) 58 14))).2 p1 from by unfold m_X8_readsClause; rw [if_neg (neq_cg m7 rfl c8), if_neg (neq_cg rfl rfl c11), if_pos (eq_cg rfl rfl c35), if_pos (eq_cg m50 rfl c51)]).trans (congr (congrArg (m_X8_readsClause_60) (congrArg Prod.snd mc59)) (Eq.refl (p1 : Int32))))
        have hA62 := fN_of (k := 14) (a := at57) hF57 rfl (Nat.lt_of_le_of_lt hb57_5 (by decide))
        have hL62 := fN_of (k := 1) (a := ty57) hF57 rfl (Nat.lt_of_le_of_lt hb57_1 (by decide))
        have hE63 : M = ((nI 0), AB ad F55) := hE61.trans ((show m_X8_readsClause_60 (AB ad F55) p1 = ((nI 0), (AB ad F55)) from rfl).trans (congrArg (fun q => (q, AB ad F55)) rfl))
        exact hret 115 _ _ _ _ _ dX8_readsClause_115 rfl hP55 hS55 ⟨hW55, hFr55, ⟨⟨⟨0, by omega, rfl⟩, by omega, fun h => absurd rfl h⟩, hM.symm.trans hE63⟩⟩
      have k64 := ci_ne (nI_toInt (n := b49) (Nat.lt_of_le_of_lt hb49 (by decide))) (nI_toInt (n := 8) (by decide)) c51
      refine lv_iload_n S.1 S.2.1 dX8_readsClause_89 rfl (lv_at hl10 2 rfl) ?_
      refine lv_bipush (v := (nI 114)) S.1 S.2.1 dX8_readsClause_90 (by decide +kernel) ?_
      refine lv_icmp_ne (tgt := 116) S.1 S.2.1 dX8_readsClause_92 (by decide) (fun c65 => ?_) (fun c65 => ?_)
      · skip
        have k66 := ci_ne rfl (nI_toInt (n := 114) (by decide)) c65
        refine lv_aload_n S.1 S.2.1 dX8_readsClause_116 rfl (lv_at hl10 1 rfl) ?_
        refine lv_dup S.1 S.2.1 dX8_readsClause_117 rfl ?_
        refine r_get S hK hP 58 (by decide) hF1 (C := RX8) (T := TX8) (N := 23) hiX8 rfl 14 (by decide) (am_at in_wsX8_readsClause_0 1 rfl) (v := .int (nI at1)) rfl dX8_readsClause_118 ?_
        have m67 : ((AB ad F) 58 14) = (nI at1) := AB_f hF1 rfl
        refine lv_iconst (v := (nI 1)) S.1 S.2.1 dX8_readsClause_121 (by decide +kernel) ?_
        refine lv_iadd S.1 S.2.1 dX8_readsClause_122 ?_
        refine lv_topi (fun v68 e68 => ?_)
        obtain rfl : v68 = nI (at1 + 1) := e68.trans (nI_add _ _)
        have m69 : (((AB ad F) 58 14) + (nI 1)) = (nI (at1 + 1)) := cg2 (fun (x : Int32) (y : Int32) => x + y) m67 (Eq.refl ((nI 1) : Int32)) e68
        refine r_put S hI hK hP hS 58 (by decide) hF1 (C := RX8) (T := TX8) (N := 23) hiX8 tyX8_ok nmX8 rfl 14 (by decide) (am_at in_wsX8_readsClause_0 1 rfl) rfl rfl rfl (Nat.le_of_ble_eq_true rfl) dX8_readsClause_123 (fun F70 H70 locs70 eF70 hP70 hS70 => ?_)
        have hF70 : F70 58 = .inr (8, [.ref (ad 59), .int (nI ty1), .ref (ad 60), .ref (ad 61), .ref (ad 62), .ref (ad 63), .int (nI kn1), .ref (ad 64), .ref (ad 65), .int sd1, .ref (ad 66), .int (nI no1), .ref (ad 67), .int (nI en1), .int (nI (at1 + 1)), .int wr1, .int pl1, .int va1, .int (nI sa1), .ref (ad 68), .ref (ad 69), .ref (ad 70), .ref (ad 71)]) := by rw [eF70]; exact va_up_self _ _ _
        have hW70 := hW.up eF70 (ok_m ⟨ty1, kn1, no1, en1, at1 + 1, sa1, sd1, wr1, pl1, va1, rfl, by omega, by omega, by omega, by omega, by omega, by omega⟩)
        have hFr70 := hFr.up eF70 (by simp <;> first | omega | (simp only [isC, isJ] at *; omega))
        have hE72 : M = m_X8_readsClause_71 (AB ad F70) p1 := hM.trans ((show m_X8_readsClause (AB ad F) p1 = m_X8_readsClause_71 (st (AB ad F) 58 14 (((AB ad F) 58 14) + (nI 1))) p1 from by unfold m_X8_readsClause; rw [if_neg (neq_cg m7 rfl c8), if_neg (neq_cg rfl rfl c11), if_pos (eq_cg rfl rfl c35), if_neg (neq_cg m50 rfl c51), if_neg (neq_cg rfl rfl c65)]).trans (congr (congrArg (m_X8_readsClause_71) ((st_cg rfl rfl m69).trans (AB_put hF1 (Nat.le_of_ble_eq_true rfl) eF70).symm)) (Eq.refl (p1 : Int32))))
        refine lv_iload_n S.1 S.2.1 dX8_readsClause_126 rfl (lv_at hl10 2 rfl) ?_
        refine lv_bipush (v := (nI 108)) S.1 S.2.1 dX8_readsClause_127 (by decide +kernel) ?_
        refine lv_icmp_ne (tgt := 139) S.1 S.2.1 dX8_readsClause_129 (by decide) (fun c73 => ?_) (fun c73 => absurd c73 c43)
        have k74 := ci_ne rfl (nI_toInt (n := 108) (by decide)) c73
        refine lv_iload_n S.1 S.2.1 dX8_readsClause_139 rfl (lv_at hl10 2 rfl) ?_
        refine lv_bipush (v := (nI 116)) S.1 S.2.1 dX8_readsClause_140 (by decide +kernel) ?_
        refine lv_icmp_ne (tgt := 152) S.1 S.2.1 dX8_readsClause_142 (by decide) (fun c75 => absurd c45 c75) (fun c75 => ?_)
        have k76 := ci_eq rfl (nI_toInt (n := 116) (by decide)) c75
        refine lv_aload_n S.1 S.2.1 dX8_readsClause_145 rfl (lv_at hl10 1 rfl) ?_
        have hA77 := fN_of (k := 14) (a := at1 + 1) hF70 rfl (by omega)
        have hL77 := fN_of (k := 1) (a := ty1) hF70 rfl (Nat.lt_of_le_of_lt hb1_1 (by decide))
        have hF79 := (show F70 61 = F 61 by rw [eF70]; exact va_up_ne _ _ (by decide)).trans hF3
        have hN80 := aN_of (j := 2) hF79 he49 (by omega)
        refine r_cVi (As := []) (rest := []) S hK hZ hP70 hS70 hl10.1 58 (by decide) hF70 (C := RX8) rfl (c_X8_readsTown l D cA ad t hI F70 hW70 (by omega)) (cwV 0 S.2.2.2.2 gX8_readsClause_X8_readsTown rfl rfl rfl (by decide +kernel) ⟨Nat.le_of_ble_eq_true rfl, Nat.le_of_ble_eq_true rfl⟩) rfl rfl (Nat.le_of_ble_eq_true rfl) ⟨Nat.zero_le _, Nat.zero_le _⟩ dX8_readsClause_146 (fun r78 F78 H78 locs78 hr78 hP78 hS78 => ?_)
        obtain ⟨hW78, hFc78, hr78⟩ := hr78
        obtain ⟨hr78, hm78⟩ := hr78
        have hFr78 := hFr70.tr hFc78 (by simp <;> first | omega | (simp only [isC, isJ] at *; omega))
        obtain ⟨⟨b81, hb81, rfl⟩, hz81, hx81⟩ := hr78
        obtain ⟨ty82, kn82, no82, en82, at82, sa82, sd82, wr82, pl82, va82, hF82, hb82_1, hb82_2, hb82_3, hb82_4, hb82_5, hb82_6⟩ := wt_m hW78
        have hA83 := fN_of (k := 14) (a := at82) hF82 rfl (Nat.lt_of_le_of_lt hb82_5 (by decide))
        have hL83 := fN_of (k := 1) (a := ty82) hF82 rfl (Nat.lt_of_le_of_lt hb82_1 (by decide))
        have hy81 : b81 ≠ 0 → _ := fun q => hx81 (nI_ne0 (by omega) (by omega))
        have mc84 : (m_X8_readsTown (AB ad F70)) = ((nI b81), AB ad F78) := (Eq.refl (m_X8_readsTown (AB ad F70))).trans hm78
        have hE86 : M = m_X8_readsClause_85 (AB ad F78) p1 (nI b81) := hE72.trans ((show m_X8_readsClause_71 (AB ad F70) p1 = m_X8_readsClause_85 ((m_X8_readsTown (AB ad F70))).2 p1 ((m_X8_readsTown (AB ad F70))).1 from rfl).trans (congr (congr (congrArg (m_X8_readsClause_85) (congrArg Prod.snd mc84)) (Eq.refl (p1 : Int32))) (congrArg Prod.fst mc84)))
        refine lv_goto (tgt := 156) S.1 S.2.1 dX8_readsClause_149 (by decide) ?_
        have hA87 := fN_of (k := 14) (a := at82) hF82 rfl (Nat.lt_of_le_of_lt hb82_5 (by decide))
        have hL87 := fN_of (k := 1) (a := ty82) hF82 rfl (Nat.lt_of_le_of_lt hb82_1 (by decide))
        have hE88 : M = ((nI b81), AB ad F78) := hE86.trans ((show m_X8_readsClause_85 (AB ad F78) p1 (nI b81) = ((nI b81), (AB ad F78)) from rfl).trans (congrArg (fun q => (q, AB ad F78)) rfl))
        exact hret 156 _ _ _ _ _ dX8_readsClause_156 (nar_bool (by omega)) hP78 hS78 ⟨hW78, hFr78, ⟨⟨⟨b81, by omega, rfl⟩, by omega, fun h => by have hb9 : b81 ≠ 0 := fun q => h (by rw [q]; rfl); omega⟩, hM.symm.trans hE88⟩⟩
      have k89 := ci_eq rfl (nI_toInt (n := 114) (by decide)) c65
      refine lv_aload_n S.1 S.2.1 dX8_readsClause_95 rfl (lv_at hl10 1 rfl) ?_
      refine r_get S hK hP 58 (by decide) hF1 (C := RX8) (T := TX8) (N := 23) hiX8 rfl 3 (by decide) (am_at in_wsX8_readsClause_0 0 rfl) (v := .ref (ad 61)) rfl dX8_readsClause_96 ?_
      refine lv_iconst (v := (nI 3)) S.1 S.2.1 dX8_readsClause_99 (by decide +kernel) ?_
      refine r_iald S hK hP 61 (by decide) hF3 (vp_in_nI (show 3 < 52 by omega) (by omega)) dX8_readsClause_100 ?_
      refine lv_topi (fun v91 e91 => ?_)
      obtain ⟨b92, hb92, he92⟩ := (pr_T (by decide) (hg3 3 (by decide))).2.2 rfl
      obtain rfl : v91 = nI b92 := e91.trans he92
      have m93 : ((AB ad F) 61 (rl (nI 3))) = (nI b92) := (ab_cg rfl rfl).trans ((AB_g hF3).trans e91.symm)
      refine lv_bipush (v := (nI 12)) S.1 S.2.1 dX8_readsClause_101 (by decide +kernel) ?_
      refine lv_icmp_ne (tgt := 116) S.1 S.2.1 dX8_readsClause_103 (by decide) (fun c94 => ?_) (fun c94 => ?_)
      · skip
        have k95 := ci_ne (nI_toInt (n := b92) (Nat.lt_of_le_of_lt hb92 (by decide))) (nI_toInt (n := 12) (by decide)) c94
        refine lv_aload_n S.1 S.2.1 dX8_readsClause_116 rfl (lv_at hl10 1 rfl) ?_
        refine lv_dup S.1 S.2.1 dX8_readsClause_117 rfl ?_
        refine r_get S hK hP 58 (by decide) hF1 (C := RX8) (T := TX8) (N := 23) hiX8 rfl 14 (by decide) (am_at in_wsX8_readsClause_0 1 rfl) (v := .int (nI at1)) rfl dX8_readsClause_118 ?_
        have m96 : ((AB ad F) 58 14) = (nI at1) := AB_f hF1 rfl
        refine lv_iconst (v := (nI 1)) S.1 S.2.1 dX8_readsClause_121 (by decide +kernel) ?_
        refine lv_iadd S.1 S.2.1 dX8_readsClause_122 ?_
        refine lv_topi (fun v97 e97 => ?_)
        obtain rfl : v97 = nI (at1 + 1) := e97.trans (nI_add _ _)
        have m98 : (((AB ad F) 58 14) + (nI 1)) = (nI (at1 + 1)) := cg2 (fun (x : Int32) (y : Int32) => x + y) m96 (Eq.refl ((nI 1) : Int32)) e97
        refine r_put S hI hK hP hS 58 (by decide) hF1 (C := RX8) (T := TX8) (N := 23) hiX8 tyX8_ok nmX8 rfl 14 (by decide) (am_at in_wsX8_readsClause_0 1 rfl) rfl rfl rfl (Nat.le_of_ble_eq_true rfl) dX8_readsClause_123 (fun F99 H99 locs99 eF99 hP99 hS99 => ?_)
        have hF99 : F99 58 = .inr (8, [.ref (ad 59), .int (nI ty1), .ref (ad 60), .ref (ad 61), .ref (ad 62), .ref (ad 63), .int (nI kn1), .ref (ad 64), .ref (ad 65), .int sd1, .ref (ad 66), .int (nI no1), .ref (ad 67), .int (nI en1), .int (nI (at1 + 1)), .int wr1, .int pl1, .int va1, .int (nI sa1), .ref (ad 68), .ref (ad 69), .ref (ad 70), .ref (ad 71)]) := by rw [eF99]; exact va_up_self _ _ _
        have hW99 := hW.up eF99 (ok_m ⟨ty1, kn1, no1, en1, at1 + 1, sa1, sd1, wr1, pl1, va1, rfl, by omega, by omega, by omega, by omega, by omega, by omega⟩)
        have hFr99 := hFr.up eF99 (by simp <;> first | omega | (simp only [isC, isJ] at *; omega))
        have hE101 : M = m_X8_readsClause_100 (AB ad F99) p1 := hM.trans ((show m_X8_readsClause (AB ad F) p1 = m_X8_readsClause_100 (st (AB ad F) 58 14 (((AB ad F) 58 14) + (nI 1))) p1 from by unfold m_X8_readsClause; rw [if_neg (neq_cg m7 rfl c8), if_neg (neq_cg rfl rfl c11), if_pos (eq_cg rfl rfl c35), if_neg (neq_cg m50 rfl c51), if_pos (eq_cg rfl rfl c65), if_neg (neq_cg m93 rfl c94)]).trans (congr (congrArg (m_X8_readsClause_100) ((st_cg rfl rfl m98).trans (AB_put hF1 (Nat.le_of_ble_eq_true rfl) eF99).symm)) (Eq.refl (p1 : Int32))))
        refine lv_iload_n S.1 S.2.1 dX8_readsClause_126 rfl (lv_at hl10 2 rfl) ?_
        refine lv_bipush (v := (nI 108)) S.1 S.2.1 dX8_readsClause_127 (by decide +kernel) ?_
        refine lv_icmp_ne (tgt := 139) S.1 S.2.1 dX8_readsClause_129 (by decide) (fun c102 => ?_) (fun c102 => absurd c102 c43)
        have k103 := ci_ne rfl (nI_toInt (n := 108) (by decide)) c102
        refine lv_iload_n S.1 S.2.1 dX8_readsClause_139 rfl (lv_at hl10 2 rfl) ?_
        refine lv_bipush (v := (nI 116)) S.1 S.2.1 dX8_readsClause_140 (by decide +kernel) ?_
        refine lv_icmp_ne (tgt := 152) S.1 S.2.1 dX8_readsClause_142 (by decide) (fun c104 => absurd c45 c104) (fun c104 => ?_)
        have k105 := ci_eq rfl (nI_toInt (n := 116) (by decide)) c104
        refine lv_aload_n S.1 S.2.1 dX8_readsClause_145 rfl (lv_at hl10 1 rfl) ?_
        have hA106 := fN_of (k := 14) (a := at1 + 1) hF99 rfl (by omega)
        have hL106 := fN_of (k := 1) (a := ty1) hF99 rfl (Nat.lt_of_le_of_lt hb1_1 (by decide))
        have hF108 := (show F99 61 = F 61 by rw [eF99]; exact va_up_ne _ _ (by decide)).trans hF3
        have hN109 := aN_of (j := 2) hF108 he49 (by omega)
        refine r_cVi (As := []) (rest := []) S hK hZ hP99 hS99 hl10.1 58 (by decide) hF99 (C := RX8) rfl (c_X8_readsTown l D cA ad t hI F99 hW99 (by omega)) (cwV 0 S.2.2.2.2 gX8_readsClause_X8_readsTown rfl rfl rfl (by decide +kernel) ⟨Nat.le_of_ble_eq_true rfl, Nat.le_of_ble_eq_true rfl⟩) rfl rfl (Nat.le_of_ble_eq_true rfl) ⟨Nat.zero_le _, Nat.zero_le _⟩ dX8_readsClause_146 (fun r107 F107 H107 locs107 hr107 hP107 hS107 => ?_)
        obtain ⟨hW107, hFc107, hr107⟩ := hr107
        obtain ⟨hr107, hm107⟩ := hr107
        have hFr107 := hFr99.tr hFc107 (by simp <;> first | omega | (simp only [isC, isJ] at *; omega))
        obtain ⟨⟨b110, hb110, rfl⟩, hz110, hx110⟩ := hr107
        obtain ⟨ty111, kn111, no111, en111, at111, sa111, sd111, wr111, pl111, va111, hF111, hb111_1, hb111_2, hb111_3, hb111_4, hb111_5, hb111_6⟩ := wt_m hW107
        have hA112 := fN_of (k := 14) (a := at111) hF111 rfl (Nat.lt_of_le_of_lt hb111_5 (by decide))
        have hL112 := fN_of (k := 1) (a := ty111) hF111 rfl (Nat.lt_of_le_of_lt hb111_1 (by decide))
        have hy110 : b110 ≠ 0 → _ := fun q => hx110 (nI_ne0 (by omega) (by omega))
        have mc113 : (m_X8_readsTown (AB ad F99)) = ((nI b110), AB ad F107) := (Eq.refl (m_X8_readsTown (AB ad F99))).trans hm107
        have hE115 : M = m_X8_readsClause_114 (AB ad F107) p1 (nI b110) := hE101.trans ((show m_X8_readsClause_100 (AB ad F99) p1 = m_X8_readsClause_114 ((m_X8_readsTown (AB ad F99))).2 p1 ((m_X8_readsTown (AB ad F99))).1 from rfl).trans (congr (congr (congrArg (m_X8_readsClause_114) (congrArg Prod.snd mc113)) (Eq.refl (p1 : Int32))) (congrArg Prod.fst mc113)))
        refine lv_goto (tgt := 156) S.1 S.2.1 dX8_readsClause_149 (by decide) ?_
        have hA116 := fN_of (k := 14) (a := at111) hF111 rfl (Nat.lt_of_le_of_lt hb111_5 (by decide))
        have hL116 := fN_of (k := 1) (a := ty111) hF111 rfl (Nat.lt_of_le_of_lt hb111_1 (by decide))
        have hE117 : M = ((nI b110), AB ad F107) := hE115.trans ((show m_X8_readsClause_114 (AB ad F107) p1 (nI b110) = ((nI b110), (AB ad F107)) from rfl).trans (congrArg (fun q => (q, AB ad F107)) rfl))
        exact hret 156 _ _ _ _ _ dX8_readsClause_156 (nar_bool (by omega)) hP107 hS107 ⟨hW107, hFr107, ⟨⟨⟨b110, by omega, rfl⟩, by omega, fun h => by have hb9 : b110 ≠ 0 := fun q => h (by rw [q]; rfl); omega⟩, hM.symm.trans hE117⟩⟩
      have k118 := ci_eq (nI_toInt (n := b92) (Nat.lt_of_le_of_lt hb92 (by decide))) (nI_toInt (n := 12) (by decide)) c94
      refine lv_aload_n S.1 S.2.1 dX8_readsClause_106 rfl (lv_at hl10 1 rfl) ?_
      refine lv_iconst (v := (nI 3)) S.1 S.2.1 dX8_readsClause_107 (by decide +kernel) ?_
      refine lv_aload_n S.1 S.2.1 dX8_readsClause_108 rfl (lv_at hl10 1 rfl) ?_
      refine r_get S hK hP 58 (by decide) hF1 (C := RX8) (T := TX8) (N := 23) hiX8 rfl 14 (by decide) (am_at in_wsX8_readsClause_0 1 rfl) (v := .int (nI at1)) rfl dX8_readsClause_109 ?_
      have m119 : ((AB ad F) 58 14) = (nI at1) := AB_f hF1 rfl
      have hA120 := fN_of (k := 14) (a := at1) hF1 rfl (Nat.lt_of_le_of_lt hb1_5 (by decide))
      have hL120 := fN_of (k := 1) (a := ty1) hF1 rfl (Nat.lt_of_le_of_lt hb1_1 (by decide))
      refine r_cVi (As := [.int (nI 3), .int (nI at1)]) (rest := []) S hK hZ hP hS hl10.1 58 (by decide) hF1 (C := RX8) rfl (c_X8_isWrong l D cA ad t hI F hW (nI 3) (at1) (by omega)) (cwV 2 S.2.2.2.2 gX8_readsClause_X8_isWrong rfl rfl rfl (by decide +kernel) ⟨Nat.le_of_ble_eq_true rfl, Nat.le_of_ble_eq_true rfl⟩) rfl rfl (Nat.le_of_ble_eq_true rfl) ⟨Nat.zero_le _, Nat.zero_le _⟩ dX8_readsClause_112 (fun r121 F121 H121 locs121 hr121 hP121 hS121 => ?_)
      obtain ⟨hW121, hFc121, hr121⟩ := hr121
      obtain ⟨hr121, hm121⟩ := hr121
      have hFr121 := hFr.tr hFc121 (by simp <;> first | omega | (simp only [isC, isJ] at *; omega))
      obtain ⟨rfl, hz122⟩ := hr121
      obtain ⟨ty123, kn123, no123, en123, at123, sa123, sd123, wr123, pl123, va123, hF123, hb123_1, hb123_2, hb123_3, hb123_4, hb123_5, hb123_6⟩ := wt_m hW121
      have hA124 := fN_of (k := 14) (a := at123) hF123 rfl (Nat.lt_of_le_of_lt hb123_5 (by decide))
      have hL124 := fN_of (k := 1) (a := ty123) hF123 rfl (Nat.lt_of_le_of_lt hb123_1 (by decide))
      have mc125 : (m_X8_isWrong (AB ad F) (nI 3) ((AB ad F) 58 14)) = ((nI 0), AB ad F121) := (congr (congr (Eq.refl (m_X8_isWrong (AB ad F))) (Eq.refl ((nI 3) : Int32))) m119).trans hm121
      have hE127 : M = m_X8_readsClause_126 (AB ad F121) p1 := hM.trans ((show m_X8_readsClause (AB ad F) p1 = m_X8_readsClause_126 ((m_X8_isWrong (AB ad F) (nI 3) ((AB ad F) 58 14))).2 p1 from by unfold m_X8_readsClause; rw [if_neg (neq_cg m7 rfl c8), if_neg (neq_cg rfl rfl c11), if_pos (eq_cg rfl rfl c35), if_neg (neq_cg m50 rfl c51), if_pos (eq_cg rfl rfl c65), if_pos (eq_cg m93 rfl c94)]).trans (congr (congrArg (m_X8_readsClause_126) (congrArg Prod.snd mc125)) (Eq.refl (p1 : Int32))))
      have hA128 := fN_of (k := 14) (a := at123) hF123 rfl (Nat.lt_of_le_of_lt hb123_5 (by decide))
      have hL128 := fN_of (k := 1) (a := ty123) hF123 rfl (Nat.lt_of_le_of_lt hb123_1 (by decide))
      have hE129 : M = ((nI 0), AB ad F121) := hE127.trans ((show m_X8_readsClause_126 (AB ad F121) p1 = ((nI 0), (AB ad F121)) from rfl).trans (congrArg (fun q => (q, AB ad F121)) rfl))
      exact hret 115 _ _ _ _ _ dX8_readsClause_115 rfl hP121 hS121 ⟨hW121, hFr121, ⟨⟨⟨0, by omega, rfl⟩, by omega, fun h => absurd rfl h⟩, hM.symm.trans hE129⟩⟩
    have k130 := ci_ne rfl (nI_toInt (n := 116) (by decide)) c35
    refine lv_iload_n S.1 S.2.1 dX8_readsClause_27 rfl (lv_at hl10 2 rfl) ?_
    refine lv_bipush (v := (nI 114)) S.1 S.2.1 dX8_readsClause_28 (by decide +kernel) ?_
    refine lv_icmp_ne (tgt := 52) S.1 S.2.1 dX8_readsClause_30 (by decide) (fun c131 => ?_) (fun c131 => ?_)
    · skip
      have k132 := ci_ne rfl (nI_toInt (n := 114) (by decide)) c131
      refine lv_aload_n S.1 S.2.1 dX8_readsClause_52 rfl (lv_at hl10 1 rfl) ?_
      refine lv_iconst (v := (nI 1)) S.1 S.2.1 dX8_readsClause_53 (by decide +kernel) ?_
      refine lv_aload_n S.1 S.2.1 dX8_readsClause_54 rfl (lv_at hl10 1 rfl) ?_
      refine r_get S hK hP 58 (by decide) hF1 (C := RX8) (T := TX8) (N := 23) hiX8 rfl 14 (by decide) (am_at in_wsX8_readsClause_0 1 rfl) (v := .int (nI at1)) rfl dX8_readsClause_55 ?_
      have m133 : ((AB ad F) 58 14) = (nI at1) := AB_f hF1 rfl
      have hA134 := fN_of (k := 14) (a := at1) hF1 rfl (Nat.lt_of_le_of_lt hb1_5 (by decide))
      have hL134 := fN_of (k := 1) (a := ty1) hF1 rfl (Nat.lt_of_le_of_lt hb1_1 (by decide))
      refine r_cVi (As := [.int (nI 1), .int (nI at1)]) (rest := []) S hK hZ hP hS hl10.1 58 (by decide) hF1 (C := RX8) rfl (c_X8_isWrong l D cA ad t hI F hW (nI 1) (at1) (by omega)) (cwV 2 S.2.2.2.2 gX8_readsClause_X8_isWrong rfl rfl rfl (by decide +kernel) ⟨Nat.le_of_ble_eq_true rfl, Nat.le_of_ble_eq_true rfl⟩) rfl rfl (Nat.le_of_ble_eq_true rfl) ⟨Nat.zero_le _, Nat.zero_le _⟩ dX8_readsClause_58 (fun r135 F135 H135 locs135 hr135 hP135 hS135 => ?_)
      obtain ⟨hW135, hFc135, hr135⟩ := hr135
      obtain ⟨hr135, hm135⟩ := hr135
      have hFr135 := hFr.tr hFc135 (by simp <;> first | omega | (simp only [isC, isJ] at *; omega))
      obtain ⟨rfl, hz136⟩ := hr135
      obtain ⟨ty137, kn137, no137, en137, at137, sa137, sd137, wr137, pl137, va137, hF137, hb137_1, hb137_2, hb137_3, hb137_4, hb137_5, hb137_6⟩ := wt_m hW135
      have hA138 := fN_of (k := 14) (a := at137) hF137 rfl (Nat.lt_of_le_of_lt hb137_5 (by decide))
      have hL138 := fN_of (k := 1) (a := ty137) hF137 rfl (Nat.lt_of_le_of_lt hb137_1 (by decide))
      have mc139 : (m_X8_isWrong (AB ad F) (nI 1) ((AB ad F) 58 14)) = ((nI 0), AB ad F135) := (congr (congr (Eq.refl (m_X8_isWrong (AB ad F))) (Eq.refl ((nI 1) : Int32))) m133).trans hm135
      have hE141 : M = m_X8_readsClause_140 (AB ad F135) p1 := hM.trans ((show m_X8_readsClause (AB ad F) p1 = m_X8_readsClause_140 ((m_X8_isWrong (AB ad F) (nI 1) ((AB ad F) 58 14))).2 p1 from by unfold m_X8_readsClause; rw [if_neg (neq_cg m7 rfl c8), if_neg (neq_cg rfl rfl c11), if_neg (neq_cg rfl rfl c35), if_neg (neq_cg rfl rfl c131)]).trans (congr (congrArg (m_X8_readsClause_140) (congrArg Prod.snd mc139)) (Eq.refl (p1 : Int32))))
      have hA142 := fN_of (k := 14) (a := at137) hF137 rfl (Nat.lt_of_le_of_lt hb137_5 (by decide))
      have hL142 := fN_of (k := 1) (a := ty137) hF137 rfl (Nat.lt_of_le_of_lt hb137_1 (by decide))
      have hE143 : M = ((nI 0), AB ad F135) := hE141.trans ((show m_X8_readsClause_140 (AB ad F135) p1 = ((nI 0), (AB ad F135)) from rfl).trans (congrArg (fun q => (q, AB ad F135)) rfl))
      exact hret 61 _ _ _ _ _ dX8_readsClause_61 rfl hP135 hS135 ⟨hW135, hFr135, ⟨⟨⟨0, by omega, rfl⟩, by omega, fun h => absurd rfl h⟩, hM.symm.trans hE143⟩⟩
    have k144 := ci_eq rfl (nI_toInt (n := 114) (by decide)) c131
    refine lv_iload_n S.1 S.2.1 dX8_readsClause_33 rfl (lv_at hl10 0 rfl) ?_
    refine lv_iload_n S.1 S.2.1 dX8_readsClause_34 rfl (lv_at hl10 2 rfl) ?_
    refine lv_bipush (v := (nI 108)) S.1 S.2.1 dX8_readsClause_35 (by decide +kernel) ?_
    refine lv_icmp_ne (tgt := 44) S.1 S.2.1 dX8_readsClause_37 (by decide) (fun c145 => ?_) (fun c145 => absurd c145 c11)
    have k146 := ci_ne rfl (nI_toInt (n := 108) (by decide)) c145
    refine lv_iconst (v := (nI 0)) S.1 S.2.1 dX8_readsClause_44 (by decide +kernel) ?_
    refine lv_icmp_eq (tgt := 62) S.1 S.2.1 dX8_readsClause_45 (by decide) (fun c147 => ?_) (fun c147 => absurd (by decide +kernel) c147)
    have k148 := ci_eq (nI_toInt (n := 0) (by decide)) (nI_toInt (n := 0) (by decide)) c147
    refine lv_iload_n S.1 S.2.1 dX8_readsClause_62 rfl (lv_at hl10 0 rfl) ?_
    refine lv_if_ne (tgt := 72) S.1 S.2.1 dX8_readsClause_63 (by decide) (fun c149 => absurd (by decide +kernel) c149) (fun c149 => ?_)
    have k150 := ci_eq (nI_toInt (n := 0) (by decide)) z_ti c149
    refine lv_iload_n S.1 S.2.1 dX8_readsClause_66 rfl (lv_at hl10 2 rfl) ?_
    refine lv_bipush (v := (nI 108)) S.1 S.2.1 dX8_readsClause_67 (by decide +kernel) ?_
    refine lv_icmp_eq (tgt := 106) S.1 S.2.1 dX8_readsClause_69 (by decide) (fun c151 => absurd c151 c145) (fun c151 => ?_)
    have k152 := ci_ne rfl (nI_toInt (n := 108) (by decide)) c151
    refine lv_iload_n S.1 S.2.1 dX8_readsClause_72 rfl (lv_at hl10 2 rfl) ?_
    refine lv_bipush (v := (nI 116)) S.1 S.2.1 dX8_readsClause_73 (by decide +kernel) ?_
    refine lv_icmp_ne (tgt := 89) S.1 S.2.1 dX8_readsClause_75 (by decide) (fun c153 => ?_) (fun c153 => absurd c153 c35)
    have k154 := ci_ne rfl (nI_toInt (n := 116) (by decide)) c153
    refine lv_iload_n S.1 S.2.1 dX8_readsClause_89 rfl (lv_at hl10 2 rfl) ?_
    refine lv_bipush (v := (nI 114)) S.1 S.2.1 dX8_readsClause_90 (by decide +kernel) ?_
    refine lv_icmp_ne (tgt := 116) S.1 S.2.1 dX8_readsClause_92 (by decide) (fun c155 => absurd c131 c155) (fun c155 => ?_)
    have k156 := ci_eq rfl (nI_toInt (n := 114) (by decide)) c155
    refine lv_aload_n S.1 S.2.1 dX8_readsClause_95 rfl (lv_at hl10 1 rfl) ?_
    refine r_get S hK hP 58 (by decide) hF1 (C := RX8) (T := TX8) (N := 23) hiX8 rfl 3 (by decide) (am_at in_wsX8_readsClause_0 0 rfl) (v := .ref (ad 61)) rfl dX8_readsClause_96 ?_
    refine lv_iconst (v := (nI 3)) S.1 S.2.1 dX8_readsClause_99 (by decide +kernel) ?_
    refine r_iald S hK hP 61 (by decide) hF3 (vp_in_nI (show 3 < 52 by omega) (by omega)) dX8_readsClause_100 ?_
    refine lv_topi (fun v158 e158 => ?_)
    obtain ⟨b159, hb159, he159⟩ := (pr_T (by decide) (hg3 3 (by decide))).2.2 rfl
    obtain rfl : v158 = nI b159 := e158.trans he159
    have m160 : ((AB ad F) 61 (rl (nI 3))) = (nI b159) := (ab_cg rfl rfl).trans ((AB_g hF3).trans e158.symm)
    refine lv_bipush (v := (nI 12)) S.1 S.2.1 dX8_readsClause_101 (by decide +kernel) ?_
    refine lv_icmp_ne (tgt := 116) S.1 S.2.1 dX8_readsClause_103 (by decide) (fun c161 => ?_) (fun c161 => ?_)
    · skip
      have k162 := ci_ne (nI_toInt (n := b159) (Nat.lt_of_le_of_lt hb159 (by decide))) (nI_toInt (n := 12) (by decide)) c161
      refine lv_aload_n S.1 S.2.1 dX8_readsClause_116 rfl (lv_at hl10 1 rfl) ?_
      refine lv_dup S.1 S.2.1 dX8_readsClause_117 rfl ?_
      refine r_get S hK hP 58 (by decide) hF1 (C := RX8) (T := TX8) (N := 23) hiX8 rfl 14 (by decide) (am_at in_wsX8_readsClause_0 1 rfl) (v := .int (nI at1)) rfl dX8_readsClause_118 ?_
      have m163 : ((AB ad F) 58 14) = (nI at1) := AB_f hF1 rfl
      refine lv_iconst (v := (nI 1)) S.1 S.2.1 dX8_readsClause_121 (by decide +kernel) ?_
      refine lv_iadd S.1 S.2.1 dX8_readsClause_122 ?_
      refine lv_topi (fun v164 e164 => ?_)
      obtain rfl : v164 = nI (at1 + 1) := e164.trans (nI_add _ _)
      have m165 : (((AB ad F) 58 14) + (nI 1)) = (nI (at1 + 1)) := cg2 (fun (x : Int32) (y : Int32) => x + y) m163 (Eq.refl ((nI 1) : Int32)) e164
      refine r_put S hI hK hP hS 58 (by decide) hF1 (C := RX8) (T := TX8) (N := 23) hiX8 tyX8_ok nmX8 rfl 14 (by decide) (am_at in_wsX8_readsClause_0 1 rfl) rfl rfl rfl (Nat.le_of_ble_eq_true rfl) dX8_readsClause_123 (fun F166 H166 locs166 eF166 hP166 hS166 => ?_)
      have hF166 : F166 58 = .inr (8, [.ref (ad 59), .int (nI ty1), .ref (ad 60), .ref (ad 61), .ref (ad 62), .ref (ad 63), .int (nI kn1), .ref (ad 64), .ref (ad 65), .int sd1, .ref (ad 66), .int (nI no1), .ref (ad 67), .int (nI en1), .int (nI (at1 + 1)), .int wr1, .int pl1, .int va1, .int (nI sa1), .ref (ad 68), .ref (ad 69), .ref (ad 70), .ref (ad 71)]) := by rw [eF166]; exact va_up_self _ _ _
      have hW166 := hW.up eF166 (ok_m ⟨ty1, kn1, no1, en1, at1 + 1, sa1, sd1, wr1, pl1, va1, rfl, by omega, by omega, by omega, by omega, by omega, by omega⟩)
      have hFr166 := hFr.up eF166 (by simp <;> first | omega | (simp only [isC, isJ] at *; omega))
      have hE168 : M = m_X8_readsClause_167 (AB ad F166) p1 := hM.trans ((show m_X8_readsClause (AB ad F) p1 = m_X8_readsClause_167 (st (AB ad F) 58 14 (((AB ad F) 58 14) + (nI 1))) p1 from by unfold m_X8_readsClause; rw [if_neg (neq_cg m7 rfl c8), if_neg (neq_cg rfl rfl c11), if_neg (neq_cg rfl rfl c35), if_pos (eq_cg rfl rfl c131), if_neg (neq_cg m160 rfl c161)]).trans (congr (congrArg (m_X8_readsClause_167) ((st_cg rfl rfl m165).trans (AB_put hF1 (Nat.le_of_ble_eq_true rfl) eF166).symm)) (Eq.refl (p1 : Int32))))
      refine lv_iload_n S.1 S.2.1 dX8_readsClause_126 rfl (lv_at hl10 2 rfl) ?_
      refine lv_bipush (v := (nI 108)) S.1 S.2.1 dX8_readsClause_127 (by decide +kernel) ?_
      refine lv_icmp_ne (tgt := 139) S.1 S.2.1 dX8_readsClause_129 (by decide) (fun c169 => ?_) (fun c169 => absurd c169 c151)
      have k170 := ci_ne rfl (nI_toInt (n := 108) (by decide)) c169
      refine lv_iload_n S.1 S.2.1 dX8_readsClause_139 rfl (lv_at hl10 2 rfl) ?_
      refine lv_bipush (v := (nI 116)) S.1 S.2.1 dX8_readsClause_140 (by decide +kernel) ?_
      refine lv_icmp_ne (tgt := 152) S.1 S.2.1 dX8_readsClause_142 (by decide) (fun c171 => ?_) (fun c171 => absurd c171 c153)
      have k172 := ci_ne rfl (nI_toInt (n := 116) (by decide)) c171
      refine lv_aload_n S.1 S.2.1 dX8_readsClause_152 rfl (lv_at hl10 1 rfl) ?_
      have hA173 := fN_of (k := 14) (a := at1 + 1) hF166 rfl (by omega)
      have hL173 := fN_of (k := 1) (a := ty1) hF166 rfl (Nat.lt_of_le_of_lt hb1_1 (by decide))
      have hF175 := (show F166 61 = F 61 by rw [eF166]; exact va_up_ne _ _ (by decide)).trans hF3
      have hN176 := aN_of (j := 3) hF175 he159 (by omega)
      refine r_cVi (As := []) (rest := []) S hK hZ hP166 hS166 hl10.1 58 (by decide) hF166 (C := RX8) rfl (c_X8_readsRoad l D cA ad t hI F166 hW166 (by omega)) (cwV 0 S.2.2.2.2 gX8_readsClause_X8_readsRoad rfl rfl rfl (by decide +kernel) ⟨Nat.le_of_ble_eq_true rfl, Nat.le_of_ble_eq_true rfl⟩) rfl rfl (Nat.le_of_ble_eq_true rfl) ⟨Nat.zero_le _, Nat.zero_le _⟩ dX8_readsClause_153 (fun r174 F174 H174 locs174 hr174 hP174 hS174 => ?_)
      obtain ⟨hW174, hFc174, hr174⟩ := hr174
      obtain ⟨hr174, hm174⟩ := hr174
      have hFr174 := hFr166.tr hFc174 (by simp <;> first | omega | (simp only [isC, isJ] at *; omega))
      obtain ⟨⟨b177, hb177, rfl⟩, hz177, hx177⟩ := hr174
      obtain ⟨ty178, kn178, no178, en178, at178, sa178, sd178, wr178, pl178, va178, hF178, hb178_1, hb178_2, hb178_3, hb178_4, hb178_5, hb178_6⟩ := wt_m hW174
      have hA179 := fN_of (k := 14) (a := at178) hF178 rfl (Nat.lt_of_le_of_lt hb178_5 (by decide))
      have hL179 := fN_of (k := 1) (a := ty178) hF178 rfl (Nat.lt_of_le_of_lt hb178_1 (by decide))
      have hy177 : b177 ≠ 0 → _ := fun q => hx177 (nI_ne0 (by omega) (by omega))
      have mc180 : (m_X8_readsRoad (AB ad F166)) = ((nI b177), AB ad F174) := (Eq.refl (m_X8_readsRoad (AB ad F166))).trans hm174
      have hE182 : M = m_X8_readsClause_181 (AB ad F174) p1 (nI b177) := hE168.trans ((show m_X8_readsClause_167 (AB ad F166) p1 = m_X8_readsClause_181 ((m_X8_readsRoad (AB ad F166))).2 p1 ((m_X8_readsRoad (AB ad F166))).1 from rfl).trans (congr (congr (congrArg (m_X8_readsClause_181) (congrArg Prod.snd mc180)) (Eq.refl (p1 : Int32))) (congrArg Prod.fst mc180)))
      have hA183 := fN_of (k := 14) (a := at178) hF178 rfl (Nat.lt_of_le_of_lt hb178_5 (by decide))
      have hL183 := fN_of (k := 1) (a := ty178) hF178 rfl (Nat.lt_of_le_of_lt hb178_1 (by decide))
      have hE184 : M = ((nI b177), AB ad F174) := hE182.trans ((show m_X8_readsClause_181 (AB ad F174) p1 (nI b177) = ((nI b177), (AB ad F174)) from rfl).trans (congrArg (fun q => (q, AB ad F174)) rfl))
      exact hret 156 _ _ _ _ _ dX8_readsClause_156 (nar_bool (by omega)) hP174 hS174 ⟨hW174, hFr174, ⟨⟨⟨b177, by omega, rfl⟩, by omega, fun h => by have hb9 : b177 ≠ 0 := fun q => h (by rw [q]; rfl); omega⟩, hM.symm.trans hE184⟩⟩
    have k185 := ci_eq (nI_toInt (n := b159) (Nat.lt_of_le_of_lt hb159 (by decide))) (nI_toInt (n := 12) (by decide)) c161
    refine lv_aload_n S.1 S.2.1 dX8_readsClause_106 rfl (lv_at hl10 1 rfl) ?_
    refine lv_iconst (v := (nI 3)) S.1 S.2.1 dX8_readsClause_107 (by decide +kernel) ?_
    refine lv_aload_n S.1 S.2.1 dX8_readsClause_108 rfl (lv_at hl10 1 rfl) ?_
    refine r_get S hK hP 58 (by decide) hF1 (C := RX8) (T := TX8) (N := 23) hiX8 rfl 14 (by decide) (am_at in_wsX8_readsClause_0 1 rfl) (v := .int (nI at1)) rfl dX8_readsClause_109 ?_
    have m186 : ((AB ad F) 58 14) = (nI at1) := AB_f hF1 rfl
    have hA187 := fN_of (k := 14) (a := at1) hF1 rfl (Nat.lt_of_le_of_lt hb1_5 (by decide))
    have hL187 := fN_of (k := 1) (a := ty1) hF1 rfl (Nat.lt_of_le_of_lt hb1_1 (by decide))
    refine r_cVi (As := [.int (nI 3), .int (nI at1)]) (rest := []) S hK hZ hP hS hl10.1 58 (by decide) hF1 (C := RX8) rfl (c_X8_isWrong l D cA ad t hI F hW (nI 3) (at1) (by omega)) (cwV 2 S.2.2.2.2 gX8_readsClause_X8_isWrong rfl rfl rfl (by decide +kernel) ⟨Nat.le_of_ble_eq_true rfl, Nat.le_of_ble_eq_true rfl⟩) rfl rfl (Nat.le_of_ble_eq_true rfl) ⟨Nat.zero_le _, Nat.zero_le _⟩ dX8_readsClause_112 (fun r188 F188 H188 locs188 hr188 hP188 hS188 => ?_)
    obtain ⟨hW188, hFc188, hr188⟩ := hr188
    obtain ⟨hr188, hm188⟩ := hr188
    have hFr188 := hFr.tr hFc188 (by simp <;> first | omega | (simp only [isC, isJ] at *; omega))
    obtain ⟨rfl, hz189⟩ := hr188
    obtain ⟨ty190, kn190, no190, en190, at190, sa190, sd190, wr190, pl190, va190, hF190, hb190_1, hb190_2, hb190_3, hb190_4, hb190_5, hb190_6⟩ := wt_m hW188
    have hA191 := fN_of (k := 14) (a := at190) hF190 rfl (Nat.lt_of_le_of_lt hb190_5 (by decide))
    have hL191 := fN_of (k := 1) (a := ty190) hF190 rfl (Nat.lt_of_le_of_lt hb190_1 (by decide))
    have mc192 : (m_X8_isWrong (AB ad F) (nI 3) ((AB ad F) 58 14)) = ((nI 0), AB ad F188) := (congr (congr (Eq.refl (m_X8_isWrong (AB ad F))) (Eq.refl ((nI 3) : Int32))) m186).trans hm188
    have hE194 : M = m_X8_readsClause_193 (AB ad F188) p1 := hM.trans ((show m_X8_readsClause (AB ad F) p1 = m_X8_readsClause_193 ((m_X8_isWrong (AB ad F) (nI 3) ((AB ad F) 58 14))).2 p1 from by unfold m_X8_readsClause; rw [if_neg (neq_cg m7 rfl c8), if_neg (neq_cg rfl rfl c11), if_neg (neq_cg rfl rfl c35), if_pos (eq_cg rfl rfl c131), if_pos (eq_cg m160 rfl c161)]).trans (congr (congrArg (m_X8_readsClause_193) (congrArg Prod.snd mc192)) (Eq.refl (p1 : Int32))))
    have hA195 := fN_of (k := 14) (a := at190) hF190 rfl (Nat.lt_of_le_of_lt hb190_5 (by decide))
    have hL195 := fN_of (k := 1) (a := ty190) hF190 rfl (Nat.lt_of_le_of_lt hb190_1 (by decide))
    have hE196 : M = ((nI 0), AB ad F188) := hE194.trans ((show m_X8_readsClause_193 (AB ad F188) p1 = ((nI 0), (AB ad F188)) from rfl).trans (congrArg (fun q => (q, AB ad F188)) rfl))
    exact hret 115 _ _ _ _ _ dX8_readsClause_115 rfl hP188 hS188 ⟨hW188, hFr188, ⟨⟨⟨0, by omega, rfl⟩, by omega, fun h => absurd rfl h⟩, hM.symm.trans hE196⟩⟩
  have k197 := ci_eq (nI_toInt (n := b6) (Nat.lt_of_le_of_lt hb6 (by decide))) z_ti c8
  refine lv_iconst (v := (nI 1)) S.1 S.2.1 dX8_readsClause_9 (by decide +kernel) ?_
  refine lv_goto (tgt := 14) S.1 S.2.1 dX8_readsClause_10 (by decide) ?_
  refine lv_istore_n (lv' := [(2, .int (nI 1)), (0, .ref (ad 58)), (1, .int p1)]) S.1 S.2.1 dX8_readsClause_14 rfl hl0 (by decide) rfl (fun ls198 hl198 => ?_)
  refine lv_iload_n S.1 S.2.1 dX8_readsClause_15 rfl (lv_at hl198 2 rfl) ?_
  refine lv_bipush (v := (nI 108)) S.1 S.2.1 dX8_readsClause_16 (by decide +kernel) ?_
  refine lv_icmp_eq (tgt := 33) S.1 S.2.1 dX8_readsClause_18 (by decide) (fun c199 => ?_) (fun c199 => ?_)
  · skip
    have k200 := ci_eq rfl (nI_toInt (n := 108) (by decide)) c199
    refine lv_iload_n S.1 S.2.1 dX8_readsClause_33 rfl (lv_at hl198 0 rfl) ?_
    refine lv_iload_n S.1 S.2.1 dX8_readsClause_34 rfl (lv_at hl198 2 rfl) ?_
    refine lv_bipush (v := (nI 108)) S.1 S.2.1 dX8_readsClause_35 (by decide +kernel) ?_
    refine lv_icmp_ne (tgt := 44) S.1 S.2.1 dX8_readsClause_37 (by decide) (fun c201 => absurd c199 c201) (fun c201 => ?_)
    have k202 := ci_eq rfl (nI_toInt (n := 108) (by decide)) c201
    refine lv_iconst (v := (nI 1)) S.1 S.2.1 dX8_readsClause_40 (by decide +kernel) ?_
    refine lv_goto (tgt := 45) S.1 S.2.1 dX8_readsClause_41 (by decide) ?_
    refine lv_icmp_eq (tgt := 62) S.1 S.2.1 dX8_readsClause_45 (by decide) (fun c203 => ?_) (fun c203 => absurd (by decide +kernel) c203)
    have k204 := ci_eq (nI_toInt (n := 1) (by decide)) (nI_toInt (n := 1) (by decide)) c203
    refine lv_iload_n S.1 S.2.1 dX8_readsClause_62 rfl (lv_at hl198 0 rfl) ?_
    refine lv_if_ne (tgt := 72) S.1 S.2.1 dX8_readsClause_63 (by decide) (fun c205 => ?_) (fun c205 => absurd c205 (by decide +kernel))
    have k206 := ci_ne (nI_toInt (n := 1) (by decide)) z_ti c205
    refine lv_iload_n S.1 S.2.1 dX8_readsClause_72 rfl (lv_at hl198 2 rfl) ?_
    refine lv_bipush (v := (nI 116)) S.1 S.2.1 dX8_readsClause_73 (by decide +kernel) ?_
    refine lv_icmp_ne (tgt := 89) S.1 S.2.1 dX8_readsClause_75 (by decide) (fun c207 => ?_) (fun c207 => ?_)
    · skip
      have k208 := ci_ne rfl (nI_toInt (n := 116) (by decide)) c207
      refine lv_iload_n S.1 S.2.1 dX8_readsClause_89 rfl (lv_at hl198 2 rfl) ?_
      refine lv_bipush (v := (nI 114)) S.1 S.2.1 dX8_readsClause_90 (by decide +kernel) ?_
      refine lv_icmp_ne (tgt := 116) S.1 S.2.1 dX8_readsClause_92 (by decide) (fun c209 => ?_) (fun c209 => ?_)
      · skip
        have k210 := ci_ne rfl (nI_toInt (n := 114) (by decide)) c209
        refine lv_aload_n S.1 S.2.1 dX8_readsClause_116 rfl (lv_at hl198 1 rfl) ?_
        refine lv_dup S.1 S.2.1 dX8_readsClause_117 rfl ?_
        refine r_get S hK hP 58 (by decide) hF1 (C := RX8) (T := TX8) (N := 23) hiX8 rfl 14 (by decide) (am_at in_wsX8_readsClause_0 1 rfl) (v := .int (nI at1)) rfl dX8_readsClause_118 ?_
        have m211 : ((AB ad F) 58 14) = (nI at1) := AB_f hF1 rfl
        refine lv_iconst (v := (nI 1)) S.1 S.2.1 dX8_readsClause_121 (by decide +kernel) ?_
        refine lv_iadd S.1 S.2.1 dX8_readsClause_122 ?_
        refine lv_topi (fun v212 e212 => ?_)
        obtain rfl : v212 = nI (at1 + 1) := e212.trans (nI_add _ _)
        have m213 : (((AB ad F) 58 14) + (nI 1)) = (nI (at1 + 1)) := cg2 (fun (x : Int32) (y : Int32) => x + y) m211 (Eq.refl ((nI 1) : Int32)) e212
        refine r_put S hI hK hP hS 58 (by decide) hF1 (C := RX8) (T := TX8) (N := 23) hiX8 tyX8_ok nmX8 rfl 14 (by decide) (am_at in_wsX8_readsClause_0 1 rfl) rfl rfl rfl (Nat.le_of_ble_eq_true rfl) dX8_readsClause_123 (fun F214 H214 locs214 eF214 hP214 hS214 => ?_)
        have hF214 : F214 58 = .inr (8, [.ref (ad 59), .int (nI ty1), .ref (ad 60), .ref (ad 61), .ref (ad 62), .ref (ad 63), .int (nI kn1), .ref (ad 64), .ref (ad 65), .int sd1, .ref (ad 66), .int (nI no1), .ref (ad 67), .int (nI en1), .int (nI (at1 + 1)), .int wr1, .int pl1, .int va1, .int (nI sa1), .ref (ad 68), .ref (ad 69), .ref (ad 70), .ref (ad 71)]) := by rw [eF214]; exact va_up_self _ _ _
        have hW214 := hW.up eF214 (ok_m ⟨ty1, kn1, no1, en1, at1 + 1, sa1, sd1, wr1, pl1, va1, rfl, by omega, by omega, by omega, by omega, by omega, by omega⟩)
        have hFr214 := hFr.up eF214 (by simp <;> first | omega | (simp only [isC, isJ] at *; omega))
        have hE216 : M = m_X8_readsClause_215 (AB ad F214) p1 := hM.trans ((show m_X8_readsClause (AB ad F) p1 = m_X8_readsClause_215 (st (AB ad F) 58 14 (((AB ad F) 58 14) + (nI 1))) p1 from by unfold m_X8_readsClause; rw [if_pos (eq_cg m7 rfl c8), if_pos (eq_cg rfl rfl c199), if_neg (neq_cg rfl rfl c207), if_neg (neq_cg rfl rfl c209)]).trans (congr (congrArg (m_X8_readsClause_215) ((st_cg rfl rfl m213).trans (AB_put hF1 (Nat.le_of_ble_eq_true rfl) eF214).symm)) (Eq.refl (p1 : Int32))))
        refine lv_iload_n S.1 S.2.1 dX8_readsClause_126 rfl (lv_at hl198 2 rfl) ?_
        refine lv_bipush (v := (nI 108)) S.1 S.2.1 dX8_readsClause_127 (by decide +kernel) ?_
        refine lv_icmp_ne (tgt := 139) S.1 S.2.1 dX8_readsClause_129 (by decide) (fun c217 => absurd c201 c217) (fun c217 => ?_)
        have k218 := ci_eq rfl (nI_toInt (n := 108) (by decide)) c217
        refine lv_aload_n S.1 S.2.1 dX8_readsClause_132 rfl (lv_at hl198 1 rfl) ?_
        have hA219 := fN_of (k := 14) (a := at1 + 1) hF214 rfl (by omega)
        have hL219 := fN_of (k := 1) (a := ty1) hF214 rfl (Nat.lt_of_le_of_lt hb1_1 (by decide))
        refine r_cVi (As := []) (rest := []) S hK hZ hP214 hS214 hl198.1 58 (by decide) hF214 (C := RX8) rfl (c_X8_readsStay l D cA ad t hI F214 hW214 ) (cwV 0 S.2.2.2.2 gX8_readsClause_X8_readsStay rfl rfl rfl (by decide +kernel) ⟨Nat.le_of_ble_eq_true rfl, Nat.le_of_ble_eq_true rfl⟩) rfl rfl (Nat.le_of_ble_eq_true rfl) ⟨Nat.zero_le _, Nat.zero_le _⟩ dX8_readsClause_133 (fun r220 F220 H220 locs220 hr220 hP220 hS220 => ?_)
        obtain ⟨hW220, hFc220, hr220⟩ := hr220
        obtain ⟨hr220, hm220⟩ := hr220
        have hFr220 := hFr214.tr hFc220 (by simp <;> first | omega | (simp only [isC, isJ] at *; omega))
        obtain ⟨⟨b221, hb221, rfl⟩, hz221, hx221⟩ := hr220
        obtain ⟨ty222, kn222, no222, en222, at222, sa222, sd222, wr222, pl222, va222, hF222, hb222_1, hb222_2, hb222_3, hb222_4, hb222_5, hb222_6⟩ := wt_m hW220
        have hA223 := fN_of (k := 14) (a := at222) hF222 rfl (Nat.lt_of_le_of_lt hb222_5 (by decide))
        have hL223 := fN_of (k := 1) (a := ty222) hF222 rfl (Nat.lt_of_le_of_lt hb222_1 (by decide))
        have hy221 : b221 ≠ 0 → _ := fun q => hx221 (nI_ne0 (by omega) (by omega))
        have mc224 : (m_X8_readsStay (AB ad F214)) = ((nI b221), AB ad F220) := (Eq.refl (m_X8_readsStay (AB ad F214))).trans hm220
        have hE226 : M = m_X8_readsClause_225 (AB ad F220) p1 (nI b221) := hE216.trans ((show m_X8_readsClause_215 (AB ad F214) p1 = m_X8_readsClause_225 ((m_X8_readsStay (AB ad F214))).2 p1 ((m_X8_readsStay (AB ad F214))).1 from rfl).trans (congr (congr (congrArg (m_X8_readsClause_225) (congrArg Prod.snd mc224)) (Eq.refl (p1 : Int32))) (congrArg Prod.fst mc224)))
        refine lv_goto (tgt := 156) S.1 S.2.1 dX8_readsClause_136 (by decide) ?_
        have hA227 := fN_of (k := 14) (a := at222) hF222 rfl (Nat.lt_of_le_of_lt hb222_5 (by decide))
        have hL227 := fN_of (k := 1) (a := ty222) hF222 rfl (Nat.lt_of_le_of_lt hb222_1 (by decide))
        have hE228 : M = ((nI b221), AB ad F220) := hE226.trans ((show m_X8_readsClause_225 (AB ad F220) p1 (nI b221) = ((nI b221), (AB ad F220)) from rfl).trans (congrArg (fun q => (q, AB ad F220)) rfl))
        exact hret 156 _ _ _ _ _ dX8_readsClause_156 (nar_bool (by omega)) hP220 hS220 ⟨hW220, hFr220, ⟨⟨⟨b221, by omega, rfl⟩, by omega, fun h => by have hb9 : b221 ≠ 0 := fun q => h (by rw [q]; rfl); omega⟩, hM.symm.trans hE228⟩⟩
      have k229 := ci_eq rfl (nI_toInt (n := 114) (by decide)) c209
      refine lv_aload_n S.1 S.2.1 dX8_readsClause_95 rfl (lv_at hl198 1 rfl) ?_
      refine r_get S hK hP 58 (by decide) hF1 (C := RX8) (T := TX8) (N := 23) hiX8 rfl 3 (by decide) (am_at in_wsX8_readsClause_0 0 rfl) (v := .ref (ad 61)) rfl dX8_readsClause_96 ?_
      refine lv_iconst (v := (nI 3)) S.1 S.2.1 dX8_readsClause_99 (by decide +kernel) ?_
      refine r_iald S hK hP 61 (by decide) hF3 (vp_in_nI (show 3 < 52 by omega) (by omega)) dX8_readsClause_100 ?_
      refine lv_topi (fun v231 e231 => ?_)
      obtain ⟨b232, hb232, he232⟩ := (pr_T (by decide) (hg3 3 (by decide))).2.2 rfl
      obtain rfl : v231 = nI b232 := e231.trans he232
      have m233 : ((AB ad F) 61 (rl (nI 3))) = (nI b232) := (ab_cg rfl rfl).trans ((AB_g hF3).trans e231.symm)
      refine lv_bipush (v := (nI 12)) S.1 S.2.1 dX8_readsClause_101 (by decide +kernel) ?_
      refine lv_icmp_ne (tgt := 116) S.1 S.2.1 dX8_readsClause_103 (by decide) (fun c234 => ?_) (fun c234 => ?_)
      · skip
        have k235 := ci_ne (nI_toInt (n := b232) (Nat.lt_of_le_of_lt hb232 (by decide))) (nI_toInt (n := 12) (by decide)) c234
        refine lv_aload_n S.1 S.2.1 dX8_readsClause_116 rfl (lv_at hl198 1 rfl) ?_
        refine lv_dup S.1 S.2.1 dX8_readsClause_117 rfl ?_
        refine r_get S hK hP 58 (by decide) hF1 (C := RX8) (T := TX8) (N := 23) hiX8 rfl 14 (by decide) (am_at in_wsX8_readsClause_0 1 rfl) (v := .int (nI at1)) rfl dX8_readsClause_118 ?_
        have m236 : ((AB ad F) 58 14) = (nI at1) := AB_f hF1 rfl
        refine lv_iconst (v := (nI 1)) S.1 S.2.1 dX8_readsClause_121 (by decide +kernel) ?_
        refine lv_iadd S.1 S.2.1 dX8_readsClause_122 ?_
        refine lv_topi (fun v237 e237 => ?_)
        obtain rfl : v237 = nI (at1 + 1) := e237.trans (nI_add _ _)
        have m238 : (((AB ad F) 58 14) + (nI 1)) = (nI (at1 + 1)) := cg2 (fun (x : Int32) (y : Int32) => x + y) m236 (Eq.refl ((nI 1) : Int32)) e237
        refine r_put S hI hK hP hS 58 (by decide) hF1 (C := RX8) (T := TX8) (N := 23) hiX8 tyX8_ok nmX8 rfl 14 (by decide) (am_at in_wsX8_readsClause_0 1 rfl) rfl rfl rfl (Nat.le_of_ble_eq_true rfl) dX8_readsClause_123 (fun F239 H239 locs239 eF239 hP239 hS239 => ?_)
        have hF239 : F239 58 = .inr (8, [.ref (ad 59), .int (nI ty1), .ref (ad 60), .ref (ad 61), .ref (ad 62), .ref (ad 63), .int (nI kn1), .ref (ad 64), .ref (ad 65), .int sd1, .ref (ad 66), .int (nI no1), .ref (ad 67), .int (nI en1), .int (nI (at1 + 1)), .int wr1, .int pl1, .int va1, .int (nI sa1), .ref (ad 68), .ref (ad 69), .ref (ad 70), .ref (ad 71)]) := by rw [eF239]; exact va_up_self _ _ _
        have hW239 := hW.up eF239 (ok_m ⟨ty1, kn1, no1, en1, at1 + 1, sa1, sd1, wr1, pl1, va1, rfl, by omega, by omega, by omega, by omega, by omega, by omega⟩)
        have hFr239 := hFr.up eF239 (by simp <;> first | omega | (simp only [isC, isJ] at *; omega))
        have hE241 : M = m_X8_readsClause_240 (AB ad F239) p1 := hM.trans ((show m_X8_readsClause (AB ad F) p1 = m_X8_readsClause_240 (st (AB ad F) 58 14 (((AB ad F) 58 14) + (nI 1))) p1 from by unfold m_X8_readsClause; rw [if_pos (eq_cg m7 rfl c8), if_pos (eq_cg rfl rfl c199), if_neg (neq_cg rfl rfl c207), if_pos (eq_cg rfl rfl c209), if_neg (neq_cg m233 rfl c234)]).trans (congr (congrArg (m_X8_readsClause_240) ((st_cg rfl rfl m238).trans (AB_put hF1 (Nat.le_of_ble_eq_true rfl) eF239).symm)) (Eq.refl (p1 : Int32))))
        refine lv_iload_n S.1 S.2.1 dX8_readsClause_126 rfl (lv_at hl198 2 rfl) ?_
        refine lv_bipush (v := (nI 108)) S.1 S.2.1 dX8_readsClause_127 (by decide +kernel) ?_
        refine lv_icmp_ne (tgt := 139) S.1 S.2.1 dX8_readsClause_129 (by decide) (fun c242 => absurd c201 c242) (fun c242 => ?_)
        have k243 := ci_eq rfl (nI_toInt (n := 108) (by decide)) c242
        refine lv_aload_n S.1 S.2.1 dX8_readsClause_132 rfl (lv_at hl198 1 rfl) ?_
        have hA244 := fN_of (k := 14) (a := at1 + 1) hF239 rfl (by omega)
        have hL244 := fN_of (k := 1) (a := ty1) hF239 rfl (Nat.lt_of_le_of_lt hb1_1 (by decide))
        refine r_cVi (As := []) (rest := []) S hK hZ hP239 hS239 hl198.1 58 (by decide) hF239 (C := RX8) rfl (c_X8_readsStay l D cA ad t hI F239 hW239 ) (cwV 0 S.2.2.2.2 gX8_readsClause_X8_readsStay rfl rfl rfl (by decide +kernel) ⟨Nat.le_of_ble_eq_true rfl, Nat.le_of_ble_eq_true rfl⟩) rfl rfl (Nat.le_of_ble_eq_true rfl) ⟨Nat.zero_le _, Nat.zero_le _⟩ dX8_readsClause_133 (fun r245 F245 H245 locs245 hr245 hP245 hS245 => ?_)
        obtain ⟨hW245, hFc245, hr245⟩ := hr245
        obtain ⟨hr245, hm245⟩ := hr245
        have hFr245 := hFr239.tr hFc245 (by simp <;> first | omega | (simp only [isC, isJ] at *; omega))
        obtain ⟨⟨b246, hb246, rfl⟩, hz246, hx246⟩ := hr245
        obtain ⟨ty247, kn247, no247, en247, at247, sa247, sd247, wr247, pl247, va247, hF247, hb247_1, hb247_2, hb247_3, hb247_4, hb247_5, hb247_6⟩ := wt_m hW245
        have hA248 := fN_of (k := 14) (a := at247) hF247 rfl (Nat.lt_of_le_of_lt hb247_5 (by decide))
        have hL248 := fN_of (k := 1) (a := ty247) hF247 rfl (Nat.lt_of_le_of_lt hb247_1 (by decide))
        have hy246 : b246 ≠ 0 → _ := fun q => hx246 (nI_ne0 (by omega) (by omega))
        have mc249 : (m_X8_readsStay (AB ad F239)) = ((nI b246), AB ad F245) := (Eq.refl (m_X8_readsStay (AB ad F239))).trans hm245
        have hE251 : M = m_X8_readsClause_250 (AB ad F245) p1 (nI b246) := hE241.trans ((show m_X8_readsClause_240 (AB ad F239) p1 = m_X8_readsClause_250 ((m_X8_readsStay (AB ad F239))).2 p1 ((m_X8_readsStay (AB ad F239))).1 from rfl).trans (congr (congr (congrArg (m_X8_readsClause_250) (congrArg Prod.snd mc249)) (Eq.refl (p1 : Int32))) (congrArg Prod.fst mc249)))
        refine lv_goto (tgt := 156) S.1 S.2.1 dX8_readsClause_136 (by decide) ?_
        have hA252 := fN_of (k := 14) (a := at247) hF247 rfl (Nat.lt_of_le_of_lt hb247_5 (by decide))
        have hL252 := fN_of (k := 1) (a := ty247) hF247 rfl (Nat.lt_of_le_of_lt hb247_1 (by decide))
        have hE253 : M = ((nI b246), AB ad F245) := hE251.trans ((show m_X8_readsClause_250 (AB ad F245) p1 (nI b246) = ((nI b246), (AB ad F245)) from rfl).trans (congrArg (fun q => (q, AB ad F245)) rfl))
        exact hret 156 _ _ _ _ _ dX8_readsClause_156 (nar_bool (by omega)) hP245 hS245 ⟨hW245, hFr245, ⟨⟨⟨b246, by omega, rfl⟩, by omega, fun h => by have hb9 : b246 ≠ 0 := fun q => h (by rw [q]; rfl); omega⟩, hM.symm.trans hE253⟩⟩
      have k254 := ci_eq (nI_toInt (n := b232) (Nat.lt_of_le_of_lt hb232 (by decide))) (nI_toInt (n := 12) (by decide)) c234
      refine lv_aload_n S.1 S.2.1 dX8_readsClause_106 rfl (lv_at hl198 1 rfl) ?_
      refine lv_iconst (v := (nI 3)) S.1 S.2.1 dX8_readsClause_107 (by decide +kernel) ?_
      refine lv_aload_n S.1 S.2.1 dX8_readsClause_108 rfl (lv_at hl198 1 rfl) ?_
      refine r_get S hK hP 58 (by decide) hF1 (C := RX8) (T := TX8) (N := 23) hiX8 rfl 14 (by decide) (am_at in_wsX8_readsClause_0 1 rfl) (v := .int (nI at1)) rfl dX8_readsClause_109 ?_
      have m255 : ((AB ad F) 58 14) = (nI at1) := AB_f hF1 rfl
      have hA256 := fN_of (k := 14) (a := at1) hF1 rfl (Nat.lt_of_le_of_lt hb1_5 (by decide))
      have hL256 := fN_of (k := 1) (a := ty1) hF1 rfl (Nat.lt_of_le_of_lt hb1_1 (by decide))
      refine r_cVi (As := [.int (nI 3), .int (nI at1)]) (rest := []) S hK hZ hP hS hl198.1 58 (by decide) hF1 (C := RX8) rfl (c_X8_isWrong l D cA ad t hI F hW (nI 3) (at1) (by omega)) (cwV 2 S.2.2.2.2 gX8_readsClause_X8_isWrong rfl rfl rfl (by decide +kernel) ⟨Nat.le_of_ble_eq_true rfl, Nat.le_of_ble_eq_true rfl⟩) rfl rfl (Nat.le_of_ble_eq_true rfl) ⟨Nat.zero_le _, Nat.zero_le _⟩ dX8_readsClause_112 (fun r257 F257 H257 locs257 hr257 hP257 hS257 => ?_)
      obtain ⟨hW257, hFc257, hr257⟩ := hr257
      obtain ⟨hr257, hm257⟩ := hr257
      have hFr257 := hFr.tr hFc257 (by simp <;> first | omega | (simp only [isC, isJ] at *; omega))
      obtain ⟨rfl, hz258⟩ := hr257
      obtain ⟨ty259, kn259, no259, en259, at259, sa259, sd259, wr259, pl259, va259, hF259, hb259_1, hb259_2, hb259_3, hb259_4, hb259_5, hb259_6⟩ := wt_m hW257
      have hA260 := fN_of (k := 14) (a := at259) hF259 rfl (Nat.lt_of_le_of_lt hb259_5 (by decide))
      have hL260 := fN_of (k := 1) (a := ty259) hF259 rfl (Nat.lt_of_le_of_lt hb259_1 (by decide))
      have mc261 : (m_X8_isWrong (AB ad F) (nI 3) ((AB ad F) 58 14)) = ((nI 0), AB ad F257) := (congr (congr (Eq.refl (m_X8_isWrong (AB ad F))) (Eq.refl ((nI 3) : Int32))) m255).trans hm257
      have hE263 : M = m_X8_readsClause_262 (AB ad F257) p1 := hM.trans ((show m_X8_readsClause (AB ad F) p1 = m_X8_readsClause_262 ((m_X8_isWrong (AB ad F) (nI 3) ((AB ad F) 58 14))).2 p1 from by unfold m_X8_readsClause; rw [if_pos (eq_cg m7 rfl c8), if_pos (eq_cg rfl rfl c199), if_neg (neq_cg rfl rfl c207), if_pos (eq_cg rfl rfl c209), if_pos (eq_cg m233 rfl c234)]).trans (congr (congrArg (m_X8_readsClause_262) (congrArg Prod.snd mc261)) (Eq.refl (p1 : Int32))))
      have hA264 := fN_of (k := 14) (a := at259) hF259 rfl (Nat.lt_of_le_of_lt hb259_5 (by decide))
      have hL264 := fN_of (k := 1) (a := ty259) hF259 rfl (Nat.lt_of_le_of_lt hb259_1 (by decide))
      have hE265 : M = ((nI 0), AB ad F257) := hE263.trans ((show m_X8_readsClause_262 (AB ad F257) p1 = ((nI 0), (AB ad F257)) from rfl).trans (congrArg (fun q => (q, AB ad F257)) rfl))
      exact hret 115 _ _ _ _ _ dX8_readsClause_115 rfl hP257 hS257 ⟨hW257, hFr257, ⟨⟨⟨0, by omega, rfl⟩, by omega, fun h => absurd rfl h⟩, hM.symm.trans hE265⟩⟩
    have k266 := ci_eq rfl (nI_toInt (n := 116) (by decide)) c207
    refine lv_aload_n S.1 S.2.1 dX8_readsClause_78 rfl (lv_at hl198 1 rfl) ?_
    refine r_get S hK hP 58 (by decide) hF1 (C := RX8) (T := TX8) (N := 23) hiX8 rfl 3 (by decide) (am_at in_wsX8_readsClause_0 0 rfl) (v := .ref (ad 61)) rfl dX8_readsClause_79 ?_
    refine lv_iconst (v := (nI 2)) S.1 S.2.1 dX8_readsClause_82 (by decide +kernel) ?_
    refine r_iald S hK hP 61 (by decide) hF3 (vp_in_nI (show 2 < 52 by omega) (by omega)) dX8_readsClause_83 ?_
    refine lv_topi (fun v268 e268 => ?_)
    obtain ⟨b269, hb269, he269⟩ := (pr_T (by decide) (hg3 2 (by decide))).2.1 rfl
    obtain rfl : v268 = nI b269 := e268.trans he269
    have m270 : ((AB ad F) 61 (rl (nI 2))) = (nI b269) := (ab_cg rfl rfl).trans ((AB_g hF3).trans e268.symm)
    refine lv_bipush (v := (nI 8)) S.1 S.2.1 dX8_readsClause_84 (by decide +kernel) ?_
    refine lv_icmp_eq (tgt := 106) S.1 S.2.1 dX8_readsClause_86 (by decide) (fun c271 => ?_) (fun c271 => ?_)
    · skip
      have k272 := ci_eq (nI_toInt (n := b269) (Nat.lt_of_le_of_lt hb269 (by decide))) (nI_toInt (n := 8) (by decide)) c271
      refine lv_aload_n S.1 S.2.1 dX8_readsClause_106 rfl (lv_at hl198 1 rfl) ?_
      refine lv_iconst (v := (nI 3)) S.1 S.2.1 dX8_readsClause_107 (by decide +kernel) ?_
      refine lv_aload_n S.1 S.2.1 dX8_readsClause_108 rfl (lv_at hl198 1 rfl) ?_
      refine r_get S hK hP 58 (by decide) hF1 (C := RX8) (T := TX8) (N := 23) hiX8 rfl 14 (by decide) (am_at in_wsX8_readsClause_0 1 rfl) (v := .int (nI at1)) rfl dX8_readsClause_109 ?_
      have m273 : ((AB ad F) 58 14) = (nI at1) := AB_f hF1 rfl
      have hA274 := fN_of (k := 14) (a := at1) hF1 rfl (Nat.lt_of_le_of_lt hb1_5 (by decide))
      have hL274 := fN_of (k := 1) (a := ty1) hF1 rfl (Nat.lt_of_le_of_lt hb1_1 (by decide))
      refine r_cVi (As := [.int (nI 3), .int (nI at1)]) (rest := []) S hK hZ hP hS hl198.1 58 (by decide) hF1 (C := RX8) rfl (c_X8_isWrong l D cA ad t hI F hW (nI 3) (at1) (by omega)) (cwV 2 S.2.2.2.2 gX8_readsClause_X8_isWrong rfl rfl rfl (by decide +kernel) ⟨Nat.le_of_ble_eq_true rfl, Nat.le_of_ble_eq_true rfl⟩) rfl rfl (Nat.le_of_ble_eq_true rfl) ⟨Nat.zero_le _, Nat.zero_le _⟩ dX8_readsClause_112 (fun r275 F275 H275 locs275 hr275 hP275 hS275 => ?_)
      obtain ⟨hW275, hFc275, hr275⟩ := hr275
      obtain ⟨hr275, hm275⟩ := hr275
      have hFr275 := hFr.tr hFc275 (by simp <;> first | omega | (simp only [isC, isJ] at *; omega))
      obtain ⟨rfl, hz276⟩ := hr275
      obtain ⟨ty277, kn277, no277, en277, at277, sa277, sd277, wr277, pl277, va277, hF277, hb277_1, hb277_2, hb277_3, hb277_4, hb277_5, hb277_6⟩ := wt_m hW275
      have hA278 := fN_of (k := 14) (a := at277) hF277 rfl (Nat.lt_of_le_of_lt hb277_5 (by decide))
      have hL278 := fN_of (k := 1) (a := ty277) hF277 rfl (Nat.lt_of_le_of_lt hb277_1 (by decide))
      have mc279 : (m_X8_isWrong (AB ad F) (nI 3) ((AB ad F) 58 14)) = ((nI 0), AB ad F275) := (congr (congr (Eq.refl (m_X8_isWrong (AB ad F))) (Eq.refl ((nI 3) : Int32))) m273).trans hm275
      have hE281 : M = m_X8_readsClause_280 (AB ad F275) p1 := hM.trans ((show m_X8_readsClause (AB ad F) p1 = m_X8_readsClause_280 ((m_X8_isWrong (AB ad F) (nI 3) ((AB ad F) 58 14))).2 p1 from by unfold m_X8_readsClause; rw [if_pos (eq_cg m7 rfl c8), if_pos (eq_cg rfl rfl c199), if_pos (eq_cg rfl rfl c207), if_pos (eq_cg m270 rfl c271)]).trans (congr (congrArg (m_X8_readsClause_280) (congrArg Prod.snd mc279)) (Eq.refl (p1 : Int32))))
      have hA282 := fN_of (k := 14) (a := at277) hF277 rfl (Nat.lt_of_le_of_lt hb277_5 (by decide))
      have hL282 := fN_of (k := 1) (a := ty277) hF277 rfl (Nat.lt_of_le_of_lt hb277_1 (by decide))
      have hE283 : M = ((nI 0), AB ad F275) := hE281.trans ((show m_X8_readsClause_280 (AB ad F275) p1 = ((nI 0), (AB ad F275)) from rfl).trans (congrArg (fun q => (q, AB ad F275)) rfl))
      exact hret 115 _ _ _ _ _ dX8_readsClause_115 rfl hP275 hS275 ⟨hW275, hFr275, ⟨⟨⟨0, by omega, rfl⟩, by omega, fun h => absurd rfl h⟩, hM.symm.trans hE283⟩⟩
    have k284 := ci_ne (nI_toInt (n := b269) (Nat.lt_of_le_of_lt hb269 (by decide))) (nI_toInt (n := 8) (by decide)) c271
    refine lv_iload_n S.1 S.2.1 dX8_readsClause_89 rfl (lv_at hl198 2 rfl) ?_
    refine lv_bipush (v := (nI 114)) S.1 S.2.1 dX8_readsClause_90 (by decide +kernel) ?_
    refine lv_icmp_ne (tgt := 116) S.1 S.2.1 dX8_readsClause_92 (by decide) (fun c285 => ?_) (fun c285 => ?_)
    · skip
      have k286 := ci_ne rfl (nI_toInt (n := 114) (by decide)) c285
      refine lv_aload_n S.1 S.2.1 dX8_readsClause_116 rfl (lv_at hl198 1 rfl) ?_
      refine lv_dup S.1 S.2.1 dX8_readsClause_117 rfl ?_
      refine r_get S hK hP 58 (by decide) hF1 (C := RX8) (T := TX8) (N := 23) hiX8 rfl 14 (by decide) (am_at in_wsX8_readsClause_0 1 rfl) (v := .int (nI at1)) rfl dX8_readsClause_118 ?_
      have m287 : ((AB ad F) 58 14) = (nI at1) := AB_f hF1 rfl
      refine lv_iconst (v := (nI 1)) S.1 S.2.1 dX8_readsClause_121 (by decide +kernel) ?_
      refine lv_iadd S.1 S.2.1 dX8_readsClause_122 ?_
      refine lv_topi (fun v288 e288 => ?_)
      obtain rfl : v288 = nI (at1 + 1) := e288.trans (nI_add _ _)
      have m289 : (((AB ad F) 58 14) + (nI 1)) = (nI (at1 + 1)) := cg2 (fun (x : Int32) (y : Int32) => x + y) m287 (Eq.refl ((nI 1) : Int32)) e288
      refine r_put S hI hK hP hS 58 (by decide) hF1 (C := RX8) (T := TX8) (N := 23) hiX8 tyX8_ok nmX8 rfl 14 (by decide) (am_at in_wsX8_readsClause_0 1 rfl) rfl rfl rfl (Nat.le_of_ble_eq_true rfl) dX8_readsClause_123 (fun F290 H290 locs290 eF290 hP290 hS290 => ?_)
      have hF290 : F290 58 = .inr (8, [.ref (ad 59), .int (nI ty1), .ref (ad 60), .ref (ad 61), .ref (ad 62), .ref (ad 63), .int (nI kn1), .ref (ad 64), .ref (ad 65), .int sd1, .ref (ad 66), .int (nI no1), .ref (ad 67), .int (nI en1), .int (nI (at1 + 1)), .int wr1, .int pl1, .int va1, .int (nI sa1), .ref (ad 68), .ref (ad 69), .ref (ad 70), .ref (ad 71)]) := by rw [eF290]; exact va_up_self _ _ _
      have hW290 := hW.up eF290 (ok_m ⟨ty1, kn1, no1, en1, at1 + 1, sa1, sd1, wr1, pl1, va1, rfl, by omega, by omega, by omega, by omega, by omega, by omega⟩)
      have hFr290 := hFr.up eF290 (by simp <;> first | omega | (simp only [isC, isJ] at *; omega))
      have hE292 : M = m_X8_readsClause_291 (AB ad F290) p1 := hM.trans ((show m_X8_readsClause (AB ad F) p1 = m_X8_readsClause_291 (st (AB ad F) 58 14 (((AB ad F) 58 14) + (nI 1))) p1 from by unfold m_X8_readsClause; rw [if_pos (eq_cg m7 rfl c8), if_pos (eq_cg rfl rfl c199), if_pos (eq_cg rfl rfl c207), if_neg (neq_cg m270 rfl c271), if_neg (neq_cg rfl rfl c285)]).trans (congr (congrArg (m_X8_readsClause_291) ((st_cg rfl rfl m289).trans (AB_put hF1 (Nat.le_of_ble_eq_true rfl) eF290).symm)) (Eq.refl (p1 : Int32))))
      refine lv_iload_n S.1 S.2.1 dX8_readsClause_126 rfl (lv_at hl198 2 rfl) ?_
      refine lv_bipush (v := (nI 108)) S.1 S.2.1 dX8_readsClause_127 (by decide +kernel) ?_
      refine lv_icmp_ne (tgt := 139) S.1 S.2.1 dX8_readsClause_129 (by decide) (fun c293 => absurd c201 c293) (fun c293 => ?_)
      have k294 := ci_eq rfl (nI_toInt (n := 108) (by decide)) c293
      refine lv_aload_n S.1 S.2.1 dX8_readsClause_132 rfl (lv_at hl198 1 rfl) ?_
      have hA295 := fN_of (k := 14) (a := at1 + 1) hF290 rfl (by omega)
      have hL295 := fN_of (k := 1) (a := ty1) hF290 rfl (Nat.lt_of_le_of_lt hb1_1 (by decide))
      refine r_cVi (As := []) (rest := []) S hK hZ hP290 hS290 hl198.1 58 (by decide) hF290 (C := RX8) rfl (c_X8_readsStay l D cA ad t hI F290 hW290 ) (cwV 0 S.2.2.2.2 gX8_readsClause_X8_readsStay rfl rfl rfl (by decide +kernel) ⟨Nat.le_of_ble_eq_true rfl, Nat.le_of_ble_eq_true rfl⟩) rfl rfl (Nat.le_of_ble_eq_true rfl) ⟨Nat.zero_le _, Nat.zero_le _⟩ dX8_readsClause_133 (fun r296 F296 H296 locs296 hr296 hP296 hS296 => ?_)
      obtain ⟨hW296, hFc296, hr296⟩ := hr296
      obtain ⟨hr296, hm296⟩ := hr296
      have hFr296 := hFr290.tr hFc296 (by simp <;> first | omega | (simp only [isC, isJ] at *; omega))
      obtain ⟨⟨b297, hb297, rfl⟩, hz297, hx297⟩ := hr296
      obtain ⟨ty298, kn298, no298, en298, at298, sa298, sd298, wr298, pl298, va298, hF298, hb298_1, hb298_2, hb298_3, hb298_4, hb298_5, hb298_6⟩ := wt_m hW296
      have hA299 := fN_of (k := 14) (a := at298) hF298 rfl (Nat.lt_of_le_of_lt hb298_5 (by decide))
      have hL299 := fN_of (k := 1) (a := ty298) hF298 rfl (Nat.lt_of_le_of_lt hb298_1 (by decide))
      have hy297 : b297 ≠ 0 → _ := fun q => hx297 (nI_ne0 (by omega) (by omega))
      have mc300 : (m_X8_readsStay (AB ad F290)) = ((nI b297), AB ad F296) := (Eq.refl (m_X8_readsStay (AB ad F290))).trans hm296
      have hE302 : M = m_X8_readsClause_301 (AB ad F296) p1 (nI b297) := hE292.trans ((show m_X8_readsClause_291 (AB ad F290) p1 = m_X8_readsClause_301 ((m_X8_readsStay (AB ad F290))).2 p1 ((m_X8_readsStay (AB ad F290))).1 from rfl).trans (congr (congr (congrArg (m_X8_readsClause_301) (congrArg Prod.snd mc300)) (Eq.refl (p1 : Int32))) (congrArg Prod.fst mc300)))
      refine lv_goto (tgt := 156) S.1 S.2.1 dX8_readsClause_136 (by decide) ?_
      have hA303 := fN_of (k := 14) (a := at298) hF298 rfl (Nat.lt_of_le_of_lt hb298_5 (by decide))
      have hL303 := fN_of (k := 1) (a := ty298) hF298 rfl (Nat.lt_of_le_of_lt hb298_1 (by decide))
      have hE304 : M = ((nI b297), AB ad F296) := hE302.trans ((show m_X8_readsClause_301 (AB ad F296) p1 (nI b297) = ((nI b297), (AB ad F296)) from rfl).trans (congrArg (fun q => (q, AB ad F296)) rfl))
      exact hret 156 _ _ _ _ _ dX8_readsClause_156 (nar_bool (by omega)) hP296 hS296 ⟨hW296, hFr296, ⟨⟨⟨b297, by omega, rfl⟩, by omega, fun h => by have hb9 : b297 ≠ 0 := fun q => h (by rw [q]; rfl); omega⟩, hM.symm.trans hE304⟩⟩
    have k305 := ci_eq rfl (nI_toInt (n := 114) (by decide)) c285
    refine lv_aload_n S.1 S.2.1 dX8_readsClause_95 rfl (lv_at hl198 1 rfl) ?_
    refine r_get S hK hP 58 (by decide) hF1 (C := RX8) (T := TX8) (N := 23) hiX8 rfl 3 (by decide) (am_at in_wsX8_readsClause_0 0 rfl) (v := .ref (ad 61)) rfl dX8_readsClause_96 ?_
    refine lv_iconst (v := (nI 3)) S.1 S.2.1 dX8_readsClause_99 (by decide +kernel) ?_
    refine r_iald S hK hP 61 (by decide) hF3 (vp_in_nI (show 3 < 52 by omega) (by omega)) dX8_readsClause_100 ?_
    refine lv_topi (fun v307 e307 => ?_)
    obtain ⟨b308, hb308, he308⟩ := (pr_T (by decide) (hg3 3 (by decide))).2.2 rfl
    obtain rfl : v307 = nI b308 := e307.trans he308
    have m309 : ((AB ad F) 61 (rl (nI 3))) = (nI b308) := (ab_cg rfl rfl).trans ((AB_g hF3).trans e307.symm)
    refine lv_bipush (v := (nI 12)) S.1 S.2.1 dX8_readsClause_101 (by decide +kernel) ?_
    refine lv_icmp_ne (tgt := 116) S.1 S.2.1 dX8_readsClause_103 (by decide) (fun c310 => ?_) (fun c310 => ?_)
    · skip
      have k311 := ci_ne (nI_toInt (n := b308) (Nat.lt_of_le_of_lt hb308 (by decide))) (nI_toInt (n := 12) (by decide)) c310
      refine lv_aload_n S.1 S.2.1 dX8_readsClause_116 rfl (lv_at hl198 1 rfl) ?_
      refine lv_dup S.1 S.2.1 dX8_readsClause_117 rfl ?_
      refine r_get S hK hP 58 (by decide) hF1 (C := RX8) (T := TX8) (N := 23) hiX8 rfl 14 (by decide) (am_at in_wsX8_readsClause_0 1 rfl) (v := .int (nI at1)) rfl dX8_readsClause_118 ?_
      have m312 : ((AB ad F) 58 14) = (nI at1) := AB_f hF1 rfl
      refine lv_iconst (v := (nI 1)) S.1 S.2.1 dX8_readsClause_121 (by decide +kernel) ?_
      refine lv_iadd S.1 S.2.1 dX8_readsClause_122 ?_
      refine lv_topi (fun v313 e313 => ?_)
      obtain rfl : v313 = nI (at1 + 1) := e313.trans (nI_add _ _)
      have m314 : (((AB ad F) 58 14) + (nI 1)) = (nI (at1 + 1)) := cg2 (fun (x : Int32) (y : Int32) => x + y) m312 (Eq.refl ((nI 1) : Int32)) e313
      refine r_put S hI hK hP hS 58 (by decide) hF1 (C := RX8) (T := TX8) (N := 23) hiX8 tyX8_ok nmX8 rfl 14 (by decide) (am_at in_wsX8_readsClause_0 1 rfl) rfl rfl rfl (Nat.le_of_ble_eq_true rfl) dX8_readsClause_123 (fun F315 H315 locs315 eF315 hP315 hS315 => ?_)
      have hF315 : F315 58 = .inr (8, [.ref (ad 59), .int (nI ty1), .ref (ad 60), .ref (ad 61), .ref (ad 62), .ref (ad 63), .int (nI kn1), .ref (ad 64), .ref (ad 65), .int sd1, .ref (ad 66), .int (nI no1), .ref (ad 67), .int (nI en1), .int (nI (at1 + 1)), .int wr1, .int pl1, .int va1, .int (nI sa1), .ref (ad 68), .ref (ad 69), .ref (ad 70), .ref (ad 71)]) := by rw [eF315]; exact va_up_self _ _ _
      have hW315 := hW.up eF315 (ok_m ⟨ty1, kn1, no1, en1, at1 + 1, sa1, sd1, wr1, pl1, va1, rfl, by omega, by omega, by omega, by omega, by omega, by omega⟩)
      have hFr315 := hFr.up eF315 (by simp <;> first | omega | (simp only [isC, isJ] at *; omega))
      have hE317 : M = m_X8_readsClause_316 (AB ad F315) p1 := hM.trans ((show m_X8_readsClause (AB ad F) p1 = m_X8_readsClause_316 (st (AB ad F) 58 14 (((AB ad F) 58 14) + (nI 1))) p1 from by unfold m_X8_readsClause; rw [if_pos (eq_cg m7 rfl c8), if_pos (eq_cg rfl rfl c199), if_pos (eq_cg rfl rfl c207), if_neg (neq_cg m270 rfl c271), if_pos (eq_cg rfl rfl c285), if_neg (neq_cg m309 rfl c310)]).trans (congr (congrArg (m_X8_readsClause_316) ((st_cg rfl rfl m314).trans (AB_put hF1 (Nat.le_of_ble_eq_true rfl) eF315).symm)) (Eq.refl (p1 : Int32))))
      refine lv_iload_n S.1 S.2.1 dX8_readsClause_126 rfl (lv_at hl198 2 rfl) ?_
      refine lv_bipush (v := (nI 108)) S.1 S.2.1 dX8_readsClause_127 (by decide +kernel) ?_
      refine lv_icmp_ne (tgt := 139) S.1 S.2.1 dX8_readsClause_129 (by decide) (fun c318 => absurd c201 c318) (fun c318 => ?_)
      have k319 := ci_eq rfl (nI_toInt (n := 108) (by decide)) c318
      refine lv_aload_n S.1 S.2.1 dX8_readsClause_132 rfl (lv_at hl198 1 rfl) ?_
      have hA320 := fN_of (k := 14) (a := at1 + 1) hF315 rfl (by omega)
      have hL320 := fN_of (k := 1) (a := ty1) hF315 rfl (Nat.lt_of_le_of_lt hb1_1 (by decide))
      refine r_cVi (As := []) (rest := []) S hK hZ hP315 hS315 hl198.1 58 (by decide) hF315 (C := RX8) rfl (c_X8_readsStay l D cA ad t hI F315 hW315 ) (cwV 0 S.2.2.2.2 gX8_readsClause_X8_readsStay rfl rfl rfl (by decide +kernel) ⟨Nat.le_of_ble_eq_true rfl, Nat.le_of_ble_eq_true rfl⟩) rfl rfl (Nat.le_of_ble_eq_true rfl) ⟨Nat.zero_le _, Nat.zero_le _⟩ dX8_readsClause_133 (fun r321 F321 H321 locs321 hr321 hP321 hS321 => ?_)
      obtain ⟨hW321, hFc321, hr321⟩ := hr321
      obtain ⟨hr321, hm321⟩ := hr321
      have hFr321 := hFr315.tr hFc321 (by simp <;> first | omega | (simp only [isC, isJ] at *; omega))
      obtain ⟨⟨b322, hb322, rfl⟩, hz322, hx322⟩ := hr321
      obtain ⟨ty323, kn323, no323, en323, at323, sa323, sd323, wr323, pl323, va323, hF323, hb323_1, hb323_2, hb323_3, hb323_4, hb323_5, hb323_6⟩ := wt_m hW321
      have hA324 := fN_of (k := 14) (a := at323) hF323 rfl (Nat.lt_of_le_of_lt hb323_5 (by decide))
      have hL324 := fN_of (k := 1) (a := ty323) hF323 rfl (Nat.lt_of_le_of_lt hb323_1 (by decide))
      have hy322 : b322 ≠ 0 → _ := fun q => hx322 (nI_ne0 (by omega) (by omega))
      have mc325 : (m_X8_readsStay (AB ad F315)) = ((nI b322), AB ad F321) := (Eq.refl (m_X8_readsStay (AB ad F315))).trans hm321
      have hE327 : M = m_X8_readsClause_326 (AB ad F321) p1 (nI b322) := hE317.trans ((show m_X8_readsClause_316 (AB ad F315) p1 = m_X8_readsClause_326 ((m_X8_readsStay (AB ad F315))).2 p1 ((m_X8_readsStay (AB ad F315))).1 from rfl).trans (congr (congr (congrArg (m_X8_readsClause_326) (congrArg Prod.snd mc325)) (Eq.refl (p1 : Int32))) (congrArg Prod.fst mc325)))
      refine lv_goto (tgt := 156) S.1 S.2.1 dX8_readsClause_136 (by decide) ?_
      have hA328 := fN_of (k := 14) (a := at323) hF323 rfl (Nat.lt_of_le_of_lt hb323_5 (by decide))
      have hL328 := fN_of (k := 1) (a := ty323) hF323 rfl (Nat.lt_of_le_of_lt hb323_1 (by decide))
      have hE329 : M = ((nI b322), AB ad F321) := hE327.trans ((show m_X8_readsClause_326 (AB ad F321) p1 (nI b322) = ((nI b322), (AB ad F321)) from rfl).trans (congrArg (fun q => (q, AB ad F321)) rfl))
      exact hret 156 _ _ _ _ _ dX8_readsClause_156 (nar_bool (by omega)) hP321 hS321 ⟨hW321, hFr321, ⟨⟨⟨b322, by omega, rfl⟩, by omega, fun h => by have hb9 : b322 ≠ 0 := fun q => h (by rw [q]; rfl); omega⟩, hM.symm.trans hE329⟩⟩
    have k330 := ci_eq (nI_toInt (n := b308) (Nat.lt_of_le_of_lt hb308 (by decide))) (nI_toInt (n := 12) (by decide)) c310
    refine lv_aload_n S.1 S.2.1 dX8_readsClause_106 rfl (lv_at hl198 1 rfl) ?_
    refine lv_iconst (v := (nI 3)) S.1 S.2.1 dX8_readsClause_107 (by decide +kernel) ?_
    refine lv_aload_n S.1 S.2.1 dX8_readsClause_108 rfl (lv_at hl198 1 rfl) ?_
    refine r_get S hK hP 58 (by decide) hF1 (C := RX8) (T := TX8) (N := 23) hiX8 rfl 14 (by decide) (am_at in_wsX8_readsClause_0 1 rfl) (v := .int (nI at1)) rfl dX8_readsClause_109 ?_
    have m331 : ((AB ad F) 58 14) = (nI at1) := AB_f hF1 rfl
    have hA332 := fN_of (k := 14) (a := at1) hF1 rfl (Nat.lt_of_le_of_lt hb1_5 (by decide))
    have hL332 := fN_of (k := 1) (a := ty1) hF1 rfl (Nat.lt_of_le_of_lt hb1_1 (by decide))
    refine r_cVi (As := [.int (nI 3), .int (nI at1)]) (rest := []) S hK hZ hP hS hl198.1 58 (by decide) hF1 (C := RX8) rfl (c_X8_isWrong l D cA ad t hI F hW (nI 3) (at1) (by omega)) (cwV 2 S.2.2.2.2 gX8_readsClause_X8_isWrong rfl rfl rfl (by decide +kernel) ⟨Nat.le_of_ble_eq_true rfl, Nat.le_of_ble_eq_true rfl⟩) rfl rfl (Nat.le_of_ble_eq_true rfl) ⟨Nat.zero_le _, Nat.zero_le _⟩ dX8_readsClause_112 (fun r333 F333 H333 locs333 hr333 hP333 hS333 => ?_)
    obtain ⟨hW333, hFc333, hr333⟩ := hr333
    obtain ⟨hr333, hm333⟩ := hr333
    have hFr333 := hFr.tr hFc333 (by simp <;> first | omega | (simp only [isC, isJ] at *; omega))
    obtain ⟨rfl, hz334⟩ := hr333
    obtain ⟨ty335, kn335, no335, en335, at335, sa335, sd335, wr335, pl335, va335, hF335, hb335_1, hb335_2, hb335_3, hb335_4, hb335_5, hb335_6⟩ := wt_m hW333
    have hA336 := fN_of (k := 14) (a := at335) hF335 rfl (Nat.lt_of_le_of_lt hb335_5 (by decide))
    have hL336 := fN_of (k := 1) (a := ty335) hF335 rfl (Nat.lt_of_le_of_lt hb335_1 (by decide))
    have mc337 : (m_X8_isWrong (AB ad F) (nI 3) ((AB ad F) 58 14)) = ((nI 0), AB ad F333) := (congr (congr (Eq.refl (m_X8_isWrong (AB ad F))) (Eq.refl ((nI 3) : Int32))) m331).trans hm333
    have hE339 : M = m_X8_readsClause_338 (AB ad F333) p1 := hM.trans ((show m_X8_readsClause (AB ad F) p1 = m_X8_readsClause_338 ((m_X8_isWrong (AB ad F) (nI 3) ((AB ad F) 58 14))).2 p1 from by unfold m_X8_readsClause; rw [if_pos (eq_cg m7 rfl c8), if_pos (eq_cg rfl rfl c199), if_pos (eq_cg rfl rfl c207), if_neg (neq_cg m270 rfl c271), if_pos (eq_cg rfl rfl c285), if_pos (eq_cg m309 rfl c310)]).trans (congr (congrArg (m_X8_readsClause_338) (congrArg Prod.snd mc337)) (Eq.refl (p1 : Int32))))
    have hA340 := fN_of (k := 14) (a := at335) hF335 rfl (Nat.lt_of_le_of_lt hb335_5 (by decide))
    have hL340 := fN_of (k := 1) (a := ty335) hF335 rfl (Nat.lt_of_le_of_lt hb335_1 (by decide))
    have hE341 : M = ((nI 0), AB ad F333) := hE339.trans ((show m_X8_readsClause_338 (AB ad F333) p1 = ((nI 0), (AB ad F333)) from rfl).trans (congrArg (fun q => (q, AB ad F333)) rfl))
    exact hret 115 _ _ _ _ _ dX8_readsClause_115 rfl hP333 hS333 ⟨hW333, hFr333, ⟨⟨⟨0, by omega, rfl⟩, by omega, fun h => absurd rfl h⟩, hM.symm.trans hE341⟩⟩
  have k342 := ci_ne rfl (nI_toInt (n := 108) (by decide)) c199
  refine lv_iload_n S.1 S.2.1 dX8_readsClause_21 rfl (lv_at hl198 2 rfl) ?_
  refine lv_bipush (v := (nI 116)) S.1 S.2.1 dX8_readsClause_22 (by decide +kernel) ?_
  refine lv_icmp_eq (tgt := 33) S.1 S.2.1 dX8_readsClause_24 (by decide) (fun c343 => ?_) (fun c343 => ?_)
  · skip
    have k344 := ci_eq rfl (nI_toInt (n := 116) (by decide)) c343
    refine lv_iload_n S.1 S.2.1 dX8_readsClause_33 rfl (lv_at hl198 0 rfl) ?_
    refine lv_iload_n S.1 S.2.1 dX8_readsClause_34 rfl (lv_at hl198 2 rfl) ?_
    refine lv_bipush (v := (nI 108)) S.1 S.2.1 dX8_readsClause_35 (by decide +kernel) ?_
    refine lv_icmp_ne (tgt := 44) S.1 S.2.1 dX8_readsClause_37 (by decide) (fun c345 => ?_) (fun c345 => absurd c345 c199)
    have k346 := ci_ne rfl (nI_toInt (n := 108) (by decide)) c345
    refine lv_iconst (v := (nI 0)) S.1 S.2.1 dX8_readsClause_44 (by decide +kernel) ?_
    refine lv_icmp_eq (tgt := 62) S.1 S.2.1 dX8_readsClause_45 (by decide) (fun c347 => absurd c347 (by decide +kernel)) (fun c347 => ?_)
    have k348 := ci_ne (nI_toInt (n := 1) (by decide)) (nI_toInt (n := 0) (by decide)) c347
    refine lv_iload_n S.1 S.2.1 dX8_readsClause_48 rfl (lv_at hl198 0 rfl) ?_
    refine lv_if_eq (tgt := 62) S.1 S.2.1 dX8_readsClause_49 (by decide) (fun c349 => absurd c349 (by decide +kernel)) (fun c349 => ?_)
    have k350 := ci_ne (nI_toInt (n := 1) (by decide)) z_ti c349
    refine lv_aload_n S.1 S.2.1 dX8_readsClause_52 rfl (lv_at hl198 1 rfl) ?_
    refine lv_iconst (v := (nI 1)) S.1 S.2.1 dX8_readsClause_53 (by decide +kernel) ?_
    refine lv_aload_n S.1 S.2.1 dX8_readsClause_54 rfl (lv_at hl198 1 rfl) ?_
    refine r_get S hK hP 58 (by decide) hF1 (C := RX8) (T := TX8) (N := 23) hiX8 rfl 14 (by decide) (am_at in_wsX8_readsClause_0 1 rfl) (v := .int (nI at1)) rfl dX8_readsClause_55 ?_
    have m351 : ((AB ad F) 58 14) = (nI at1) := AB_f hF1 rfl
    have hA352 := fN_of (k := 14) (a := at1) hF1 rfl (Nat.lt_of_le_of_lt hb1_5 (by decide))
    have hL352 := fN_of (k := 1) (a := ty1) hF1 rfl (Nat.lt_of_le_of_lt hb1_1 (by decide))
    refine r_cVi (As := [.int (nI 1), .int (nI at1)]) (rest := []) S hK hZ hP hS hl198.1 58 (by decide) hF1 (C := RX8) rfl (c_X8_isWrong l D cA ad t hI F hW (nI 1) (at1) (by omega)) (cwV 2 S.2.2.2.2 gX8_readsClause_X8_isWrong rfl rfl rfl (by decide +kernel) ⟨Nat.le_of_ble_eq_true rfl, Nat.le_of_ble_eq_true rfl⟩) rfl rfl (Nat.le_of_ble_eq_true rfl) ⟨Nat.zero_le _, Nat.zero_le _⟩ dX8_readsClause_58 (fun r353 F353 H353 locs353 hr353 hP353 hS353 => ?_)
    obtain ⟨hW353, hFc353, hr353⟩ := hr353
    obtain ⟨hr353, hm353⟩ := hr353
    have hFr353 := hFr.tr hFc353 (by simp <;> first | omega | (simp only [isC, isJ] at *; omega))
    obtain ⟨rfl, hz354⟩ := hr353
    obtain ⟨ty355, kn355, no355, en355, at355, sa355, sd355, wr355, pl355, va355, hF355, hb355_1, hb355_2, hb355_3, hb355_4, hb355_5, hb355_6⟩ := wt_m hW353
    have hA356 := fN_of (k := 14) (a := at355) hF355 rfl (Nat.lt_of_le_of_lt hb355_5 (by decide))
    have hL356 := fN_of (k := 1) (a := ty355) hF355 rfl (Nat.lt_of_le_of_lt hb355_1 (by decide))
    have mc357 : (m_X8_isWrong (AB ad F) (nI 1) ((AB ad F) 58 14)) = ((nI 0), AB ad F353) := (congr (congr (Eq.refl (m_X8_isWrong (AB ad F))) (Eq.refl ((nI 1) : Int32))) m351).trans hm353
    have hE359 : M = m_X8_readsClause_358 (AB ad F353) p1 := hM.trans ((show m_X8_readsClause (AB ad F) p1 = m_X8_readsClause_358 ((m_X8_isWrong (AB ad F) (nI 1) ((AB ad F) 58 14))).2 p1 from by unfold m_X8_readsClause; rw [if_pos (eq_cg m7 rfl c8), if_neg (neq_cg rfl rfl c199), if_pos (eq_cg rfl rfl c343)]).trans (congr (congrArg (m_X8_readsClause_358) (congrArg Prod.snd mc357)) (Eq.refl (p1 : Int32))))
    have hA360 := fN_of (k := 14) (a := at355) hF355 rfl (Nat.lt_of_le_of_lt hb355_5 (by decide))
    have hL360 := fN_of (k := 1) (a := ty355) hF355 rfl (Nat.lt_of_le_of_lt hb355_1 (by decide))
    have hE361 : M = ((nI 0), AB ad F353) := hE359.trans ((show m_X8_readsClause_358 (AB ad F353) p1 = ((nI 0), (AB ad F353)) from rfl).trans (congrArg (fun q => (q, AB ad F353)) rfl))
    exact hret 61 _ _ _ _ _ dX8_readsClause_61 rfl hP353 hS353 ⟨hW353, hFr353, ⟨⟨⟨0, by omega, rfl⟩, by omega, fun h => absurd rfl h⟩, hM.symm.trans hE361⟩⟩
  have k362 := ci_ne rfl (nI_toInt (n := 116) (by decide)) c343
  refine lv_iload_n S.1 S.2.1 dX8_readsClause_27 rfl (lv_at hl198 2 rfl) ?_
  refine lv_bipush (v := (nI 114)) S.1 S.2.1 dX8_readsClause_28 (by decide +kernel) ?_
  refine lv_icmp_ne (tgt := 52) S.1 S.2.1 dX8_readsClause_30 (by decide) (fun c363 => ?_) (fun c363 => ?_)
  · skip
    have k364 := ci_ne rfl (nI_toInt (n := 114) (by decide)) c363
    refine lv_aload_n S.1 S.2.1 dX8_readsClause_52 rfl (lv_at hl198 1 rfl) ?_
    refine lv_iconst (v := (nI 1)) S.1 S.2.1 dX8_readsClause_53 (by decide +kernel) ?_
    refine lv_aload_n S.1 S.2.1 dX8_readsClause_54 rfl (lv_at hl198 1 rfl) ?_
    refine r_get S hK hP 58 (by decide) hF1 (C := RX8) (T := TX8) (N := 23) hiX8 rfl 14 (by decide) (am_at in_wsX8_readsClause_0 1 rfl) (v := .int (nI at1)) rfl dX8_readsClause_55 ?_
    have m365 : ((AB ad F) 58 14) = (nI at1) := AB_f hF1 rfl
    have hA366 := fN_of (k := 14) (a := at1) hF1 rfl (Nat.lt_of_le_of_lt hb1_5 (by decide))
    have hL366 := fN_of (k := 1) (a := ty1) hF1 rfl (Nat.lt_of_le_of_lt hb1_1 (by decide))
    refine r_cVi (As := [.int (nI 1), .int (nI at1)]) (rest := []) S hK hZ hP hS hl198.1 58 (by decide) hF1 (C := RX8) rfl (c_X8_isWrong l D cA ad t hI F hW (nI 1) (at1) (by omega)) (cwV 2 S.2.2.2.2 gX8_readsClause_X8_isWrong rfl rfl rfl (by decide +kernel) ⟨Nat.le_of_ble_eq_true rfl, Nat.le_of_ble_eq_true rfl⟩) rfl rfl (Nat.le_of_ble_eq_true rfl) ⟨Nat.zero_le _, Nat.zero_le _⟩ dX8_readsClause_58 (fun r367 F367 H367 locs367 hr367 hP367 hS367 => ?_)
    obtain ⟨hW367, hFc367, hr367⟩ := hr367
    obtain ⟨hr367, hm367⟩ := hr367
    have hFr367 := hFr.tr hFc367 (by simp <;> first | omega | (simp only [isC, isJ] at *; omega))
    obtain ⟨rfl, hz368⟩ := hr367
    obtain ⟨ty369, kn369, no369, en369, at369, sa369, sd369, wr369, pl369, va369, hF369, hb369_1, hb369_2, hb369_3, hb369_4, hb369_5, hb369_6⟩ := wt_m hW367
    have hA370 := fN_of (k := 14) (a := at369) hF369 rfl (Nat.lt_of_le_of_lt hb369_5 (by decide))
    have hL370 := fN_of (k := 1) (a := ty369) hF369 rfl (Nat.lt_of_le_of_lt hb369_1 (by decide))
    have mc371 : (m_X8_isWrong (AB ad F) (nI 1) ((AB ad F) 58 14)) = ((nI 0), AB ad F367) := (congr (congr (Eq.refl (m_X8_isWrong (AB ad F))) (Eq.refl ((nI 1) : Int32))) m365).trans hm367
    have hE373 : M = m_X8_readsClause_372 (AB ad F367) p1 := hM.trans ((show m_X8_readsClause (AB ad F) p1 = m_X8_readsClause_372 ((m_X8_isWrong (AB ad F) (nI 1) ((AB ad F) 58 14))).2 p1 from by unfold m_X8_readsClause; rw [if_pos (eq_cg m7 rfl c8), if_neg (neq_cg rfl rfl c199), if_neg (neq_cg rfl rfl c343), if_neg (neq_cg rfl rfl c363)]).trans (congr (congrArg (m_X8_readsClause_372) (congrArg Prod.snd mc371)) (Eq.refl (p1 : Int32))))
    have hA374 := fN_of (k := 14) (a := at369) hF369 rfl (Nat.lt_of_le_of_lt hb369_5 (by decide))
    have hL374 := fN_of (k := 1) (a := ty369) hF369 rfl (Nat.lt_of_le_of_lt hb369_1 (by decide))
    have hE375 : M = ((nI 0), AB ad F367) := hE373.trans ((show m_X8_readsClause_372 (AB ad F367) p1 = ((nI 0), (AB ad F367)) from rfl).trans (congrArg (fun q => (q, AB ad F367)) rfl))
    exact hret 61 _ _ _ _ _ dX8_readsClause_61 rfl hP367 hS367 ⟨hW367, hFr367, ⟨⟨⟨0, by omega, rfl⟩, by omega, fun h => absurd rfl h⟩, hM.symm.trans hE375⟩⟩
  have k376 := ci_eq rfl (nI_toInt (n := 114) (by decide)) c363
  refine lv_iload_n S.1 S.2.1 dX8_readsClause_33 rfl (lv_at hl198 0 rfl) ?_
  refine lv_iload_n S.1 S.2.1 dX8_readsClause_34 rfl (lv_at hl198 2 rfl) ?_
  refine lv_bipush (v := (nI 108)) S.1 S.2.1 dX8_readsClause_35 (by decide +kernel) ?_
  refine lv_icmp_ne (tgt := 44) S.1 S.2.1 dX8_readsClause_37 (by decide) (fun c377 => ?_) (fun c377 => absurd c377 c199)
  have k378 := ci_ne rfl (nI_toInt (n := 108) (by decide)) c377
  refine lv_iconst (v := (nI 0)) S.1 S.2.1 dX8_readsClause_44 (by decide +kernel) ?_
  refine lv_icmp_eq (tgt := 62) S.1 S.2.1 dX8_readsClause_45 (by decide) (fun c379 => absurd c379 (by decide +kernel)) (fun c379 => ?_)
  have k380 := ci_ne (nI_toInt (n := 1) (by decide)) (nI_toInt (n := 0) (by decide)) c379
  refine lv_iload_n S.1 S.2.1 dX8_readsClause_48 rfl (lv_at hl198 0 rfl) ?_
  refine lv_if_eq (tgt := 62) S.1 S.2.1 dX8_readsClause_49 (by decide) (fun c381 => absurd c381 (by decide +kernel)) (fun c381 => ?_)
  have k382 := ci_ne (nI_toInt (n := 1) (by decide)) z_ti c381
  refine lv_aload_n S.1 S.2.1 dX8_readsClause_52 rfl (lv_at hl198 1 rfl) ?_
  refine lv_iconst (v := (nI 1)) S.1 S.2.1 dX8_readsClause_53 (by decide +kernel) ?_
  refine lv_aload_n S.1 S.2.1 dX8_readsClause_54 rfl (lv_at hl198 1 rfl) ?_
  refine r_get S hK hP 58 (by decide) hF1 (C := RX8) (T := TX8) (N := 23) hiX8 rfl 14 (by decide) (am_at in_wsX8_readsClause_0 1 rfl) (v := .int (nI at1)) rfl dX8_readsClause_55 ?_
  have m383 : ((AB ad F) 58 14) = (nI at1) := AB_f hF1 rfl
  have hA384 := fN_of (k := 14) (a := at1) hF1 rfl (Nat.lt_of_le_of_lt hb1_5 (by decide))
  have hL384 := fN_of (k := 1) (a := ty1) hF1 rfl (Nat.lt_of_le_of_lt hb1_1 (by decide))
  refine r_cVi (As := [.int (nI 1), .int (nI at1)]) (rest := []) S hK hZ hP hS hl198.1 58 (by decide) hF1 (C := RX8) rfl (c_X8_isWrong l D cA ad t hI F hW (nI 1) (at1) (by omega)) (cwV 2 S.2.2.2.2 gX8_readsClause_X8_isWrong rfl rfl rfl (by decide +kernel) ⟨Nat.le_of_ble_eq_true rfl, Nat.le_of_ble_eq_true rfl⟩) rfl rfl (Nat.le_of_ble_eq_true rfl) ⟨Nat.zero_le _, Nat.zero_le _⟩ dX8_readsClause_58 (fun r385 F385 H385 locs385 hr385 hP385 hS385 => ?_)
  obtain ⟨hW385, hFc385, hr385⟩ := hr385
  obtain ⟨hr385, hm385⟩ := hr385
  have hFr385 := hFr.tr hFc385 (by simp <;> first | omega | (simp only [isC, isJ] at *; omega))
  obtain ⟨rfl, hz386⟩ := hr385
  obtain ⟨ty387, kn387, no387, en387, at387, sa387, sd387, wr387, pl387, va387, hF387, hb387_1, hb387_2, hb387_3, hb387_4, hb387_5, hb387_6⟩ := wt_m hW385
  have hA388 := fN_of (k := 14) (a := at387) hF387 rfl (Nat.lt_of_le_of_lt hb387_5 (by decide))
  have hL388 := fN_of (k := 1) (a := ty387) hF387 rfl (Nat.lt_of_le_of_lt hb387_1 (by decide))
  have mc389 : (m_X8_isWrong (AB ad F) (nI 1) ((AB ad F) 58 14)) = ((nI 0), AB ad F385) := (congr (congr (Eq.refl (m_X8_isWrong (AB ad F))) (Eq.refl ((nI 1) : Int32))) m383).trans hm385
  have hE391 : M = m_X8_readsClause_390 (AB ad F385) p1 := hM.trans ((show m_X8_readsClause (AB ad F) p1 = m_X8_readsClause_390 ((m_X8_isWrong (AB ad F) (nI 1) ((AB ad F) 58 14))).2 p1 from by unfold m_X8_readsClause; rw [if_pos (eq_cg m7 rfl c8), if_neg (neq_cg rfl rfl c199), if_neg (neq_cg rfl rfl c343), if_pos (eq_cg rfl rfl c363)]).trans (congr (congrArg (m_X8_readsClause_390) (congrArg Prod.snd mc389)) (Eq.refl (p1 : Int32))))
  have hA392 := fN_of (k := 14) (a := at387) hF387 rfl (Nat.lt_of_le_of_lt hb387_5 (by decide))
  have hL392 := fN_of (k := 1) (a := ty387) hF387 rfl (Nat.lt_of_le_of_lt hb387_1 (by decide))
  have hE393 : M = ((nI 0), AB ad F385) := hE391.trans ((show m_X8_readsClause_390 (AB ad F385) p1 = ((nI 0), (AB ad F385)) from rfl).trans (congrArg (fun q => (q, AB ad F385)) rfl))
  exact hret 61 _ _ _ _ _ dX8_readsClause_61 rfl hP385 hS385 ⟨hW385, hFr385, ⟨⟨⟨0, by omega, rfl⟩, by omega, fun h => absurd rfl h⟩, hM.symm.trans hE393⟩⟩
noncomputable def m_X8_reads_56 (k0 : SS → Int32 → Int32 × SS) (σ : SS) (a0 : Int32) : Int32 × SS :=
  k0 σ (a0 + Int32.ofInt (1))
noncomputable def m_X8_reads_43 (k0 : SS → Int32 → Int32 × SS) (k1 : SS → Int32 → Int32 × SS) (σ : SS) (a0 : Int32) (a1 : Int32) : Int32 × SS :=
  if a1 = (0 : Int32) then
    ((nI 0), σ)
  else
    k1 σ a0
noncomputable def m_X8_reads_35 (k0 : SS → Int32 → Int32 × SS) (k1 : SS → Int32 → Int32 × SS) (σ : SS) (a0 : Int32) (a1 : Int32) : Int32 × SS :=
  m_X8_reads_43 k0 k1 ((m_X8_readsClause σ a1)).2 a0 ((m_X8_readsClause σ a1)).1
noncomputable def m_X8_reads_23 (k0 : SS → Int32 → Int32 × SS) (k1 : SS → Int32 → Int32 × SS) (σ : SS) (a0 : Int32) (a1 : Int32) : Int32 × SS :=
  if a1 < (0 : Int32) then
    ((nI 1), σ)
  else
    m_X8_reads_35 k0 k1 ((m_X8_letter σ)).2 a0 ((m_X8_letter σ)).1
noncomputable def m_X8_reads_L31_13_b (k0 : SS → Int32 → Int32 × SS) (k1 : SS → Int32 → Int32 × SS) (σ : SS) (a0 : Int32) : Int32 × SS :=
  m_X8_reads_23 k0 k1 ((m_X8_letter σ)).2 a0 ((m_X8_letter σ)).1
noncomputable def m_X8_reads_L31_13 (k0 : SS → Int32 → Int32 × SS) : Nat → SS → Int32 → Int32 × SS
  | 0 => fun σ _ => (0, σ)
  | n + 1 => m_X8_reads_L31_13_b k0 (m_X8_reads_L31_13 k0 n)
noncomputable def m_X8_reads_11 (k0 : SS → Int32 → Int32 × SS) (σ : SS) (a0 : Int32) : Int32 × SS :=
  m_X8_reads_L31_13 k0 2000 σ a0
noncomputable def m_X8_reads_8 (k0 : SS → Int32 → Int32 × SS) (σ : SS) (a0 : Int32) : Int32 × SS :=
  m_X8_reads_11 k0 (st σ 58 14 (nI 0)) a0
noncomputable def m_X8_reads_L2_2_b (k0 : SS → Int32 → Int32 × SS) (σ : SS) (a0 : Int32) : Int32 × SS :=
  if (nI 52) ≤ a0 then
    m_X8_reads_8 k0 (st σ 58 15 (nI 0)) a0
  else
    m_X8_reads_56 k0 (st σ 61 (rl a0) (nI 0)) a0
noncomputable def m_X8_reads_L2_2 : Nat → SS → Int32 → Int32 × SS
  | 0 => fun σ _ => (0, σ)
  | n + 1 => m_X8_reads_L2_2_b (m_X8_reads_L2_2 n)
noncomputable def m_X8_reads (σ : SS) : Int32 × SS :=
  m_X8_reads_L2_2 2000 σ (nI 0)
set_option maxHeartbeats 4000000 in
set_option maxRecDepth 100000 in
theorem c_X8_reads (l : Launch) (D : va_G) (cA ad : Nat → Nat) (t : Nat) (hI : rI ad) (F : Nat → va_E) (hW : WT cA ad F) : MI l D cA ad t yX8_reads wsX8_reads { frames := 4, cells := 0, slots := 0, locals := 93 } [.ref (ad 58)] F (fun r F' => WT cA ad F' ∧ rFr [58, 61] F F' ∧ ((le32 1 r) ∧ m_X8_reads (AB ad F) = (r, AB ad F'))) := by
  refine en_I rfl (by decide +kernel) (Nat.le_of_ble_eq_true rfl) ?_
  intro p e s m args below meth c ls0 Q S hK hZ hP hS hl0 hret
  have hl0 : lv_has ls0 2 [(0, .ref (ad 58))] := hl0
  have hFr : rFr [58, 61] F F := rFr.rf
  have hiX8 : ∀ w ∈ u_ws RX8 TX8 23, w ∈ wsX8_reads := in_wsX8_reads_2
  obtain ⟨M, hM⟩ : ∃ M, M = m_X8_reads (AB ad F) := ⟨_, rfl⟩
  refine lv_iconst (v := (nI 0)) S.1 S.2.1 dX8_reads_0 (by decide +kernel) ?_
  refine lv_istore_n (lv' := [(1, .int (nI 0)), (0, .ref (ad 58))]) S.1 S.2.1 dX8_reads_1 rfl hl0 (by decide) rfl (fun ls1 hl1 => ?_)
  have lp2 : ∀ (n2 : Nat) (q12 : Nat), ∀ (Fl2 : Nat → va_E) (Hl2 : Heap) (lol2 : List Loc), q12 ≤ 52 → 52 - q12 < n2 → WT cA ad Fl2 → rFr [58, 61] F Fl2 → va_P D vwCl (rW ad Fl2) Hl2 → va_S (rA ad) s.heap Hl2 lol2 → M = m_X8_reads_L2_2 n2 (AB ad Fl2) (nI q12) → ∀ (ls : Array Slot), lv_has ls 2 [(1, .int (nI q12)), (0, .ref (ad 58))] → W p l e { frames := 4, cells := 0, slots := 0, locals := 93 } s m args below meth c Hl2 lol2 0 0 Q (F0 m 2 ls []) := by
    intro n2
    induction n2 with
    | zero =>
      intro q12 Fl2 Hl2 lol2 iv2_0 hm2 hWl2 hFl2 hPl2 hSl2 hEl2 ls2 hl2
      exact absurd hm2 (Nat.not_lt_zero _)
    | succ n2 ih2 =>
      intro q12 Fl2 Hl2 lol2 iv2_0 hm2 hWl2 hFl2 hPl2 hSl2 hEl2 ls2 hl2
      have hE3 : M = m_X8_reads_L2_2_b (m_X8_reads_L2_2 n2) (AB ad Fl2) (nI q12) := hEl2
      refine lv_iload_n S.1 S.2.1 dX8_reads_2 rfl (lv_at hl2 0 rfl) ?_
      refine lv_bipush (v := (nI 52)) S.1 S.2.1 dX8_reads_3 (by decide +kernel) ?_
      refine lv_icmp_ge (tgt := 21) S.1 S.2.1 dX8_reads_5 (by decide) (fun c4 => ?_) (fun c4 => ?_)
      · skip
        have k5 := ci_le (nI_toInt (n := 52) (by decide)) (nI_toInt (n := q12) (by omega)) c4
        refine lv_aload_n S.1 S.2.1 dX8_reads_21 rfl (lv_at hl2 1 rfl) ?_
        refine lv_iconst (v := (nI 0)) S.1 S.2.1 dX8_reads_22 (by decide +kernel) ?_
        obtain ⟨ty6, kn6, no6, en6, at6, sa6, sd6, wr6, pl6, va6, hF6, hb6_1, hb6_2, hb6_3, hb6_4, hb6_5, hb6_6⟩ := wt_m hWl2
        refine r_put S hI hK hPl2 hSl2 58 (by decide) hF6 (C := RX8) (T := TX8) (N := 23) hiX8 tyX8_ok nmX8 rfl 15 (by decide) (am_at in_wsX8_reads_0 1 rfl) rfl rfl rfl (Nat.le_of_ble_eq_true rfl) dX8_reads_23 (fun F7 H7 locs7 eF7 hP7 hS7 => ?_)
        have hF7 : F7 58 = .inr (8, [.ref (ad 59), .int (nI ty6), .ref (ad 60), .ref (ad 61), .ref (ad 62), .ref (ad 63), .int (nI kn6), .ref (ad 64), .ref (ad 65), .int sd6, .ref (ad 66), .int (nI no6), .ref (ad 67), .int (nI en6), .int (nI at6), .int (nI 0), .int pl6, .int va6, .int (nI sa6), .ref (ad 68), .ref (ad 69), .ref (ad 70), .ref (ad 71)]) := by rw [eF7]; exact va_up_self _ _ _
        have hW7 := hWl2.up eF7 (ok_m ⟨ty6, kn6, no6, en6, at6, sa6, sd6, (nI 0), pl6, va6, rfl, by omega, by omega, by omega, by omega, by omega, by omega⟩)
        have hFr7 := hFl2.up eF7 (by simp <;> first | omega | (simp only [isC, isJ] at *; omega))
        have hE9 : M = m_X8_reads_8 (m_X8_reads_L2_2 n2) (AB ad F7) (nI q12) := hE3.trans ((show m_X8_reads_L2_2_b (m_X8_reads_L2_2 n2) (AB ad Fl2) (nI q12) = m_X8_reads_8 (m_X8_reads_L2_2 n2) (st (AB ad Fl2) 58 15 (nI 0)) (nI q12) from by unfold m_X8_reads_L2_2_b; rw [if_pos (le_cg rfl rfl c4)]).trans (congr (congrArg (m_X8_reads_8 (m_X8_reads_L2_2 n2)) ((st_cg rfl rfl rfl).trans (AB_put hF6 (Nat.le_of_ble_eq_true rfl) eF7).symm)) (Eq.refl ((nI q12) : Int32))))
        refine lv_aload_n S.1 S.2.1 dX8_reads_26 rfl (lv_at hl2 1 rfl) ?_
        refine lv_iconst (v := (nI 0)) S.1 S.2.1 dX8_reads_27 (by decide +kernel) ?_
        refine r_put S hI hK hP7 hS7 58 (by decide) hF7 (C := RX8) (T := TX8) (N := 23) hiX8 tyX8_ok nmX8 rfl 14 (by decide) (am_at in_wsX8_reads_0 2 rfl) rfl rfl rfl (Nat.le_of_ble_eq_true rfl) dX8_reads_28 (fun F10 H10 locs10 eF10 hP10 hS10 => ?_)
        have hF10 : F10 58 = .inr (8, [.ref (ad 59), .int (nI ty6), .ref (ad 60), .ref (ad 61), .ref (ad 62), .ref (ad 63), .int (nI kn6), .ref (ad 64), .ref (ad 65), .int sd6, .ref (ad 66), .int (nI no6), .ref (ad 67), .int (nI en6), .int (nI 0), .int (nI 0), .int pl6, .int va6, .int (nI sa6), .ref (ad 68), .ref (ad 69), .ref (ad 70), .ref (ad 71)]) := by rw [eF10]; exact va_up_self _ _ _
        have hW10 := hW7.up eF10 (ok_m ⟨ty6, kn6, no6, en6, 0, sa6, sd6, (nI 0), pl6, va6, rfl, by omega, by omega, by omega, by omega, by omega, by omega⟩)
        have hFr10 := hFr7.up eF10 (by simp <;> first | omega | (simp only [isC, isJ] at *; omega))
        have hE12 : M = m_X8_reads_11 (m_X8_reads_L2_2 n2) (AB ad F10) (nI q12) := hE9.trans ((show m_X8_reads_8 (m_X8_reads_L2_2 n2) (AB ad F7) (nI q12) = m_X8_reads_11 (m_X8_reads_L2_2 n2) (st (AB ad F7) 58 14 (nI 0)) (nI q12) from rfl).trans (congr (congrArg (m_X8_reads_11 (m_X8_reads_L2_2 n2)) ((st_cg rfl rfl rfl).trans (AB_put hF7 (Nat.le_of_ble_eq_true rfl) eF10).symm)) (Eq.refl ((nI q12) : Int32))))
        have lp13 : ∀ (n13 : Nat), ∀ (Fl13 : Nat → va_E) (Hl13 : Heap) (lol13 : List Loc), 240 - fN (Fl13 58) 14 < n13 → WT cA ad Fl13 → rFr [58, 61] F Fl13 → va_P D vwCl (rW ad Fl13) Hl13 → va_S (rA ad) s.heap Hl13 lol13 → M = m_X8_reads_L31_13 (m_X8_reads_L2_2 n2) n13 (AB ad Fl13) (nI q12) → ∀ (ls : Array Slot), lv_has ls 2 [(1, .int (nI q12)), (0, .ref (ad 58))] → W p l e { frames := 4, cells := 0, slots := 0, locals := 93 } s m args below meth c Hl13 lol13 0 0 Q (F0 m 31 ls []) := by
          intro n13
          induction n13 with
          | zero =>
            intro Fl13 Hl13 lol13 hm13 hWl13 hFl13 hPl13 hSl13 hEl13 ls13 hl13
            exact absurd hm13 (Nat.not_lt_zero _)
          | succ n13 ih13 =>
            intro Fl13 Hl13 lol13 hm13 hWl13 hFl13 hPl13 hSl13 hEl13 ls13 hl13
            have hE14 : M = m_X8_reads_L31_13_b (m_X8_reads_L2_2 n2) (m_X8_reads_L31_13 (m_X8_reads_L2_2 n2) n13) (AB ad Fl13) (nI q12) := hEl13
            obtain ⟨ty15, kn15, no15, en15, at15, sa15, sd15, wr15, pl15, va15, hF15, hb15_1, hb15_2, hb15_3, hb15_4, hb15_5, hb15_6⟩ := wt_m hWl13
            have hA16 := fN_of (k := 14) (a := at15) hF15 rfl (Nat.lt_of_le_of_lt hb15_5 (by decide))
            have hL16 := fN_of (k := 1) (a := ty15) hF15 rfl (Nat.lt_of_le_of_lt hb15_1 (by decide))
            refine lv_aload_n S.1 S.2.1 dX8_reads_31 rfl (lv_at hl13 1 rfl) ?_
            have hA17 := fN_of (k := 14) (a := at15) hF15 rfl (Nat.lt_of_le_of_lt hb15_5 (by decide))
            have hL17 := fN_of (k := 1) (a := ty15) hF15 rfl (Nat.lt_of_le_of_lt hb15_1 (by decide))
            refine r_cVi (As := []) (rest := []) S hK hZ hPl13 hSl13 hl13.1 58 (by decide) hF15 (C := RX8) rfl (c_X8_letter l D cA ad t hI Fl13 hWl13 ) (cwV 0 S.2.2.2.2 gX8_reads_X8_letter rfl rfl rfl (by decide +kernel) ⟨Nat.le_of_ble_eq_true rfl, Nat.le_of_ble_eq_true rfl⟩) rfl rfl (Nat.le_of_ble_eq_true rfl) ⟨Nat.zero_le _, Nat.zero_le _⟩ dX8_reads_32 (fun r18 F18 H18 locs18 hr18 hP18 hS18 => ?_)
            obtain ⟨hW18, hFc18, hr18⟩ := hr18
            obtain ⟨hr18, hm18⟩ := hr18
            have hFr18 := hFl13.tr hFc18 (by simp <;> first | omega | (simp only [isC, isJ] at *; omega))
            obtain ⟨hx19, hy19, hz19⟩ := hr18
            obtain ⟨ty20, kn20, no20, en20, at20, sa20, sd20, wr20, pl20, va20, hF20, hb20_1, hb20_2, hb20_3, hb20_4, hb20_5, hb20_6⟩ := wt_m hW18
            have hA21 := fN_of (k := 14) (a := at20) hF20 rfl (Nat.lt_of_le_of_lt hb20_5 (by decide))
            have hL21 := fN_of (k := 1) (a := ty20) hF20 rfl (Nat.lt_of_le_of_lt hb20_1 (by decide))
            have mc22 : (m_X8_letter (AB ad Fl13)) = (r18, AB ad F18) := (Eq.refl (m_X8_letter (AB ad Fl13))).trans hm18
            have hE24 : M = m_X8_reads_23 (m_X8_reads_L2_2 n2) (m_X8_reads_L31_13 (m_X8_reads_L2_2 n2) n13) (AB ad F18) (nI q12) r18 := hE14.trans ((show m_X8_reads_L31_13_b (m_X8_reads_L2_2 n2) (m_X8_reads_L31_13 (m_X8_reads_L2_2 n2) n13) (AB ad Fl13) (nI q12) = m_X8_reads_23 (m_X8_reads_L2_2 n2) (m_X8_reads_L31_13 (m_X8_reads_L2_2 n2) n13) ((m_X8_letter (AB ad Fl13))).2 (nI q12) ((m_X8_letter (AB ad Fl13))).1 from rfl).trans (congr (congr (congrArg (m_X8_reads_23 (m_X8_reads_L2_2 n2) (m_X8_reads_L31_13 (m_X8_reads_L2_2 n2) n13)) (congrArg Prod.snd mc22)) (Eq.refl ((nI q12) : Int32))) (congrArg Prod.fst mc22)))
            refine lv_if_lt (tgt := 51) S.1 S.2.1 dX8_reads_35 (by decide) (fun c25 => ?_) (fun c25 => ?_)
            · skip
              have k26 := ci_lt rfl z_ti c25
              refine lv_iconst (v := (nI 1)) S.1 S.2.1 dX8_reads_51 (by decide +kernel) ?_
              have hE27 : M = ((nI 1), AB ad F18) := hE24.trans ((show m_X8_reads_23 (m_X8_reads_L2_2 n2) (m_X8_reads_L31_13 (m_X8_reads_L2_2 n2) n13) (AB ad F18) (nI q12) r18 = ((nI 1), (AB ad F18)) from by unfold m_X8_reads_23; rw [if_pos (lt_cg rfl rfl c25)]).trans (congrArg (fun q => (q, AB ad F18)) rfl))
              exact hret 52 _ _ _ _ _ dX8_reads_52 rfl hP18 hS18 ⟨hW18, hFr18, ⟨⟨1, by omega, rfl⟩, hM.symm.trans hE27⟩⟩
            have k28 := ci_nlt rfl z_ti c25
            refine lv_aload_n S.1 S.2.1 dX8_reads_38 rfl (lv_at hl13 1 rfl) ?_
            refine lv_aload_n S.1 S.2.1 dX8_reads_39 rfl (lv_at hl13 1 rfl) ?_
            have hA29 := fN_of (k := 14) (a := at20) hF20 rfl (Nat.lt_of_le_of_lt hb20_5 (by decide))
            have hL29 := fN_of (k := 1) (a := ty20) hF20 rfl (Nat.lt_of_le_of_lt hb20_1 (by decide))
            refine r_cVi (As := []) (rest := [.ref (ad 58)]) S hK hZ hP18 hS18 hl13.1 58 (by decide) hF20 (C := RX8) rfl (c_X8_letter l D cA ad t hI F18 hW18 ) (cwV 0 S.2.2.2.2 gX8_reads_X8_letter rfl rfl rfl (by decide +kernel) ⟨Nat.le_of_ble_eq_true rfl, Nat.le_of_ble_eq_true rfl⟩) rfl rfl (Nat.le_of_ble_eq_true rfl) ⟨Nat.zero_le _, Nat.zero_le _⟩ dX8_reads_40 (fun r30 F30 H30 locs30 hr30 hP30 hS30 => ?_)
            obtain ⟨hW30, hFc30, hr30⟩ := hr30
            obtain ⟨hr30, hm30⟩ := hr30
            have hFr30 := hFr18.tr hFc30 (by simp <;> first | omega | (simp only [isC, isJ] at *; omega))
            obtain ⟨hx31, hy31, hz31⟩ := hr30
            obtain ⟨ty32, kn32, no32, en32, at32, sa32, sd32, wr32, pl32, va32, hF32, hb32_1, hb32_2, hb32_3, hb32_4, hb32_5, hb32_6⟩ := wt_m hW30
            have hA33 := fN_of (k := 14) (a := at32) hF32 rfl (Nat.lt_of_le_of_lt hb32_5 (by decide))
            have hL33 := fN_of (k := 1) (a := ty32) hF32 rfl (Nat.lt_of_le_of_lt hb32_1 (by decide))
            have mc34 : (m_X8_letter (AB ad F18)) = (r30, AB ad F30) := (Eq.refl (m_X8_letter (AB ad F18))).trans hm30
            have hE36 : M = m_X8_reads_35 (m_X8_reads_L2_2 n2) (m_X8_reads_L31_13 (m_X8_reads_L2_2 n2) n13) (AB ad F30) (nI q12) r30 := hE24.trans ((show m_X8_reads_23 (m_X8_reads_L2_2 n2) (m_X8_reads_L31_13 (m_X8_reads_L2_2 n2) n13) (AB ad F18) (nI q12) r18 = m_X8_reads_35 (m_X8_reads_L2_2 n2) (m_X8_reads_L31_13 (m_X8_reads_L2_2 n2) n13) ((m_X8_letter (AB ad F18))).2 (nI q12) ((m_X8_letter (AB ad F18))).1 from by unfold m_X8_reads_23; rw [if_neg (nlt_cg rfl rfl c25)]).trans (congr (congr (congrArg (m_X8_reads_35 (m_X8_reads_L2_2 n2) (m_X8_reads_L31_13 (m_X8_reads_L2_2 n2) n13)) (congrArg Prod.snd mc34)) (Eq.refl ((nI q12) : Int32))) (congrArg Prod.fst mc34)))
            have hA37 := fN_of (k := 14) (a := at32) hF32 rfl (Nat.lt_of_le_of_lt hb32_5 (by decide))
            have hL37 := fN_of (k := 1) (a := ty32) hF32 rfl (Nat.lt_of_le_of_lt hb32_1 (by decide))
            refine r_cVi (As := [.int r30]) (rest := []) S hK hZ hP30 hS30 hl13.1 58 (by decide) hF32 (C := RX8) rfl (c_X8_readsClause l D cA ad t hI F30 hW30 r30 (hx31)) (cwV 1 S.2.2.2.2 gX8_reads_X8_readsClause rfl rfl rfl (by decide +kernel) ⟨Nat.le_of_ble_eq_true rfl, Nat.le_of_ble_eq_true rfl⟩) rfl rfl (Nat.le_of_ble_eq_true rfl) ⟨Nat.zero_le _, Nat.zero_le _⟩ dX8_reads_43 (fun r38 F38 H38 locs38 hr38 hP38 hS38 => ?_)
            obtain ⟨hW38, hFc38, hr38⟩ := hr38
            obtain ⟨hr38, hm38⟩ := hr38
            have hFr38 := hFr30.tr hFc38 (by simp <;> first | omega | (simp only [isC, isJ] at *; omega))
            obtain ⟨⟨b39, hb39, rfl⟩, hz39, hx39⟩ := hr38
            obtain ⟨ty40, kn40, no40, en40, at40, sa40, sd40, wr40, pl40, va40, hF40, hb40_1, hb40_2, hb40_3, hb40_4, hb40_5, hb40_6⟩ := wt_m hW38
            have hA41 := fN_of (k := 14) (a := at40) hF40 rfl (Nat.lt_of_le_of_lt hb40_5 (by decide))
            have hL41 := fN_of (k := 1) (a := ty40) hF40 rfl (Nat.lt_of_le_of_lt hb40_1 (by decide))
            have hy39 : b39 ≠ 0 → _ := fun q => hx39 (nI_ne0 (by omega) (by omega))
            have mc42 : (m_X8_readsClause (AB ad F30) r30) = ((nI b39), AB ad F38) := (congr (Eq.refl (m_X8_readsClause (AB ad F30))) (Eq.refl (r30 : Int32))).trans hm38
            have hE44 : M = m_X8_reads_43 (m_X8_reads_L2_2 n2) (m_X8_reads_L31_13 (m_X8_reads_L2_2 n2) n13) (AB ad F38) (nI q12) (nI b39) := hE36.trans ((show m_X8_reads_35 (m_X8_reads_L2_2 n2) (m_X8_reads_L31_13 (m_X8_reads_L2_2 n2) n13) (AB ad F30) (nI q12) r30 = m_X8_reads_43 (m_X8_reads_L2_2 n2) (m_X8_reads_L31_13 (m_X8_reads_L2_2 n2) n13) ((m_X8_readsClause (AB ad F30) r30)).2 (nI q12) ((m_X8_readsClause (AB ad F30) r30)).1 from rfl).trans (congr (congr (congrArg (m_X8_reads_43 (m_X8_reads_L2_2 n2) (m_X8_reads_L31_13 (m_X8_reads_L2_2 n2) n13)) (congrArg Prod.snd mc42)) (Eq.refl ((nI q12) : Int32))) (congrArg Prod.fst mc42)))
            refine lv_if_ne (tgt := 31) S.1 S.2.1 dX8_reads_46 (by decide) (fun c45 => ?_) (fun c45 => ?_)
            · skip
              have k46 := ci_ne (nI_toInt (n := b39) (Nat.lt_of_le_of_lt hb39 (by decide))) z_ti c45
              have hA47 := fN_of (k := 14) (a := at40) hF40 rfl (Nat.lt_of_le_of_lt hb40_5 (by decide))
              have hL47 := fN_of (k := 1) (a := ty40) hF40 rfl (Nat.lt_of_le_of_lt hb40_1 (by decide))
              have hE48 : M = (m_X8_reads_L31_13 (m_X8_reads_L2_2 n2) n13) (AB ad F38) (nI q12) := hE44.trans ((show m_X8_reads_43 (m_X8_reads_L2_2 n2) (m_X8_reads_L31_13 (m_X8_reads_L2_2 n2) n13) (AB ad F38) (nI q12) (nI b39) = (m_X8_reads_L31_13 (m_X8_reads_L2_2 n2) n13) (AB ad F38) (nI q12) from by unfold m_X8_reads_43; rw [if_neg (neq_cg rfl rfl c45)]).trans (congr (congrArg ((m_X8_reads_L31_13 (m_X8_reads_L2_2 n2) n13)) (rfl : AB ad F38 = AB ad F38)) (Eq.refl ((nI q12) : Int32))))
              exact ih13 F38 H38 locs38 (by omega) hW38 hFr38 hP38 hS38 hE48 ls13 (lv_sub hl13 [0, 1] rfl)
            have k49 := ci_eq (nI_toInt (n := b39) (Nat.lt_of_le_of_lt hb39 (by decide))) z_ti c45
            refine lv_iconst (v := (nI 0)) S.1 S.2.1 dX8_reads_49 (by decide +kernel) ?_
            have hE50 : M = ((nI 0), AB ad F38) := hE44.trans ((show m_X8_reads_43 (m_X8_reads_L2_2 n2) (m_X8_reads_L31_13 (m_X8_reads_L2_2 n2) n13) (AB ad F38) (nI q12) (nI b39) = ((nI 0), (AB ad F38)) from by unfold m_X8_reads_43; rw [if_pos (eq_cg rfl rfl c45)]).trans (congrArg (fun q => (q, AB ad F38)) rfl))
            exact hret 50 _ _ _ _ _ dX8_reads_50 rfl hP38 hS38 ⟨hW38, hFr38, ⟨⟨0, by omega, rfl⟩, hM.symm.trans hE50⟩⟩
        have hE51 : M = m_X8_reads_L31_13 (m_X8_reads_L2_2 n2) 2000 (AB ad F10) (nI q12) := hE12.trans ((show m_X8_reads_11 (m_X8_reads_L2_2 n2) (AB ad F10) (nI q12) = m_X8_reads_L31_13 (m_X8_reads_L2_2 n2) 2000 (AB ad F10) (nI q12) from rfl).trans (congr (congrArg (m_X8_reads_L31_13 (m_X8_reads_L2_2 n2) 2000) (rfl : AB ad F10 = AB ad F10)) (Eq.refl ((nI q12) : Int32))))
        exact lp13 2000 F10 H10 locs10 (by omega) hW10 hFr10 hP10 hS10 hE51 ls2 (lv_sub hl2 [0, 1] rfl)
      have k52 := ci_nle (nI_toInt (n := 52) (by decide)) (nI_toInt (n := q12) (by omega)) c4
      refine lv_aload_n S.1 S.2.1 dX8_reads_8 rfl (lv_at hl2 1 rfl) ?_
      obtain ⟨ty53, kn53, no53, en53, at53, sa53, sd53, wr53, pl53, va53, hF53, hb53_1, hb53_2, hb53_3, hb53_4, hb53_5, hb53_6⟩ := wt_m hWl2
      refine r_get S hK hPl2 58 (by decide) hF53 (C := RX8) (T := TX8) (N := 23) hiX8 rfl 3 (by decide) (am_at in_wsX8_reads_0 0 rfl) (v := .ref (ad 61)) rfl dX8_reads_9 ?_
      refine lv_iload_n S.1 S.2.1 dX8_reads_12 rfl (lv_at hl2 0 rfl) ?_
      refine lv_iconst (v := (nI 0)) S.1 S.2.1 dX8_reads_13 (by decide +kernel) ?_
      obtain ⟨g54, hF54, hg54⟩ := wt_I hWl2 (show (61, 52) ∈ rLI by decide)
      refine r_iast S hI hK hPl2 hSl2 61 (by decide) hF54 (vp_in_nI (show q12 < 52 by omega) (by omega)) dX8_reads_14 (fun F55 H55 locs55 eF55 hP55 hS55 => ?_)
      have hW55 := hWl2.up eF55 (ok_I (show (61, 52) ∈ rLI by decide) (okI_up hg54 (by rw [nI_clamp (by omega)]; exact to_T (by decide) (okT_z _))))
      have hFr55 := hFl2.up eF55 (by simp <;> first | omega | (simp only [isC, isJ] at *; omega))
      have hE57 : M = m_X8_reads_56 (m_X8_reads_L2_2 n2) (AB ad F55) (nI q12) := hE3.trans ((show m_X8_reads_L2_2_b (m_X8_reads_L2_2 n2) (AB ad Fl2) (nI q12) = m_X8_reads_56 (m_X8_reads_L2_2 n2) (st (AB ad Fl2) 61 (rl (nI q12)) (nI 0)) (nI q12) from by unfold m_X8_reads_L2_2_b; rw [if_neg (nle_cg rfl rfl c4)]).trans (congr (congrArg (m_X8_reads_56 (m_X8_reads_L2_2 n2)) ((st_cg rfl (congrArg rl rfl) rfl).trans (AB_ast hF54 eF55).symm)) (Eq.refl ((nI q12) : Int32))))
      obtain ⟨gg55, eg55⟩ : ∃ g9, g9 = upd g54 (nI q12).toNatClampNeg (nI 0) := ⟨_, rfl⟩
      have hF55 : F55 61 = .inl (cA 0, 52, .inl gg55) := by rw [eF55, eg55]; exact va_up_self _ _ _
      have hg55 : ∀ j, j < 52 → rPr 61 j (gg55 j) := by rw [eg55]; exact pr_up hg54 (by rw [nI_clamp (by omega)]; exact to_T (by decide) (okT_z _))
      have m59 : ((nI q12) + Int32.ofInt (1)) = (nI (q12 + 1)) := (congrArg (fun q : Int32 => q + Int32.ofInt (1)) rfl).trans (nI_add _ 1)
      refine lv_iinc (v := (nI (q12 + 1))) (lv' := [(1, .int (nI (q12 + 1))), (0, .ref (ad 58))]) S.1 S.2.1 dX8_reads_15 hl2 (k := 0) rfl (nI_add _ 1) (by decide) rfl (fun ls58 hl58 => ?_)
      refine lv_goto (tgt := 2) S.1 S.2.1 dX8_reads_18 (by decide) ?_
      have hE60 : M = (m_X8_reads_L2_2 n2) (AB ad F55) (nI (q12 + 1)) := hE57.trans ((show m_X8_reads_56 (m_X8_reads_L2_2 n2) (AB ad F55) (nI q12) = (m_X8_reads_L2_2 n2) (AB ad F55) ((nI q12) + Int32.ofInt (1)) from rfl).trans (congr (congrArg ((m_X8_reads_L2_2 n2)) (rfl : AB ad F55 = AB ad F55)) m59))
      exact ih2 (q12 + 1) F55 H55 locs55 (by omega) (by omega) hW55 hFr55 hP55 hS55 hE60 ls58 (lv_sub hl58 [0, 1] rfl)
  have hE61 : M = m_X8_reads_L2_2 2000 (AB ad F) (nI 0) := hM.trans ((show m_X8_reads (AB ad F) = m_X8_reads_L2_2 2000 (AB ad F) (nI 0) from rfl).trans (congr (congrArg (m_X8_reads_L2_2 2000) (rfl : AB ad F = AB ad F)) (Eq.refl ((nI 0) : Int32))))
  exact lp2 2000 (0) F s.heap [] (by omega) (by omega) hW hFr hP hS hE61 ls1 (lv_sub hl1 [0, 1] rfl)
noncomputable def m_X8_land_90 (k0 : SS → Int32 → Int32 → Int32 × SS) (σ : SS) (a0 : Int32) (a1 : Int32) : Int32 × SS :=
  k0 σ (a0 + Int32.ofInt (1)) a1
noncomputable def m_X8_land_74 (k0 : SS → Int32 → Int32 → Int32 × SS) (k1 : SS → Int32 → Int32 → Int32 × SS) (σ : SS) (a0 : Int32) (a1 : Int32) : Int32 × SS :=
  k1 σ (a0 + Int32.ofInt (1)) a1
noncomputable def m_X8_land_61 (k0 : SS → Int32 → Int32 → Int32 × SS) (k1 : SS → Int32 → Int32 → Int32 × SS) (σ : SS) (a0 : Int32) (a1 : Int32) : Int32 × SS :=
  ((σ 60 (rl (nI 2))), σ)
noncomputable def m_X8_land_56 (k0 : SS → Int32 → Int32 → Int32 × SS) (k1 : SS → Int32 → Int32 → Int32 × SS) (σ : SS) (a0 : Int32) (a1 : Int32) : Int32 × SS :=
  m_X8_land_61 k0 k1 (st σ 65 (rl (nI 1)) (vp_nar .boolean (nI 0))) a0 a1
noncomputable def m_X8_land_52 (k0 : SS → Int32 → Int32 → Int32 × SS) (k1 : SS → Int32 → Int32 → Int32 × SS) (σ : SS) (a0 : Int32) (a1 : Int32) : Int32 × SS :=
  m_X8_land_56 k0 k1 (st σ 65 (rl (nI 0)) (vp_nar .boolean (nI 0))) a0 a1
noncomputable def m_X8_land_49 (k0 : SS → Int32 → Int32 → Int32 × SS) (k1 : SS → Int32 → Int32 → Int32 × SS) (σ : SS) (a0 : Int32) (a1 : Int32) : Int32 × SS :=
  m_X8_land_52 k0 k1 (st σ 58 13 (nI 0)) a0 a1
noncomputable def m_X8_land_46 (k0 : SS → Int32 → Int32 → Int32 × SS) (k1 : SS → Int32 → Int32 → Int32 × SS) (σ : SS) (a0 : Int32) (a1 : Int32) : Int32 × SS :=
  m_X8_land_49 k0 k1 (st σ 58 11 (nI 0)) a0 a1
noncomputable def m_X8_land_L66_39_b (k0 : SS → Int32 → Int32 → Int32 × SS) (k1 : SS → Int32 → Int32 → Int32 × SS) (σ : SS) (a0 : Int32) (a1 : Int32) : Int32 × SS :=
  if (nI 7) ≤ a0 then
    m_X8_land_46 k0 k1 (st σ 58 6 (nI 0)) a0 a1
  else
    m_X8_land_74 k0 k1 (st σ 62 (rl a0) (nI 0)) a0 a1
noncomputable def m_X8_land_L66_39 (k0 : SS → Int32 → Int32 → Int32 × SS) : Nat → SS → Int32 → Int32 → Int32 × SS
  | 0 => fun σ _ _ => (0, σ)
  | n + 1 => m_X8_land_L66_39_b k0 (m_X8_land_L66_39 k0 n)
noncomputable def m_X8_land_L40_32_b (k0 : SS → Int32 → Int32 → Int32 × SS) (σ : SS) (a0 : Int32) (a1 : Int32) : Int32 × SS :=
  if (nI 52) ≤ a0 then
    m_X8_land_L66_39 k0 2000 σ (nI 0) a1
  else
    m_X8_land_90 k0 (st σ 60 (rl a0) (σ 61 (rl a0))) a0 a1
noncomputable def m_X8_land_L40_32 : Nat → SS → Int32 → Int32 → Int32 × SS
  | 0 => fun σ _ _ => (0, σ)
  | n + 1 => m_X8_land_L40_32_b (m_X8_land_L40_32 n)
noncomputable def m_X8_land_27 (σ : SS) (a0 : Int32) : Int32 × SS :=
  m_X8_land_L40_32 2000 σ (nI 0) a0
noncomputable def m_X8_land_16 (σ : SS) (a0 : Int32) : Int32 × SS :=
  ((((-10) : Int32) - (σ 58 15)), σ)
noncomputable def m_X8_land_10 (σ : SS) (a0 : Int32) : Int32 × SS :=
  if a0 = (0 : Int32) then
    m_X8_land_16 (st σ 58 16 (σ 58 14)) a0
  else
    m_X8_land_27 (st σ 58 16 ((-1) : Int32)) a0
noncomputable def m_X8_land_5 (σ : SS) (a0 : Int32) : Int32 × SS :=
  m_X8_land_10 (st σ 58 1 (nI 0)) a0
noncomputable def m_X8_land (σ : SS) : Int32 × SS :=
  m_X8_land_5 ((m_X8_reads σ)).2 ((m_X8_reads σ)).1
set_option maxHeartbeats 4000000 in
set_option maxRecDepth 100000 in
theorem c_X8_land (l : Launch) (D : va_G) (cA ad : Nat → Nat) (t : Nat) (hI : rI ad) (F : Nat → va_E) (hW : WT cA ad F) : MI l D cA ad t yX8_land wsX8_land { frames := 5, cells := 0, slots := 0, locals := 114 } [.ref (ad 58)] F (fun r F' => WT cA ad F' ∧ rFr [58, 60, 61, 62, 65] F F' ∧ ((fN (F' 58) 1 = 0) ∧ m_X8_land (AB ad F) = (r, AB ad F'))) := by
  refine en_I rfl (by decide +kernel) (Nat.le_of_ble_eq_true rfl) ?_
  intro p e s m args below meth c ls0 Q S hK hZ hP hS hl0 hret
  have hl0 : lv_has ls0 3 [(0, .ref (ad 58))] := hl0
  have hFr : rFr [58, 60, 61, 62, 65] F F := rFr.rf
  have hiX8 : ∀ w ∈ u_ws RX8 TX8 23, w ∈ wsX8_land := in_wsX8_land_3
  obtain ⟨M, hM⟩ : ∃ M, M = m_X8_land (AB ad F) := ⟨_, rfl⟩
  refine lv_aload_n S.1 S.2.1 dX8_land_0 rfl (lv_at hl0 0 rfl) ?_
  obtain ⟨ty2, kn2, no2, en2, at2, sa2, sd2, wr2, pl2, va2, hF2, hb2_1, hb2_2, hb2_3, hb2_4, hb2_5, hb2_6⟩ := wt_m hW
  refine r_cVi (As := []) (rest := []) S hK hZ hP hS hl0.1 58 (by decide) hF2 (C := RX8) rfl (c_X8_reads l D cA ad t hI F hW ) (cwV 0 S.2.2.2.2 gX8_land_X8_reads rfl rfl rfl (by decide +kernel) ⟨Nat.le_of_ble_eq_true rfl, Nat.le_of_ble_eq_true rfl⟩) rfl rfl (Nat.le_of_ble_eq_true rfl) ⟨Nat.zero_le _, Nat.zero_le _⟩ dX8_land_1 (fun r1 F1 H1 locs1 hr1 hP1 hS1 => ?_)
  obtain ⟨hW1, hFc1, hr1⟩ := hr1
  obtain ⟨hr1, hm1⟩ := hr1
  have hFr1 := hFr.tr hFc1 (by simp <;> first | omega | (simp only [isC, isJ] at *; omega))
  obtain ⟨b3, hb3, rfl⟩ := hr1
  have mc4 : (m_X8_reads (AB ad F)) = ((nI b3), AB ad F1) := (Eq.refl (m_X8_reads (AB ad F))).trans hm1
  have hE6 : M = m_X8_land_5 (AB ad F1) (nI b3) := hM.trans ((show m_X8_land (AB ad F) = m_X8_land_5 ((m_X8_reads (AB ad F))).2 ((m_X8_reads (AB ad F))).1 from rfl).trans (congr (congrArg (m_X8_land_5) (congrArg Prod.snd mc4)) (congrArg Prod.fst mc4)))
  refine lv_istore_n (lv' := [(1, .int (nI b3)), (0, .ref (ad 58))]) S.1 S.2.1 dX8_land_4 rfl hl0 (by decide) rfl (fun ls7 hl7 => ?_)
  refine lv_aload_n S.1 S.2.1 dX8_land_5 rfl (lv_at hl7 1 rfl) ?_
  refine lv_iconst (v := (nI 0)) S.1 S.2.1 dX8_land_6 (by decide +kernel) ?_
  obtain ⟨ty8, kn8, no8, en8, at8, sa8, sd8, wr8, pl8, va8, hF8, hb8_1, hb8_2, hb8_3, hb8_4, hb8_5, hb8_6⟩ := wt_m hW1
  refine r_put S hI hK hP1 hS1 58 (by decide) hF8 (C := RX8) (T := TX8) (N := 23) hiX8 tyX8_ok nmX8 rfl 1 (by decide) (am_at in_wsX8_land_0 0 rfl) rfl rfl rfl (Nat.le_of_ble_eq_true rfl) dX8_land_7 (fun F9 H9 locs9 eF9 hP9 hS9 => ?_)
  have hF9 : F9 58 = .inr (8, [.ref (ad 59), .int (nI 0), .ref (ad 60), .ref (ad 61), .ref (ad 62), .ref (ad 63), .int (nI kn8), .ref (ad 64), .ref (ad 65), .int sd8, .ref (ad 66), .int (nI no8), .ref (ad 67), .int (nI en8), .int (nI at8), .int wr8, .int pl8, .int va8, .int (nI sa8), .ref (ad 68), .ref (ad 69), .ref (ad 70), .ref (ad 71)]) := by rw [eF9]; exact va_up_self _ _ _
  have hW9 := hW1.up eF9 (ok_m ⟨0, kn8, no8, en8, at8, sa8, sd8, wr8, pl8, va8, rfl, by omega, by omega, by omega, by omega, by omega, by omega⟩)
  have hFr9 := hFr1.up eF9 (by simp <;> first | omega | (simp only [isC, isJ] at *; omega))
  have hE11 : M = m_X8_land_10 (AB ad F9) (nI b3) := hE6.trans ((show m_X8_land_5 (AB ad F1) (nI b3) = m_X8_land_10 (st (AB ad F1) 58 1 (nI 0)) (nI b3) from rfl).trans (congr (congrArg (m_X8_land_10) ((st_cg rfl rfl rfl).trans (AB_put hF8 (Nat.le_of_ble_eq_true rfl) eF9).symm)) (Eq.refl ((nI b3) : Int32))))
  refine lv_aload_n S.1 S.2.1 dX8_land_10 rfl (lv_at hl7 1 rfl) ?_
  refine lv_iload_n S.1 S.2.1 dX8_land_11 rfl (lv_at hl7 0 rfl) ?_
  refine lv_if_eq (tgt := 19) S.1 S.2.1 dX8_land_12 (by decide) (fun c12 => ?_) (fun c12 => ?_)
  · skip
    have k13 := ci_eq (nI_toInt (n := b3) (Nat.lt_of_le_of_lt hb3 (by decide))) z_ti c12
    refine lv_aload_n S.1 S.2.1 dX8_land_19 rfl (lv_at hl7 1 rfl) ?_
    refine r_get S hK hP9 58 (by decide) hF9 (C := RX8) (T := TX8) (N := 23) hiX8 rfl 14 (by decide) (am_at in_wsX8_land_0 1 rfl) (v := .int (nI at8)) rfl dX8_land_20 ?_
    have m14 : ((AB ad F9) 58 14) = (nI at8) := AB_f hF9 rfl
    refine r_put S hI hK hP9 hS9 58 (by decide) hF9 (C := RX8) (T := TX8) (N := 23) hiX8 tyX8_ok nmX8 rfl 16 (by decide) (am_at in_wsX8_land_0 2 rfl) rfl rfl rfl (Nat.le_of_ble_eq_true rfl) dX8_land_23 (fun F15 H15 locs15 eF15 hP15 hS15 => ?_)
    have hF15 : F15 58 = .inr (8, [.ref (ad 59), .int (nI 0), .ref (ad 60), .ref (ad 61), .ref (ad 62), .ref (ad 63), .int (nI kn8), .ref (ad 64), .ref (ad 65), .int sd8, .ref (ad 66), .int (nI no8), .ref (ad 67), .int (nI en8), .int (nI at8), .int wr8, .int (nI at8), .int va8, .int (nI sa8), .ref (ad 68), .ref (ad 69), .ref (ad 70), .ref (ad 71)]) := by rw [eF15]; exact va_up_self _ _ _
    have hW15 := hW9.up eF15 (ok_m ⟨0, kn8, no8, en8, at8, sa8, sd8, wr8, (nI at8), va8, rfl, by omega, by omega, by omega, by omega, by omega, by omega⟩)
    have hFr15 := hFr9.up eF15 (by simp <;> first | omega | (simp only [isC, isJ] at *; omega))
    have hE17 : M = m_X8_land_16 (AB ad F15) (nI b3) := hE11.trans ((show m_X8_land_10 (AB ad F9) (nI b3) = m_X8_land_16 (st (AB ad F9) 58 16 ((AB ad F9) 58 14)) (nI b3) from by unfold m_X8_land_10; rw [if_pos (eq_cg rfl rfl c12)]).trans (congr (congrArg (m_X8_land_16) ((st_cg rfl rfl m14).trans (AB_put hF9 (Nat.le_of_ble_eq_true rfl) eF15).symm)) (Eq.refl ((nI b3) : Int32))))
    refine lv_iload_n S.1 S.2.1 dX8_land_26 rfl (lv_at hl7 0 rfl) ?_
    refine lv_if_ne (tgt := 38) S.1 S.2.1 dX8_land_27 (by decide) (fun c18 => absurd c12 c18) (fun c18 => ?_)
    have k19 := ci_eq (nI_toInt (n := b3) (Nat.lt_of_le_of_lt hb3 (by decide))) z_ti c18
    refine lv_bipush (v := (-10)) S.1 S.2.1 dX8_land_30 (by decide +kernel) ?_
    refine lv_aload_n S.1 S.2.1 dX8_land_32 rfl (lv_at hl7 1 rfl) ?_
    refine r_get S hK hP15 58 (by decide) hF15 (C := RX8) (T := TX8) (N := 23) hiX8 rfl 15 (by decide) (am_at in_wsX8_land_0 3 rfl) (v := .int wr8) rfl dX8_land_33 ?_
    have m20 : ((AB ad F15) 58 15) = wr8 := AB_f hF15 rfl
    refine lv_isub S.1 S.2.1 dX8_land_36 ?_
    refine lv_topi (fun v21 e21 => ?_)
    have m22 : (((-10) : Int32) - ((AB ad F15) 58 15)) = v21 := cg2 (fun (x : Int32) (y : Int32) => x - y) (Eq.refl ((-10) : Int32)) m20 e21
    have hA23 := fN_of (k := 14) (a := at8) hF15 rfl (Nat.lt_of_le_of_lt hb8_5 (by decide))
    have hL23 := fN_of (k := 1) (a := 0) hF15 rfl (by omega)
    have hE24 : M = (v21, AB ad F15) := hE17.trans ((show m_X8_land_16 (AB ad F15) (nI b3) = ((((-10) : Int32) - ((AB ad F15) 58 15)), (AB ad F15)) from rfl).trans (congrArg (fun q => (q, AB ad F15)) m22))
    exact hret 37 _ _ _ _ _ dX8_land_37 rfl hP15 hS15 ⟨hW15, hFr15, ⟨by omega, hM.symm.trans hE24⟩⟩
  have k25 := ci_ne (nI_toInt (n := b3) (Nat.lt_of_le_of_lt hb3 (by decide))) z_ti c12
  refine lv_iconst (v := (-1)) S.1 S.2.1 dX8_land_15 (by decide +kernel) ?_
  refine lv_goto (tgt := 23) S.1 S.2.1 dX8_land_16 (by decide) ?_
  refine r_put S hI hK hP9 hS9 58 (by decide) hF9 (C := RX8) (T := TX8) (N := 23) hiX8 tyX8_ok nmX8 rfl 16 (by decide) (am_at in_wsX8_land_0 2 rfl) rfl rfl rfl (Nat.le_of_ble_eq_true rfl) dX8_land_23 (fun F26 H26 locs26 eF26 hP26 hS26 => ?_)
  have hF26 : F26 58 = .inr (8, [.ref (ad 59), .int (nI 0), .ref (ad 60), .ref (ad 61), .ref (ad 62), .ref (ad 63), .int (nI kn8), .ref (ad 64), .ref (ad 65), .int sd8, .ref (ad 66), .int (nI no8), .ref (ad 67), .int (nI en8), .int (nI at8), .int wr8, .int (-1), .int va8, .int (nI sa8), .ref (ad 68), .ref (ad 69), .ref (ad 70), .ref (ad 71)]) := by rw [eF26]; exact va_up_self _ _ _
  have hW26 := hW9.up eF26 (ok_m ⟨0, kn8, no8, en8, at8, sa8, sd8, wr8, (-1), va8, rfl, by omega, by omega, by omega, by omega, by omega, by omega⟩)
  have hFr26 := hFr9.up eF26 (by simp <;> first | omega | (simp only [isC, isJ] at *; omega))
  have hE28 : M = m_X8_land_27 (AB ad F26) (nI b3) := hE11.trans ((show m_X8_land_10 (AB ad F9) (nI b3) = m_X8_land_27 (st (AB ad F9) 58 16 ((-1) : Int32)) (nI b3) from by unfold m_X8_land_10; rw [if_neg (neq_cg rfl rfl c12)]).trans (congr (congrArg (m_X8_land_27) ((st_cg rfl rfl rfl).trans (AB_put hF9 (Nat.le_of_ble_eq_true rfl) eF26).symm)) (Eq.refl ((nI b3) : Int32))))
  refine lv_iload_n S.1 S.2.1 dX8_land_26 rfl (lv_at hl7 0 rfl) ?_
  refine lv_if_ne (tgt := 38) S.1 S.2.1 dX8_land_27 (by decide) (fun c29 => ?_) (fun c29 => absurd c29 c12)
  have k30 := ci_ne (nI_toInt (n := b3) (Nat.lt_of_le_of_lt hb3 (by decide))) z_ti c29
  refine lv_iconst (v := (nI 0)) S.1 S.2.1 dX8_land_38 (by decide +kernel) ?_
  refine lv_istore_n (lv' := [(2, .int (nI 0)), (1, .int (nI b3)), (0, .ref (ad 58))]) S.1 S.2.1 dX8_land_39 rfl hl7 (by decide) rfl (fun ls31 hl31 => ?_)
  have lp32 : ∀ (n32 : Nat) (q232 : Nat), ∀ (Fl32 : Nat → va_E) (Hl32 : Heap) (lol32 : List Loc), q232 ≤ 52 → fN (Fl32 58) 1 = 0 → 52 - q232 < n32 → WT cA ad Fl32 → rFr [58, 60, 61, 62, 65] F Fl32 → va_P D vwCl (rW ad Fl32) Hl32 → va_S (rA ad) s.heap Hl32 lol32 → M = m_X8_land_L40_32 n32 (AB ad Fl32) (nI q232) (nI b3) → ∀ (ls : Array Slot), lv_has ls 3 [(2, .int (nI q232)), (1, .int (nI b3)), (0, .ref (ad 58))] → W p l e { frames := 5, cells := 0, slots := 0, locals := 114 } s m args below meth c Hl32 lol32 0 0 Q (F0 m 40 ls []) := by
    intro n32
    induction n32 with
    | zero =>
      intro q232 Fl32 Hl32 lol32 iv32_0 ix32_li hm32 hWl32 hFl32 hPl32 hSl32 hEl32 ls32 hl32
      exact absurd hm32 (Nat.not_lt_zero _)
    | succ n32 ih32 =>
      intro q232 Fl32 Hl32 lol32 iv32_0 ix32_li hm32 hWl32 hFl32 hPl32 hSl32 hEl32 ls32 hl32
      have hE33 : M = m_X8_land_L40_32_b (m_X8_land_L40_32 n32) (AB ad Fl32) (nI q232) (nI b3) := hEl32
      obtain ⟨ty34, kn34, no34, en34, at34, sa34, sd34, wr34, pl34, va34, hF34, hb34_1, hb34_2, hb34_3, hb34_4, hb34_5, hb34_6⟩ := wt_m hWl32
      have hA35 := fN_of (k := 14) (a := at34) hF34 rfl (Nat.lt_of_le_of_lt hb34_5 (by decide))
      have hL35 := fN_of (k := 1) (a := ty34) hF34 rfl (Nat.lt_of_le_of_lt hb34_1 (by decide))
      refine lv_iload_n S.1 S.2.1 dX8_land_40 rfl (lv_at hl32 0 rfl) ?_
      refine lv_bipush (v := (nI 52)) S.1 S.2.1 dX8_land_41 (by decide +kernel) ?_
      refine lv_icmp_ge (tgt := 64) S.1 S.2.1 dX8_land_43 (by decide) (fun c36 => ?_) (fun c36 => ?_)
      · skip
        have k37 := ci_le (nI_toInt (n := 52) (by decide)) (nI_toInt (n := q232) (by omega)) c36
        refine lv_iconst (v := (nI 0)) S.1 S.2.1 dX8_land_64 (by decide +kernel) ?_
        refine lv_istore_n (lv' := [(2, .int (nI 0)), (1, .int (nI b3)), (0, .ref (ad 58))]) S.1 S.2.1 dX8_land_65 rfl hl32 (by decide) rfl (fun ls38 hl38 => ?_)
        have lp39 : ∀ (n39 : Nat) (q239 : Nat), ∀ (Fl39 : Nat → va_E) (Hl39 : Heap) (lol39 : List Loc), q239 ≤ 7 → fN (Fl39 58) 1 = 0 → 7 - q239 < n39 → WT cA ad Fl39 → rFr [58, 60, 61, 62, 65] F Fl39 → va_P D vwCl (rW ad Fl39) Hl39 → va_S (rA ad) s.heap Hl39 lol39 → M = m_X8_land_L66_39 (m_X8_land_L40_32 n32) n39 (AB ad Fl39) (nI q239) (nI b3) → ∀ (ls : Array Slot), lv_has ls 3 [(2, .int (nI q239)), (1, .int (nI b3)), (0, .ref (ad 58))] → W p l e { frames := 5, cells := 0, slots := 0, locals := 114 } s m args below meth c Hl39 lol39 0 0 Q (F0 m 66 ls []) := by
          intro n39
          induction n39 with
          | zero =>
            intro q239 Fl39 Hl39 lol39 iv39_0 ix39_li hm39 hWl39 hFl39 hPl39 hSl39 hEl39 ls39 hl39
            exact absurd hm39 (Nat.not_lt_zero _)
          | succ n39 ih39 =>
            intro q239 Fl39 Hl39 lol39 iv39_0 ix39_li hm39 hWl39 hFl39 hPl39 hSl39 hEl39 ls39 hl39
            have hE40 : M = m_X8_land_L66_39_b (m_X8_land_L40_32 n32) (m_X8_land_L66_39 (m_X8_land_L40_32 n32) n39) (AB ad Fl39) (nI q239) (nI b3) := hEl39
            obtain ⟨ty41, kn41, no41, en41, at41, sa41, sd41, wr41, pl41, va41, hF41, hb41_1, hb41_2, hb41_3, hb41_4, hb41_5, hb41_6⟩ := wt_m hWl39
            have hA42 := fN_of (k := 14) (a := at41) hF41 rfl (Nat.lt_of_le_of_lt hb41_5 (by decide))
            have hL42 := fN_of (k := 1) (a := ty41) hF41 rfl (Nat.lt_of_le_of_lt hb41_1 (by decide))
            refine lv_iload_n S.1 S.2.1 dX8_land_66 rfl (lv_at hl39 0 rfl) ?_
            refine lv_bipush (v := (nI 7)) S.1 S.2.1 dX8_land_67 (by decide +kernel) ?_
            refine lv_icmp_ge (tgt := 85) S.1 S.2.1 dX8_land_69 (by decide) (fun c43 => ?_) (fun c43 => ?_)
            · skip
              have k44 := ci_le (nI_toInt (n := 7) (by decide)) (nI_toInt (n := q239) (by omega)) c43
              refine lv_aload_n S.1 S.2.1 dX8_land_85 rfl (lv_at hl39 2 rfl) ?_
              refine lv_iconst (v := (nI 0)) S.1 S.2.1 dX8_land_86 (by decide +kernel) ?_
              refine r_put S hI hK hPl39 hSl39 58 (by decide) hF41 (C := RX8) (T := TX8) (N := 23) hiX8 tyX8_ok nmX8 rfl 6 (by decide) (am_at in_wsX8_land_0 7 rfl) rfl rfl rfl (Nat.le_of_ble_eq_true rfl) dX8_land_87 (fun F45 H45 locs45 eF45 hP45 hS45 => ?_)
              have hF45 : F45 58 = .inr (8, [.ref (ad 59), .int (nI ty41), .ref (ad 60), .ref (ad 61), .ref (ad 62), .ref (ad 63), .int (nI 0), .ref (ad 64), .ref (ad 65), .int sd41, .ref (ad 66), .int (nI no41), .ref (ad 67), .int (nI en41), .int (nI at41), .int wr41, .int pl41, .int va41, .int (nI sa41), .ref (ad 68), .ref (ad 69), .ref (ad 70), .ref (ad 71)]) := by rw [eF45]; exact va_up_self _ _ _
              have hW45 := hWl39.up eF45 (ok_m ⟨ty41, 0, no41, en41, at41, sa41, sd41, wr41, pl41, va41, rfl, by omega, by omega, by omega, by omega, by omega, by omega⟩)
              have hFr45 := hFl39.up eF45 (by simp <;> first | omega | (simp only [isC, isJ] at *; omega))
              have hE47 : M = m_X8_land_46 (m_X8_land_L40_32 n32) (m_X8_land_L66_39 (m_X8_land_L40_32 n32) n39) (AB ad F45) (nI q239) (nI b3) := hE40.trans ((show m_X8_land_L66_39_b (m_X8_land_L40_32 n32) (m_X8_land_L66_39 (m_X8_land_L40_32 n32) n39) (AB ad Fl39) (nI q239) (nI b3) = m_X8_land_46 (m_X8_land_L40_32 n32) (m_X8_land_L66_39 (m_X8_land_L40_32 n32) n39) (st (AB ad Fl39) 58 6 (nI 0)) (nI q239) (nI b3) from by unfold m_X8_land_L66_39_b; rw [if_pos (le_cg rfl rfl c43)]).trans (congr (congr (congrArg (m_X8_land_46 (m_X8_land_L40_32 n32) (m_X8_land_L66_39 (m_X8_land_L40_32 n32) n39)) ((st_cg rfl rfl rfl).trans (AB_put hF41 (Nat.le_of_ble_eq_true rfl) eF45).symm)) (Eq.refl ((nI q239) : Int32))) (Eq.refl ((nI b3) : Int32))))
              refine lv_aload_n S.1 S.2.1 dX8_land_90 rfl (lv_at hl39 2 rfl) ?_
              refine lv_iconst (v := (nI 0)) S.1 S.2.1 dX8_land_91 (by decide +kernel) ?_
              refine r_put S hI hK hP45 hS45 58 (by decide) hF45 (C := RX8) (T := TX8) (N := 23) hiX8 tyX8_ok nmX8 rfl 11 (by decide) (am_at in_wsX8_land_0 8 rfl) rfl rfl rfl (Nat.le_of_ble_eq_true rfl) dX8_land_92 (fun F48 H48 locs48 eF48 hP48 hS48 => ?_)
              have hF48 : F48 58 = .inr (8, [.ref (ad 59), .int (nI ty41), .ref (ad 60), .ref (ad 61), .ref (ad 62), .ref (ad 63), .int (nI 0), .ref (ad 64), .ref (ad 65), .int sd41, .ref (ad 66), .int (nI 0), .ref (ad 67), .int (nI en41), .int (nI at41), .int wr41, .int pl41, .int va41, .int (nI sa41), .ref (ad 68), .ref (ad 69), .ref (ad 70), .ref (ad 71)]) := by rw [eF48]; exact va_up_self _ _ _
              have hW48 := hW45.up eF48 (ok_m ⟨ty41, 0, 0, en41, at41, sa41, sd41, wr41, pl41, va41, rfl, by omega, by omega, by omega, by omega, by omega, by omega⟩)
              have hFr48 := hFr45.up eF48 (by simp <;> first | omega | (simp only [isC, isJ] at *; omega))
              have hE50 : M = m_X8_land_49 (m_X8_land_L40_32 n32) (m_X8_land_L66_39 (m_X8_land_L40_32 n32) n39) (AB ad F48) (nI q239) (nI b3) := hE47.trans ((show m_X8_land_46 (m_X8_land_L40_32 n32) (m_X8_land_L66_39 (m_X8_land_L40_32 n32) n39) (AB ad F45) (nI q239) (nI b3) = m_X8_land_49 (m_X8_land_L40_32 n32) (m_X8_land_L66_39 (m_X8_land_L40_32 n32) n39) (st (AB ad F45) 58 11 (nI 0)) (nI q239) (nI b3) from rfl).trans (congr (congr (congrArg (m_X8_land_49 (m_X8_land_L40_32 n32) (m_X8_land_L66_39 (m_X8_land_L40_32 n32) n39)) ((st_cg rfl rfl rfl).trans (AB_put hF45 (Nat.le_of_ble_eq_true rfl) eF48).symm)) (Eq.refl ((nI q239) : Int32))) (Eq.refl ((nI b3) : Int32))))
              refine lv_aload_n S.1 S.2.1 dX8_land_95 rfl (lv_at hl39 2 rfl) ?_
              refine lv_iconst (v := (nI 0)) S.1 S.2.1 dX8_land_96 (by decide +kernel) ?_
              refine r_put S hI hK hP48 hS48 58 (by decide) hF48 (C := RX8) (T := TX8) (N := 23) hiX8 tyX8_ok nmX8 rfl 13 (by decide) (am_at in_wsX8_land_0 9 rfl) rfl rfl rfl (Nat.le_of_ble_eq_true rfl) dX8_land_97 (fun F51 H51 locs51 eF51 hP51 hS51 => ?_)
              have hF51 : F51 58 = .inr (8, [.ref (ad 59), .int (nI ty41), .ref (ad 60), .ref (ad 61), .ref (ad 62), .ref (ad 63), .int (nI 0), .ref (ad 64), .ref (ad 65), .int sd41, .ref (ad 66), .int (nI 0), .ref (ad 67), .int (nI 0), .int (nI at41), .int wr41, .int pl41, .int va41, .int (nI sa41), .ref (ad 68), .ref (ad 69), .ref (ad 70), .ref (ad 71)]) := by rw [eF51]; exact va_up_self _ _ _
              have hW51 := hW48.up eF51 (ok_m ⟨ty41, 0, 0, 0, at41, sa41, sd41, wr41, pl41, va41, rfl, by omega, by omega, by omega, by omega, by omega, by omega⟩)
              have hFr51 := hFr48.up eF51 (by simp <;> first | omega | (simp only [isC, isJ] at *; omega))
              have hE53 : M = m_X8_land_52 (m_X8_land_L40_32 n32) (m_X8_land_L66_39 (m_X8_land_L40_32 n32) n39) (AB ad F51) (nI q239) (nI b3) := hE50.trans ((show m_X8_land_49 (m_X8_land_L40_32 n32) (m_X8_land_L66_39 (m_X8_land_L40_32 n32) n39) (AB ad F48) (nI q239) (nI b3) = m_X8_land_52 (m_X8_land_L40_32 n32) (m_X8_land_L66_39 (m_X8_land_L40_32 n32) n39) (st (AB ad F48) 58 13 (nI 0)) (nI q239) (nI b3) from rfl).trans (congr (congr (congrArg (m_X8_land_52 (m_X8_land_L40_32 n32) (m_X8_land_L66_39 (m_X8_land_L40_32 n32) n39)) ((st_cg rfl rfl rfl).trans (AB_put hF48 (Nat.le_of_ble_eq_true rfl) eF51).symm)) (Eq.refl ((nI q239) : Int32))) (Eq.refl ((nI b3) : Int32))))
              refine lv_aload_n S.1 S.2.1 dX8_land_100 rfl (lv_at hl39 2 rfl) ?_
              refine r_get S hK hP51 58 (by decide) hF51 (C := RX8) (T := TX8) (N := 23) hiX8 rfl 8 (by decide) (am_at in_wsX8_land_0 10 rfl) (v := .ref (ad 65)) rfl dX8_land_101 ?_
              refine lv_iconst (v := (nI 0)) S.1 S.2.1 dX8_land_104 (by decide +kernel) ?_
              refine lv_iconst (v := (nI 0)) S.1 S.2.1 dX8_land_105 (by decide +kernel) ?_
              obtain ⟨g54, hF54⟩ := wt_Z hW51 (show (65, 2) ∈ rLZ by decide)
              refine r_zast S hI hK hP51 hS51 65 (by decide) hF54 (vp_in_nI (show 0 < 2 by omega) (by omega)) dX8_land_106 (fun F55 H55 locs55 eF55 hP55 hS55 => ?_)
              have hW55 := hW51.up eF55 (ok_Z (show (65, 2) ∈ rLZ by decide) ⟨_, rfl⟩)
              have hFr55 := hFr51.up eF55 (by simp <;> first | omega | (simp only [isC, isJ] at *; omega))
              have hE57 : M = m_X8_land_56 (m_X8_land_L40_32 n32) (m_X8_land_L66_39 (m_X8_land_L40_32 n32) n39) (AB ad F55) (nI q239) (nI b3) := hE53.trans ((show m_X8_land_52 (m_X8_land_L40_32 n32) (m_X8_land_L66_39 (m_X8_land_L40_32 n32) n39) (AB ad F51) (nI q239) (nI b3) = m_X8_land_56 (m_X8_land_L40_32 n32) (m_X8_land_L66_39 (m_X8_land_L40_32 n32) n39) (st (AB ad F51) 65 (rl (nI 0)) (vp_nar .boolean (nI 0))) (nI q239) (nI b3) from rfl).trans (congr (congr (congrArg (m_X8_land_56 (m_X8_land_L40_32 n32) (m_X8_land_L66_39 (m_X8_land_L40_32 n32) n39)) ((st_cg rfl (congrArg rl rfl) (congrArg (vp_nar .boolean) rfl)).trans (AB_ast hF54 eF55).symm)) (Eq.refl ((nI q239) : Int32))) (Eq.refl ((nI b3) : Int32))))
              refine lv_aload_n S.1 S.2.1 dX8_land_107 rfl (lv_at hl39 2 rfl) ?_
              have hF58 := (show F55 58 = F51 58 by rw [eF55]; exact va_up_ne _ _ (by decide)).trans hF51
              refine r_get S hK hP55 58 (by decide) hF58 (C := RX8) (T := TX8) (N := 23) hiX8 rfl 8 (by decide) (am_at in_wsX8_land_0 10 rfl) (v := .ref (ad 65)) rfl dX8_land_108 ?_
              refine lv_iconst (v := (nI 1)) S.1 S.2.1 dX8_land_111 (by decide +kernel) ?_
              refine lv_iconst (v := (nI 0)) S.1 S.2.1 dX8_land_112 (by decide +kernel) ?_
              obtain ⟨g59, hF59⟩ := wt_Z hW55 (show (65, 2) ∈ rLZ by decide)
              refine r_zast S hI hK hP55 hS55 65 (by decide) hF59 (vp_in_nI (show 1 < 2 by omega) (by omega)) dX8_land_113 (fun F60 H60 locs60 eF60 hP60 hS60 => ?_)
              have hW60 := hW55.up eF60 (ok_Z (show (65, 2) ∈ rLZ by decide) ⟨_, rfl⟩)
              have hFr60 := hFr55.up eF60 (by simp <;> first | omega | (simp only [isC, isJ] at *; omega))
              have hE62 : M = m_X8_land_61 (m_X8_land_L40_32 n32) (m_X8_land_L66_39 (m_X8_land_L40_32 n32) n39) (AB ad F60) (nI q239) (nI b3) := hE57.trans ((show m_X8_land_56 (m_X8_land_L40_32 n32) (m_X8_land_L66_39 (m_X8_land_L40_32 n32) n39) (AB ad F55) (nI q239) (nI b3) = m_X8_land_61 (m_X8_land_L40_32 n32) (m_X8_land_L66_39 (m_X8_land_L40_32 n32) n39) (st (AB ad F55) 65 (rl (nI 1)) (vp_nar .boolean (nI 0))) (nI q239) (nI b3) from rfl).trans (congr (congr (congrArg (m_X8_land_61 (m_X8_land_L40_32 n32) (m_X8_land_L66_39 (m_X8_land_L40_32 n32) n39)) ((st_cg rfl (congrArg rl rfl) (congrArg (vp_nar .boolean) rfl)).trans (AB_ast hF59 eF60).symm)) (Eq.refl ((nI q239) : Int32))) (Eq.refl ((nI b3) : Int32))))
              refine lv_aload_n S.1 S.2.1 dX8_land_114 rfl (lv_at hl39 2 rfl) ?_
              have hF63 := (show F60 58 = F55 58 by rw [eF60]; exact va_up_ne _ _ (by decide)).trans hF58
              refine r_get S hK hP60 58 (by decide) hF63 (C := RX8) (T := TX8) (N := 23) hiX8 rfl 2 (by decide) (am_at in_wsX8_land_0 4 rfl) (v := .ref (ad 60)) rfl dX8_land_115 ?_
              refine lv_iconst (v := (nI 2)) S.1 S.2.1 dX8_land_118 (by decide +kernel) ?_
              obtain ⟨g64, hF64, hg64⟩ := wt_I hW60 (show (60, 52) ∈ rLI by decide)
              refine r_iald S hK hP60 60 (by decide) hF64 (vp_in_nI (show 2 < 52 by omega) (by omega)) dX8_land_119 ?_
              refine lv_topi (fun v66 e66 => ?_)
              obtain ⟨b67, hb67, he67⟩ := (pr_T (by decide) (hg64 2 (by decide))).2.1 rfl
              obtain rfl : v66 = nI b67 := e66.trans he67
              have m68 : ((AB ad F60) 60 (rl (nI 2))) = (nI b67) := (ab_cg rfl rfl).trans ((AB_g hF64).trans e66.symm)
              have hA69 := fN_of (k := 14) (a := at41) hF63 rfl (Nat.lt_of_le_of_lt hb41_5 (by decide))
              have hL69 := fN_of (k := 1) (a := ty41) hF63 rfl (Nat.lt_of_le_of_lt hb41_1 (by decide))
              have hE70 : M = ((nI b67), AB ad F60) := hE62.trans ((show m_X8_land_61 (m_X8_land_L40_32 n32) (m_X8_land_L66_39 (m_X8_land_L40_32 n32) n39) (AB ad F60) (nI q239) (nI b3) = (((AB ad F60) 60 (rl (nI 2))), (AB ad F60)) from rfl).trans (congrArg (fun q => (q, AB ad F60)) m68))
              exact hret 120 _ _ _ _ _ dX8_land_120 rfl hP60 hS60 ⟨hW60, hFr60, ⟨by omega, hM.symm.trans hE70⟩⟩
            have k71 := ci_nle (nI_toInt (n := 7) (by decide)) (nI_toInt (n := q239) (by omega)) c43
            refine lv_aload_n S.1 S.2.1 dX8_land_72 rfl (lv_at hl39 2 rfl) ?_
            refine r_get S hK hPl39 58 (by decide) hF41 (C := RX8) (T := TX8) (N := 23) hiX8 rfl 4 (by decide) (am_at in_wsX8_land_0 6 rfl) (v := .ref (ad 62)) rfl dX8_land_73 ?_
            refine lv_iload_n S.1 S.2.1 dX8_land_76 rfl (lv_at hl39 0 rfl) ?_
            refine lv_iconst (v := (nI 0)) S.1 S.2.1 dX8_land_77 (by decide +kernel) ?_
            obtain ⟨g72, hF72, hg72⟩ := wt_I hWl39 (show (62, 7) ∈ rLI by decide)
            refine r_iast S hI hK hPl39 hSl39 62 (by decide) hF72 (vp_in_nI (show q239 < 7 by omega) (by omega)) dX8_land_78 (fun F73 H73 locs73 eF73 hP73 hS73 => ?_)
            have hW73 := hWl39.up eF73 (ok_I (show (62, 7) ∈ rLI by decide) (okI_up hg72 (by rw [nI_clamp (by omega)]; exact to_S (okS_z _))))
            have hFr73 := hFl39.up eF73 (by simp <;> first | omega | (simp only [isC, isJ] at *; omega))
            have hE75 : M = m_X8_land_74 (m_X8_land_L40_32 n32) (m_X8_land_L66_39 (m_X8_land_L40_32 n32) n39) (AB ad F73) (nI q239) (nI b3) := hE40.trans ((show m_X8_land_L66_39_b (m_X8_land_L40_32 n32) (m_X8_land_L66_39 (m_X8_land_L40_32 n32) n39) (AB ad Fl39) (nI q239) (nI b3) = m_X8_land_74 (m_X8_land_L40_32 n32) (m_X8_land_L66_39 (m_X8_land_L40_32 n32) n39) (st (AB ad Fl39) 62 (rl (nI q239)) (nI 0)) (nI q239) (nI b3) from by unfold m_X8_land_L66_39_b; rw [if_neg (nle_cg rfl rfl c43)]).trans (congr (congr (congrArg (m_X8_land_74 (m_X8_land_L40_32 n32) (m_X8_land_L66_39 (m_X8_land_L40_32 n32) n39)) ((st_cg rfl (congrArg rl rfl) rfl).trans (AB_ast hF72 eF73).symm)) (Eq.refl ((nI q239) : Int32))) (Eq.refl ((nI b3) : Int32))))
            obtain ⟨gg73, eg73⟩ : ∃ g9, g9 = upd g72 (nI q239).toNatClampNeg (nI 0) := ⟨_, rfl⟩
            have hF73 : F73 62 = .inl (cA 0, 7, .inl gg73) := by rw [eF73, eg73]; exact va_up_self _ _ _
            have hg73 : ∀ j, j < 7 → rPr 62 j (gg73 j) := by rw [eg73]; exact pr_up hg72 (by rw [nI_clamp (by omega)]; exact to_S (okS_z _))
            have m77 : ((nI q239) + Int32.ofInt (1)) = (nI (q239 + 1)) := (congrArg (fun q : Int32 => q + Int32.ofInt (1)) rfl).trans (nI_add _ 1)
            refine lv_iinc (v := (nI (q239 + 1))) (lv' := [(2, .int (nI (q239 + 1))), (1, .int (nI b3)), (0, .ref (ad 58))]) S.1 S.2.1 dX8_land_79 hl39 (k := 0) rfl (nI_add _ 1) (by decide) rfl (fun ls76 hl76 => ?_)
            refine lv_goto (tgt := 66) S.1 S.2.1 dX8_land_82 (by decide) ?_
            have hF78 := (show F73 58 = Fl39 58 by rw [eF73]; exact va_up_ne _ _ (by decide)).trans hF41
            have hA79 := fN_of (k := 14) (a := at41) hF78 rfl (Nat.lt_of_le_of_lt hb41_5 (by decide))
            have hL79 := fN_of (k := 1) (a := ty41) hF78 rfl (Nat.lt_of_le_of_lt hb41_1 (by decide))
            have hE80 : M = (m_X8_land_L66_39 (m_X8_land_L40_32 n32) n39) (AB ad F73) (nI (q239 + 1)) (nI b3) := hE75.trans ((show m_X8_land_74 (m_X8_land_L40_32 n32) (m_X8_land_L66_39 (m_X8_land_L40_32 n32) n39) (AB ad F73) (nI q239) (nI b3) = (m_X8_land_L66_39 (m_X8_land_L40_32 n32) n39) (AB ad F73) ((nI q239) + Int32.ofInt (1)) (nI b3) from rfl).trans (congr (congr (congrArg ((m_X8_land_L66_39 (m_X8_land_L40_32 n32) n39)) (rfl : AB ad F73 = AB ad F73)) m77) (Eq.refl ((nI b3) : Int32))))
            exact ih39 (q239 + 1) F73 H73 locs73 (by omega) (by omega) (by omega) hW73 hFr73 hP73 hS73 hE80 ls76 (lv_sub hl76 [0, 1, 2] rfl)
        have hA81 := fN_of (k := 14) (a := at34) hF34 rfl (Nat.lt_of_le_of_lt hb34_5 (by decide))
        have hL81 := fN_of (k := 1) (a := ty34) hF34 rfl (Nat.lt_of_le_of_lt hb34_1 (by decide))
        have hE82 : M = m_X8_land_L66_39 (m_X8_land_L40_32 n32) 2000 (AB ad Fl32) (nI 0) (nI b3) := hE33.trans ((show m_X8_land_L40_32_b (m_X8_land_L40_32 n32) (AB ad Fl32) (nI q232) (nI b3) = m_X8_land_L66_39 (m_X8_land_L40_32 n32) 2000 (AB ad Fl32) (nI 0) (nI b3) from by unfold m_X8_land_L40_32_b; rw [if_pos (le_cg rfl rfl c36)]).trans (congr (congr (congrArg (m_X8_land_L66_39 (m_X8_land_L40_32 n32) 2000) (rfl : AB ad Fl32 = AB ad Fl32)) (Eq.refl ((nI 0) : Int32))) (Eq.refl ((nI b3) : Int32))))
        exact lp39 2000 (0) Fl32 Hl32 lol32 (by omega) (by omega) (by omega) hWl32 hFl32 hPl32 hSl32 hE82 ls38 (lv_sub hl38 [0, 1, 2] rfl)
      have k83 := ci_nle (nI_toInt (n := 52) (by decide)) (nI_toInt (n := q232) (by omega)) c36
      refine lv_aload_n S.1 S.2.1 dX8_land_46 rfl (lv_at hl32 2 rfl) ?_
      refine r_get S hK hPl32 58 (by decide) hF34 (C := RX8) (T := TX8) (N := 23) hiX8 rfl 2 (by decide) (am_at in_wsX8_land_0 4 rfl) (v := .ref (ad 60)) rfl dX8_land_47 ?_
      refine lv_iload_n S.1 S.2.1 dX8_land_50 rfl (lv_at hl32 0 rfl) ?_
      refine lv_aload_n S.1 S.2.1 dX8_land_51 rfl (lv_at hl32 2 rfl) ?_
      refine r_get S hK hPl32 58 (by decide) hF34 (C := RX8) (T := TX8) (N := 23) hiX8 rfl 3 (by decide) (am_at in_wsX8_land_0 5 rfl) (v := .ref (ad 61)) rfl dX8_land_52 ?_
      refine lv_iload_n S.1 S.2.1 dX8_land_55 rfl (lv_at hl32 0 rfl) ?_
      obtain ⟨g84, hF84, hg84⟩ := wt_I hWl32 (show (61, 52) ∈ rLI by decide)
      refine r_iald S hK hPl32 61 (by decide) hF84 (vp_in_nI (show q232 < 52 by omega) (by omega)) dX8_land_56 ?_
      refine lv_topi (fun v86 e86 => ?_)
      have m87 : ((AB ad Fl32) 61 (rl (nI q232))) = v86 := (ab_cg rfl rfl).trans ((AB_g hF84).trans e86.symm)
      obtain ⟨g88, hF88, hg88⟩ := wt_I hWl32 (show (60, 52) ∈ rLI by decide)
      refine r_iast S hI hK hPl32 hSl32 60 (by decide) hF88 (vp_in_nI (show q232 < 52 by omega) (by omega)) dX8_land_57 (fun F89 H89 locs89 eF89 hP89 hS89 => ?_)
      have hW89 := hWl32.up eF89 (ok_I (show (60, 52) ∈ rLI by decide) (okI_up hg88 (by rw [nI_clamp (by omega)]; apply to_T (by decide); rw [e86, nI_clamp (by omega)]; exact okT_cg (by omega) (pr_T (by decide) (hg84 (q232) (by omega))))))
      have hFr89 := hFl32.up eF89 (by simp <;> first | omega | (simp only [isC, isJ] at *; omega))
      have hE91 : M = m_X8_land_90 (m_X8_land_L40_32 n32) (AB ad F89) (nI q232) (nI b3) := hE33.trans ((show m_X8_land_L40_32_b (m_X8_land_L40_32 n32) (AB ad Fl32) (nI q232) (nI b3) = m_X8_land_90 (m_X8_land_L40_32 n32) (st (AB ad Fl32) 60 (rl (nI q232)) ((AB ad Fl32) 61 (rl (nI q232)))) (nI q232) (nI b3) from by unfold m_X8_land_L40_32_b; rw [if_neg (nle_cg rfl rfl c36)]).trans (congr (congr (congrArg (m_X8_land_90 (m_X8_land_L40_32 n32)) ((st_cg rfl (congrArg rl rfl) m87).trans (AB_ast hF88 eF89).symm)) (Eq.refl ((nI q232) : Int32))) (Eq.refl ((nI b3) : Int32))))
      obtain ⟨gg89, eg89⟩ : ∃ g9, g9 = upd g88 (nI q232).toNatClampNeg v86 := ⟨_, rfl⟩
      have hF89 : F89 60 = .inl (cA 0, 52, .inl gg89) := by rw [eF89, eg89]; exact va_up_self _ _ _
      have hg89 : ∀ j, j < 52 → rPr 60 j (gg89 j) := by rw [eg89]; exact pr_up hg88 (by rw [nI_clamp (by omega)]; apply to_T (by decide); rw [e86, nI_clamp (by omega)]; exact okT_cg (by omega) (pr_T (by decide) (hg84 (q232) (by omega))))
      have m93 : ((nI q232) + Int32.ofInt (1)) = (nI (q232 + 1)) := (congrArg (fun q : Int32 => q + Int32.ofInt (1)) rfl).trans (nI_add _ 1)
      refine lv_iinc (v := (nI (q232 + 1))) (lv' := [(2, .int (nI (q232 + 1))), (1, .int (nI b3)), (0, .ref (ad 58))]) S.1 S.2.1 dX8_land_58 hl32 (k := 0) rfl (nI_add _ 1) (by decide) rfl (fun ls92 hl92 => ?_)
      refine lv_goto (tgt := 40) S.1 S.2.1 dX8_land_61 (by decide) ?_
      have hF94 := (show F89 58 = Fl32 58 by rw [eF89]; exact va_up_ne _ _ (by decide)).trans hF34
      have hA95 := fN_of (k := 14) (a := at34) hF94 rfl (Nat.lt_of_le_of_lt hb34_5 (by decide))
      have hL95 := fN_of (k := 1) (a := ty34) hF94 rfl (Nat.lt_of_le_of_lt hb34_1 (by decide))
      have hE96 : M = (m_X8_land_L40_32 n32) (AB ad F89) (nI (q232 + 1)) (nI b3) := hE91.trans ((show m_X8_land_90 (m_X8_land_L40_32 n32) (AB ad F89) (nI q232) (nI b3) = (m_X8_land_L40_32 n32) (AB ad F89) ((nI q232) + Int32.ofInt (1)) (nI b3) from rfl).trans (congr (congr (congrArg ((m_X8_land_L40_32 n32)) (rfl : AB ad F89 = AB ad F89)) m93) (Eq.refl ((nI b3) : Int32))))
      exact ih32 (q232 + 1) F89 H89 locs89 (by omega) (by omega) (by omega) hW89 hFr89 hP89 hS89 hE96 ls92 (lv_sub hl92 [0, 1, 2] rfl)
  have hA97 := fN_of (k := 14) (a := at8) hF26 rfl (Nat.lt_of_le_of_lt hb8_5 (by decide))
  have hL97 := fN_of (k := 1) (a := 0) hF26 rfl (by omega)
  have hE98 : M = m_X8_land_L40_32 2000 (AB ad F26) (nI 0) (nI b3) := hE28.trans ((show m_X8_land_27 (AB ad F26) (nI b3) = m_X8_land_L40_32 2000 (AB ad F26) (nI 0) (nI b3) from rfl).trans (congr (congr (congrArg (m_X8_land_L40_32 2000) (rfl : AB ad F26 = AB ad F26)) (Eq.refl ((nI 0) : Int32))) (Eq.refl ((nI b3) : Int32))))
  exact lp32 2000 (0) F26 H26 locs26 (by omega) (by omega) (by omega) hW26 hFr26 hP26 hS26 hE98 ls31 (lv_sub hl31 [0, 1, 2] rfl)
noncomputable def m_X8_fault (σ : SS) : Int32 :=
  (σ 58 16)
set_option maxHeartbeats 4000000 in
set_option maxRecDepth 100000 in
theorem c_X8_fault (l : Launch) (D : va_G) (cA ad : Nat → Nat) (t : Nat) (hI : rI ad) (F : Nat → va_E) (hW : WT cA ad F) : MP l D cA ad t yX8_fault wsX8_fault { frames := 0, cells := 0, slots := 0, locals := 0 } [.ref (ad 58)] F (fun r => (True) ∧ m_X8_fault (AB ad F) = r) := by
  refine en_P rfl (by decide +kernel) (Nat.le_of_ble_eq_true rfl) ?_
  intro p e s m args below meth c ls0 Q S hK hZ hP hS hl0 hret
  have hl0 : lv_has ls0 1 [(0, .ref (ad 58))] := hl0
  have hiX8 : ∀ w ∈ u_ws RX8 TX8 23, w ∈ wsX8_fault := in_wsX8_fault_1
  obtain ⟨M, hM⟩ : ∃ M, M = m_X8_fault (AB ad F) := ⟨_, rfl⟩
  refine lv_aload_n S.1 S.2.1 dX8_fault_0 rfl (lv_at hl0 0 rfl) ?_
  obtain ⟨ty1, kn1, no1, en1, at1, sa1, sd1, wr1, pl1, va1, hF1, hb1_1, hb1_2, hb1_3, hb1_4, hb1_5, hb1_6⟩ := wt_m hW
  refine r_get S hK hP 58 (by decide) hF1 (C := RX8) (T := TX8) (N := 23) hiX8 rfl 16 (by decide) (am_at in_wsX8_fault_0 0 rfl) (v := .int pl1) rfl dX8_fault_1 ?_
  have m2 : ((AB ad F) 58 16) = pl1 := AB_f hF1 rfl
  have hE3 : M = pl1 := hM.trans ((show m_X8_fault (AB ad F) = ((AB ad F) 58 16) from rfl).trans m2)
  exact hret 4 _ _ dX8_fault_4 rfl (⟨trivial, hM.symm.trans hE3⟩)
noncomputable def m_X8_told (σ : SS) (a0 : Int32) : Int32 :=
  if a0.toInt = 0 then
    (σ 60 (rl (nI 0)))
  else
    if a0.toInt = 1 then
      (σ 60 (rl (nI 1)))
    else
      if a0.toInt = 2 then
        (σ 60 (rl (nI 2)))
      else
        if a0.toInt = 3 then
          (σ 60 (rl (nI 3)))
        else
          if a0.toInt = 4 then
            (σ 58 1)
          else
            if a0.toInt = 5 then
              (σ 62 (rl (nI 1)))
            else
              if a0.toInt = 6 then
                (σ 62 (rl (nI 0)))
              else
                if a0.toInt = 7 then
                  (σ 62 (rl (nI 2)))
                else
                  if a0.toInt = 8 then
                    (σ 62 (rl (nI 3)))
                  else
                    if a0.toInt = 9 then
                      (σ 62 (rl (nI 4)))
                    else
                      if a0.toInt = 10 then
                        (σ 62 (rl (nI 5)))
                      else
                        if a0.toInt = 11 then
                          (σ 62 (rl (nI 6)))
                        else
                          if a0.toInt = 12 then
                            (σ 58 11)
                          else
                            if a0.toInt = 13 then
                              (σ 58 13)
                            else
                              if a0.toInt = 14 then
                                (σ 58 6)
                              else
                                ((-1000000002) : Int32)
set_option maxHeartbeats 4000000 in
set_option maxRecDepth 100000 in
theorem c_X8_told (l : Launch) (D : va_G) (cA ad : Nat → Nat) (t : Nat) (hI : rI ad) (F : Nat → va_E) (hW : WT cA ad F) (p1 : Int32) : MP l D cA ad t yX8_told wsX8_told { frames := 0, cells := 0, slots := 0, locals := 0 } [.ref (ad 58), .int p1] F (fun r => (True) ∧ m_X8_told (AB ad F) p1 = r) := by
  refine en_P rfl (by decide +kernel) (Nat.le_of_ble_eq_true rfl) ?_
  intro p e s m args below meth c ls0 Q S hK hZ hP hS hl0 hret
  have hl0 : lv_has ls0 2 [(0, .ref (ad 58)), (1, .int p1)] := hl0
  have hiX8 : ∀ w ∈ u_ws RX8 TX8 23, w ∈ wsX8_told := in_wsX8_told_1
  obtain ⟨M, hM⟩ : ∃ M, M = m_X8_told (AB ad F) p1 := ⟨_, rfl⟩
  refine lv_iload_n S.1 S.2.1 dX8_told_0 rfl (lv_at hl0 1 rfl) ?_
  by_cases hs1_0 : p1.toInt = 0
  · refine lv_tableIn (off := 75) (tgt := 76) S.1 S.2.1 dX8_told_1 (by omega) (by omega) (by rw [hs1_0]; rfl) (by decide) ?_
    refine lv_aload_n S.1 S.2.1 dX8_told_76 rfl (lv_at hl0 0 rfl) ?_
    obtain ⟨ty2, kn2, no2, en2, at2, sa2, sd2, wr2, pl2, va2, hF2, hb2_1, hb2_2, hb2_3, hb2_4, hb2_5, hb2_6⟩ := wt_m hW
    refine r_get S hK hP 58 (by decide) hF2 (C := RX8) (T := TX8) (N := 23) hiX8 rfl 2 (by decide) (am_at in_wsX8_told_0 0 rfl) (v := .ref (ad 60)) rfl dX8_told_77 ?_
    refine lv_iconst (v := (nI 0)) S.1 S.2.1 dX8_told_80 (by decide +kernel) ?_
    obtain ⟨g3, hF3, hg3⟩ := wt_I hW (show (60, 52) ∈ rLI by decide)
    refine r_iald S hK hP 60 (by decide) hF3 (vp_in_nI (show 0 < 52 by omega) (by omega)) dX8_told_81 ?_
    refine lv_topi (fun v5 e5 => ?_)
    obtain ⟨b6, hb6, he6⟩ := (pr_T (by decide) (hg3 0 (by decide))).1 rfl
    obtain rfl : v5 = nI b6 := e5.trans he6
    have m7 : ((AB ad F) 60 (rl (nI 0))) = (nI b6) := (ab_cg rfl rfl).trans ((AB_g hF3).trans e5.symm)
    have hE8 : M = (nI b6) := hM.trans ((show m_X8_told (AB ad F) p1 = ((AB ad F) 60 (rl (nI 0))) from by unfold m_X8_told; rw [if_pos (ti_cg rfl hs1_0)]).trans m7)
    exact hret 82 _ _ dX8_told_82 rfl (⟨trivial, hM.symm.trans hE8⟩)
  by_cases hs1_1 : p1.toInt = 1
  · refine lv_tableIn (off := 82) (tgt := 83) S.1 S.2.1 dX8_told_1 (by omega) (by omega) (by rw [hs1_1]; rfl) (by decide) ?_
    refine lv_aload_n S.1 S.2.1 dX8_told_83 rfl (lv_at hl0 0 rfl) ?_
    obtain ⟨ty9, kn9, no9, en9, at9, sa9, sd9, wr9, pl9, va9, hF9, hb9_1, hb9_2, hb9_3, hb9_4, hb9_5, hb9_6⟩ := wt_m hW
    refine r_get S hK hP 58 (by decide) hF9 (C := RX8) (T := TX8) (N := 23) hiX8 rfl 2 (by decide) (am_at in_wsX8_told_0 0 rfl) (v := .ref (ad 60)) rfl dX8_told_84 ?_
    refine lv_iconst (v := (nI 1)) S.1 S.2.1 dX8_told_87 (by decide +kernel) ?_
    obtain ⟨g10, hF10, hg10⟩ := wt_I hW (show (60, 52) ∈ rLI by decide)
    refine r_iald S hK hP 60 (by decide) hF10 (vp_in_nI (show 1 < 52 by omega) (by omega)) dX8_told_88 ?_
    refine lv_topi (fun v12 e12 => ?_)
    have m13 : ((AB ad F) 60 (rl (nI 1))) = v12 := (ab_cg rfl rfl).trans ((AB_g hF10).trans e12.symm)
    have hE14 : M = v12 := hM.trans ((show m_X8_told (AB ad F) p1 = ((AB ad F) 60 (rl (nI 1))) from by unfold m_X8_told; rw [if_neg (nti_cg rfl hs1_0), if_pos (ti_cg rfl hs1_1)]).trans m13)
    exact hret 89 _ _ dX8_told_89 rfl (⟨trivial, hM.symm.trans hE14⟩)
  by_cases hs1_2 : p1.toInt = 2
  · refine lv_tableIn (off := 89) (tgt := 90) S.1 S.2.1 dX8_told_1 (by omega) (by omega) (by rw [hs1_2]; rfl) (by decide) ?_
    refine lv_aload_n S.1 S.2.1 dX8_told_90 rfl (lv_at hl0 0 rfl) ?_
    obtain ⟨ty15, kn15, no15, en15, at15, sa15, sd15, wr15, pl15, va15, hF15, hb15_1, hb15_2, hb15_3, hb15_4, hb15_5, hb15_6⟩ := wt_m hW
    refine r_get S hK hP 58 (by decide) hF15 (C := RX8) (T := TX8) (N := 23) hiX8 rfl 2 (by decide) (am_at in_wsX8_told_0 0 rfl) (v := .ref (ad 60)) rfl dX8_told_91 ?_
    refine lv_iconst (v := (nI 2)) S.1 S.2.1 dX8_told_94 (by decide +kernel) ?_
    obtain ⟨g16, hF16, hg16⟩ := wt_I hW (show (60, 52) ∈ rLI by decide)
    refine r_iald S hK hP 60 (by decide) hF16 (vp_in_nI (show 2 < 52 by omega) (by omega)) dX8_told_95 ?_
    refine lv_topi (fun v18 e18 => ?_)
    obtain ⟨b19, hb19, he19⟩ := (pr_T (by decide) (hg16 2 (by decide))).2.1 rfl
    obtain rfl : v18 = nI b19 := e18.trans he19
    have m20 : ((AB ad F) 60 (rl (nI 2))) = (nI b19) := (ab_cg rfl rfl).trans ((AB_g hF16).trans e18.symm)
    have hE21 : M = (nI b19) := hM.trans ((show m_X8_told (AB ad F) p1 = ((AB ad F) 60 (rl (nI 2))) from by unfold m_X8_told; rw [if_neg (nti_cg rfl hs1_0), if_neg (nti_cg rfl hs1_1), if_pos (ti_cg rfl hs1_2)]).trans m20)
    exact hret 96 _ _ dX8_told_96 rfl (⟨trivial, hM.symm.trans hE21⟩)
  by_cases hs1_3 : p1.toInt = 3
  · refine lv_tableIn (off := 96) (tgt := 97) S.1 S.2.1 dX8_told_1 (by omega) (by omega) (by rw [hs1_3]; rfl) (by decide) ?_
    refine lv_aload_n S.1 S.2.1 dX8_told_97 rfl (lv_at hl0 0 rfl) ?_
    obtain ⟨ty22, kn22, no22, en22, at22, sa22, sd22, wr22, pl22, va22, hF22, hb22_1, hb22_2, hb22_3, hb22_4, hb22_5, hb22_6⟩ := wt_m hW
    refine r_get S hK hP 58 (by decide) hF22 (C := RX8) (T := TX8) (N := 23) hiX8 rfl 2 (by decide) (am_at in_wsX8_told_0 0 rfl) (v := .ref (ad 60)) rfl dX8_told_98 ?_
    refine lv_iconst (v := (nI 3)) S.1 S.2.1 dX8_told_101 (by decide +kernel) ?_
    obtain ⟨g23, hF23, hg23⟩ := wt_I hW (show (60, 52) ∈ rLI by decide)
    refine r_iald S hK hP 60 (by decide) hF23 (vp_in_nI (show 3 < 52 by omega) (by omega)) dX8_told_102 ?_
    refine lv_topi (fun v25 e25 => ?_)
    obtain ⟨b26, hb26, he26⟩ := (pr_T (by decide) (hg23 3 (by decide))).2.2 rfl
    obtain rfl : v25 = nI b26 := e25.trans he26
    have m27 : ((AB ad F) 60 (rl (nI 3))) = (nI b26) := (ab_cg rfl rfl).trans ((AB_g hF23).trans e25.symm)
    have hE28 : M = (nI b26) := hM.trans ((show m_X8_told (AB ad F) p1 = ((AB ad F) 60 (rl (nI 3))) from by unfold m_X8_told; rw [if_neg (nti_cg rfl hs1_0), if_neg (nti_cg rfl hs1_1), if_neg (nti_cg rfl hs1_2), if_pos (ti_cg rfl hs1_3)]).trans m27)
    exact hret 103 _ _ dX8_told_103 rfl (⟨trivial, hM.symm.trans hE28⟩)
  by_cases hs1_4 : p1.toInt = 4
  · refine lv_tableIn (off := 103) (tgt := 104) S.1 S.2.1 dX8_told_1 (by omega) (by omega) (by rw [hs1_4]; rfl) (by decide) ?_
    refine lv_aload_n S.1 S.2.1 dX8_told_104 rfl (lv_at hl0 0 rfl) ?_
    obtain ⟨ty29, kn29, no29, en29, at29, sa29, sd29, wr29, pl29, va29, hF29, hb29_1, hb29_2, hb29_3, hb29_4, hb29_5, hb29_6⟩ := wt_m hW
    refine r_get S hK hP 58 (by decide) hF29 (C := RX8) (T := TX8) (N := 23) hiX8 rfl 1 (by decide) (am_at in_wsX8_told_0 1 rfl) (v := .int (nI ty29)) rfl dX8_told_105 ?_
    have m30 : ((AB ad F) 58 1) = (nI ty29) := AB_f hF29 rfl
    have hE31 : M = (nI ty29) := hM.trans ((show m_X8_told (AB ad F) p1 = ((AB ad F) 58 1) from by unfold m_X8_told; rw [if_neg (nti_cg rfl hs1_0), if_neg (nti_cg rfl hs1_1), if_neg (nti_cg rfl hs1_2), if_neg (nti_cg rfl hs1_3), if_pos (ti_cg rfl hs1_4)]).trans m30)
    exact hret 108 _ _ dX8_told_108 rfl (⟨trivial, hM.symm.trans hE31⟩)
  by_cases hs1_5 : p1.toInt = 5
  · refine lv_tableIn (off := 108) (tgt := 109) S.1 S.2.1 dX8_told_1 (by omega) (by omega) (by rw [hs1_5]; rfl) (by decide) ?_
    refine lv_aload_n S.1 S.2.1 dX8_told_109 rfl (lv_at hl0 0 rfl) ?_
    obtain ⟨ty32, kn32, no32, en32, at32, sa32, sd32, wr32, pl32, va32, hF32, hb32_1, hb32_2, hb32_3, hb32_4, hb32_5, hb32_6⟩ := wt_m hW
    refine r_get S hK hP 58 (by decide) hF32 (C := RX8) (T := TX8) (N := 23) hiX8 rfl 4 (by decide) (am_at in_wsX8_told_0 2 rfl) (v := .ref (ad 62)) rfl dX8_told_110 ?_
    refine lv_iconst (v := (nI 1)) S.1 S.2.1 dX8_told_113 (by decide +kernel) ?_
    obtain ⟨g33, hF33, hg33⟩ := wt_I hW (show (62, 7) ∈ rLI by decide)
    refine r_iald S hK hP 62 (by decide) hF33 (vp_in_nI (show 1 < 7 by omega) (by omega)) dX8_told_114 ?_
    refine lv_topi (fun v35 e35 => ?_)
    have m36 : ((AB ad F) 62 (rl (nI 1))) = v35 := (ab_cg rfl rfl).trans ((AB_g hF33).trans e35.symm)
    have hE37 : M = v35 := hM.trans ((show m_X8_told (AB ad F) p1 = ((AB ad F) 62 (rl (nI 1))) from by unfold m_X8_told; rw [if_neg (nti_cg rfl hs1_0), if_neg (nti_cg rfl hs1_1), if_neg (nti_cg rfl hs1_2), if_neg (nti_cg rfl hs1_3), if_neg (nti_cg rfl hs1_4), if_pos (ti_cg rfl hs1_5)]).trans m36)
    exact hret 115 _ _ dX8_told_115 rfl (⟨trivial, hM.symm.trans hE37⟩)
  by_cases hs1_6 : p1.toInt = 6
  · refine lv_tableIn (off := 115) (tgt := 116) S.1 S.2.1 dX8_told_1 (by omega) (by omega) (by rw [hs1_6]; rfl) (by decide) ?_
    refine lv_aload_n S.1 S.2.1 dX8_told_116 rfl (lv_at hl0 0 rfl) ?_
    obtain ⟨ty38, kn38, no38, en38, at38, sa38, sd38, wr38, pl38, va38, hF38, hb38_1, hb38_2, hb38_3, hb38_4, hb38_5, hb38_6⟩ := wt_m hW
    refine r_get S hK hP 58 (by decide) hF38 (C := RX8) (T := TX8) (N := 23) hiX8 rfl 4 (by decide) (am_at in_wsX8_told_0 2 rfl) (v := .ref (ad 62)) rfl dX8_told_117 ?_
    refine lv_iconst (v := (nI 0)) S.1 S.2.1 dX8_told_120 (by decide +kernel) ?_
    obtain ⟨g39, hF39, hg39⟩ := wt_I hW (show (62, 7) ∈ rLI by decide)
    refine r_iald S hK hP 62 (by decide) hF39 (vp_in_nI (show 0 < 7 by omega) (by omega)) dX8_told_121 ?_
    refine lv_topi (fun v41 e41 => ?_)
    obtain ⟨b42, hb42, he42⟩ := (pr_S (hg39 0 (by decide))).1 rfl
    obtain rfl : v41 = nI b42 := e41.trans he42
    have m43 : ((AB ad F) 62 (rl (nI 0))) = (nI b42) := (ab_cg rfl rfl).trans ((AB_g hF39).trans e41.symm)
    have hE44 : M = (nI b42) := hM.trans ((show m_X8_told (AB ad F) p1 = ((AB ad F) 62 (rl (nI 0))) from by unfold m_X8_told; rw [if_neg (nti_cg rfl hs1_0), if_neg (nti_cg rfl hs1_1), if_neg (nti_cg rfl hs1_2), if_neg (nti_cg rfl hs1_3), if_neg (nti_cg rfl hs1_4), if_neg (nti_cg rfl hs1_5), if_pos (ti_cg rfl hs1_6)]).trans m43)
    exact hret 122 _ _ dX8_told_122 rfl (⟨trivial, hM.symm.trans hE44⟩)
  by_cases hs1_7 : p1.toInt = 7
  · refine lv_tableIn (off := 122) (tgt := 123) S.1 S.2.1 dX8_told_1 (by omega) (by omega) (by rw [hs1_7]; rfl) (by decide) ?_
    refine lv_aload_n S.1 S.2.1 dX8_told_123 rfl (lv_at hl0 0 rfl) ?_
    obtain ⟨ty45, kn45, no45, en45, at45, sa45, sd45, wr45, pl45, va45, hF45, hb45_1, hb45_2, hb45_3, hb45_4, hb45_5, hb45_6⟩ := wt_m hW
    refine r_get S hK hP 58 (by decide) hF45 (C := RX8) (T := TX8) (N := 23) hiX8 rfl 4 (by decide) (am_at in_wsX8_told_0 2 rfl) (v := .ref (ad 62)) rfl dX8_told_124 ?_
    refine lv_iconst (v := (nI 2)) S.1 S.2.1 dX8_told_127 (by decide +kernel) ?_
    obtain ⟨g46, hF46, hg46⟩ := wt_I hW (show (62, 7) ∈ rLI by decide)
    refine r_iald S hK hP 62 (by decide) hF46 (vp_in_nI (show 2 < 7 by omega) (by omega)) dX8_told_128 ?_
    refine lv_topi (fun v48 e48 => ?_)
    obtain ⟨b49, hb49, he49⟩ := (pr_S (hg46 2 (by decide))).2.1 rfl
    obtain rfl : v48 = nI b49 := e48.trans he49
    have m50 : ((AB ad F) 62 (rl (nI 2))) = (nI b49) := (ab_cg rfl rfl).trans ((AB_g hF46).trans e48.symm)
    have hE51 : M = (nI b49) := hM.trans ((show m_X8_told (AB ad F) p1 = ((AB ad F) 62 (rl (nI 2))) from by unfold m_X8_told; rw [if_neg (nti_cg rfl hs1_0), if_neg (nti_cg rfl hs1_1), if_neg (nti_cg rfl hs1_2), if_neg (nti_cg rfl hs1_3), if_neg (nti_cg rfl hs1_4), if_neg (nti_cg rfl hs1_5), if_neg (nti_cg rfl hs1_6), if_pos (ti_cg rfl hs1_7)]).trans m50)
    exact hret 129 _ _ dX8_told_129 rfl (⟨trivial, hM.symm.trans hE51⟩)
  by_cases hs1_8 : p1.toInt = 8
  · refine lv_tableIn (off := 129) (tgt := 130) S.1 S.2.1 dX8_told_1 (by omega) (by omega) (by rw [hs1_8]; rfl) (by decide) ?_
    refine lv_aload_n S.1 S.2.1 dX8_told_130 rfl (lv_at hl0 0 rfl) ?_
    obtain ⟨ty52, kn52, no52, en52, at52, sa52, sd52, wr52, pl52, va52, hF52, hb52_1, hb52_2, hb52_3, hb52_4, hb52_5, hb52_6⟩ := wt_m hW
    refine r_get S hK hP 58 (by decide) hF52 (C := RX8) (T := TX8) (N := 23) hiX8 rfl 4 (by decide) (am_at in_wsX8_told_0 2 rfl) (v := .ref (ad 62)) rfl dX8_told_131 ?_
    refine lv_iconst (v := (nI 3)) S.1 S.2.1 dX8_told_134 (by decide +kernel) ?_
    obtain ⟨g53, hF53, hg53⟩ := wt_I hW (show (62, 7) ∈ rLI by decide)
    refine r_iald S hK hP 62 (by decide) hF53 (vp_in_nI (show 3 < 7 by omega) (by omega)) dX8_told_135 ?_
    refine lv_topi (fun v55 e55 => ?_)
    have m56 : ((AB ad F) 62 (rl (nI 3))) = v55 := (ab_cg rfl rfl).trans ((AB_g hF53).trans e55.symm)
    have hE57 : M = v55 := hM.trans ((show m_X8_told (AB ad F) p1 = ((AB ad F) 62 (rl (nI 3))) from by unfold m_X8_told; rw [if_neg (nti_cg rfl hs1_0), if_neg (nti_cg rfl hs1_1), if_neg (nti_cg rfl hs1_2), if_neg (nti_cg rfl hs1_3), if_neg (nti_cg rfl hs1_4), if_neg (nti_cg rfl hs1_5), if_neg (nti_cg rfl hs1_6), if_neg (nti_cg rfl hs1_7), if_pos (ti_cg rfl hs1_8)]).trans m56)
    exact hret 136 _ _ dX8_told_136 rfl (⟨trivial, hM.symm.trans hE57⟩)
  by_cases hs1_9 : p1.toInt = 9
  · refine lv_tableIn (off := 136) (tgt := 137) S.1 S.2.1 dX8_told_1 (by omega) (by omega) (by rw [hs1_9]; rfl) (by decide) ?_
    refine lv_aload_n S.1 S.2.1 dX8_told_137 rfl (lv_at hl0 0 rfl) ?_
    obtain ⟨ty58, kn58, no58, en58, at58, sa58, sd58, wr58, pl58, va58, hF58, hb58_1, hb58_2, hb58_3, hb58_4, hb58_5, hb58_6⟩ := wt_m hW
    refine r_get S hK hP 58 (by decide) hF58 (C := RX8) (T := TX8) (N := 23) hiX8 rfl 4 (by decide) (am_at in_wsX8_told_0 2 rfl) (v := .ref (ad 62)) rfl dX8_told_138 ?_
    refine lv_iconst (v := (nI 4)) S.1 S.2.1 dX8_told_141 (by decide +kernel) ?_
    obtain ⟨g59, hF59, hg59⟩ := wt_I hW (show (62, 7) ∈ rLI by decide)
    refine r_iald S hK hP 62 (by decide) hF59 (vp_in_nI (show 4 < 7 by omega) (by omega)) dX8_told_142 ?_
    refine lv_topi (fun v61 e61 => ?_)
    obtain ⟨b62, hb62, he62⟩ := (pr_S (hg59 4 (by decide))).2.2 rfl
    obtain rfl : v61 = nI b62 := e61.trans he62
    have m63 : ((AB ad F) 62 (rl (nI 4))) = (nI b62) := (ab_cg rfl rfl).trans ((AB_g hF59).trans e61.symm)
    have hE64 : M = (nI b62) := hM.trans ((show m_X8_told (AB ad F) p1 = ((AB ad F) 62 (rl (nI 4))) from by unfold m_X8_told; rw [if_neg (nti_cg rfl hs1_0), if_neg (nti_cg rfl hs1_1), if_neg (nti_cg rfl hs1_2), if_neg (nti_cg rfl hs1_3), if_neg (nti_cg rfl hs1_4), if_neg (nti_cg rfl hs1_5), if_neg (nti_cg rfl hs1_6), if_neg (nti_cg rfl hs1_7), if_neg (nti_cg rfl hs1_8), if_pos (ti_cg rfl hs1_9)]).trans m63)
    exact hret 143 _ _ dX8_told_143 rfl (⟨trivial, hM.symm.trans hE64⟩)
  by_cases hs1_10 : p1.toInt = 10
  · refine lv_tableIn (off := 143) (tgt := 144) S.1 S.2.1 dX8_told_1 (by omega) (by omega) (by rw [hs1_10]; rfl) (by decide) ?_
    refine lv_aload_n S.1 S.2.1 dX8_told_144 rfl (lv_at hl0 0 rfl) ?_
    obtain ⟨ty65, kn65, no65, en65, at65, sa65, sd65, wr65, pl65, va65, hF65, hb65_1, hb65_2, hb65_3, hb65_4, hb65_5, hb65_6⟩ := wt_m hW
    refine r_get S hK hP 58 (by decide) hF65 (C := RX8) (T := TX8) (N := 23) hiX8 rfl 4 (by decide) (am_at in_wsX8_told_0 2 rfl) (v := .ref (ad 62)) rfl dX8_told_145 ?_
    refine lv_iconst (v := (nI 5)) S.1 S.2.1 dX8_told_148 (by decide +kernel) ?_
    obtain ⟨g66, hF66, hg66⟩ := wt_I hW (show (62, 7) ∈ rLI by decide)
    refine r_iald S hK hP 62 (by decide) hF66 (vp_in_nI (show 5 < 7 by omega) (by omega)) dX8_told_149 ?_
    refine lv_topi (fun v68 e68 => ?_)
    have m69 : ((AB ad F) 62 (rl (nI 5))) = v68 := (ab_cg rfl rfl).trans ((AB_g hF66).trans e68.symm)
    have hE70 : M = v68 := hM.trans ((show m_X8_told (AB ad F) p1 = ((AB ad F) 62 (rl (nI 5))) from by unfold m_X8_told; rw [if_neg (nti_cg rfl hs1_0), if_neg (nti_cg rfl hs1_1), if_neg (nti_cg rfl hs1_2), if_neg (nti_cg rfl hs1_3), if_neg (nti_cg rfl hs1_4), if_neg (nti_cg rfl hs1_5), if_neg (nti_cg rfl hs1_6), if_neg (nti_cg rfl hs1_7), if_neg (nti_cg rfl hs1_8), if_neg (nti_cg rfl hs1_9), if_pos (ti_cg rfl hs1_10)]).trans m69)
    exact hret 150 _ _ dX8_told_150 rfl (⟨trivial, hM.symm.trans hE70⟩)
  by_cases hs1_11 : p1.toInt = 11
  · refine lv_tableIn (off := 150) (tgt := 151) S.1 S.2.1 dX8_told_1 (by omega) (by omega) (by rw [hs1_11]; rfl) (by decide) ?_
    refine lv_aload_n S.1 S.2.1 dX8_told_151 rfl (lv_at hl0 0 rfl) ?_
    obtain ⟨ty71, kn71, no71, en71, at71, sa71, sd71, wr71, pl71, va71, hF71, hb71_1, hb71_2, hb71_3, hb71_4, hb71_5, hb71_6⟩ := wt_m hW
    refine r_get S hK hP 58 (by decide) hF71 (C := RX8) (T := TX8) (N := 23) hiX8 rfl 4 (by decide) (am_at in_wsX8_told_0 2 rfl) (v := .ref (ad 62)) rfl dX8_told_152 ?_
    refine lv_bipush (v := (nI 6)) S.1 S.2.1 dX8_told_155 (by decide +kernel) ?_
    obtain ⟨g72, hF72, hg72⟩ := wt_I hW (show (62, 7) ∈ rLI by decide)
    refine r_iald S hK hP 62 (by decide) hF72 (vp_in_nI (show 6 < 7 by omega) (by omega)) dX8_told_157 ?_
    refine lv_topi (fun v74 e74 => ?_)
    have m75 : ((AB ad F) 62 (rl (nI 6))) = v74 := (ab_cg rfl rfl).trans ((AB_g hF72).trans e74.symm)
    have hE76 : M = v74 := hM.trans ((show m_X8_told (AB ad F) p1 = ((AB ad F) 62 (rl (nI 6))) from by unfold m_X8_told; rw [if_neg (nti_cg rfl hs1_0), if_neg (nti_cg rfl hs1_1), if_neg (nti_cg rfl hs1_2), if_neg (nti_cg rfl hs1_3), if_neg (nti_cg rfl hs1_4), if_neg (nti_cg rfl hs1_5), if_neg (nti_cg rfl hs1_6), if_neg (nti_cg rfl hs1_7), if_neg (nti_cg rfl hs1_8), if_neg (nti_cg rfl hs1_9), if_neg (nti_cg rfl hs1_10), if_pos (ti_cg rfl hs1_11)]).trans m75)
    exact hret 158 _ _ dX8_told_158 rfl (⟨trivial, hM.symm.trans hE76⟩)
  by_cases hs1_12 : p1.toInt = 12
  · refine lv_tableIn (off := 158) (tgt := 159) S.1 S.2.1 dX8_told_1 (by omega) (by omega) (by rw [hs1_12]; rfl) (by decide) ?_
    refine lv_aload_n S.1 S.2.1 dX8_told_159 rfl (lv_at hl0 0 rfl) ?_
    obtain ⟨ty77, kn77, no77, en77, at77, sa77, sd77, wr77, pl77, va77, hF77, hb77_1, hb77_2, hb77_3, hb77_4, hb77_5, hb77_6⟩ := wt_m hW
    refine r_get S hK hP 58 (by decide) hF77 (C := RX8) (T := TX8) (N := 23) hiX8 rfl 11 (by decide) (am_at in_wsX8_told_0 3 rfl) (v := .int (nI no77)) rfl dX8_told_160 ?_
    have m78 : ((AB ad F) 58 11) = (nI no77) := AB_f hF77 rfl
    have hE79 : M = (nI no77) := hM.trans ((show m_X8_told (AB ad F) p1 = ((AB ad F) 58 11) from by unfold m_X8_told; rw [if_neg (nti_cg rfl hs1_0), if_neg (nti_cg rfl hs1_1), if_neg (nti_cg rfl hs1_2), if_neg (nti_cg rfl hs1_3), if_neg (nti_cg rfl hs1_4), if_neg (nti_cg rfl hs1_5), if_neg (nti_cg rfl hs1_6), if_neg (nti_cg rfl hs1_7), if_neg (nti_cg rfl hs1_8), if_neg (nti_cg rfl hs1_9), if_neg (nti_cg rfl hs1_10), if_neg (nti_cg rfl hs1_11), if_pos (ti_cg rfl hs1_12)]).trans m78)
    exact hret 163 _ _ dX8_told_163 rfl (⟨trivial, hM.symm.trans hE79⟩)
  by_cases hs1_13 : p1.toInt = 13
  · refine lv_tableIn (off := 163) (tgt := 164) S.1 S.2.1 dX8_told_1 (by omega) (by omega) (by rw [hs1_13]; rfl) (by decide) ?_
    refine lv_aload_n S.1 S.2.1 dX8_told_164 rfl (lv_at hl0 0 rfl) ?_
    obtain ⟨ty80, kn80, no80, en80, at80, sa80, sd80, wr80, pl80, va80, hF80, hb80_1, hb80_2, hb80_3, hb80_4, hb80_5, hb80_6⟩ := wt_m hW
    refine r_get S hK hP 58 (by decide) hF80 (C := RX8) (T := TX8) (N := 23) hiX8 rfl 13 (by decide) (am_at in_wsX8_told_0 4 rfl) (v := .int (nI en80)) rfl dX8_told_165 ?_
    have m81 : ((AB ad F) 58 13) = (nI en80) := AB_f hF80 rfl
    have hE82 : M = (nI en80) := hM.trans ((show m_X8_told (AB ad F) p1 = ((AB ad F) 58 13) from by unfold m_X8_told; rw [if_neg (nti_cg rfl hs1_0), if_neg (nti_cg rfl hs1_1), if_neg (nti_cg rfl hs1_2), if_neg (nti_cg rfl hs1_3), if_neg (nti_cg rfl hs1_4), if_neg (nti_cg rfl hs1_5), if_neg (nti_cg rfl hs1_6), if_neg (nti_cg rfl hs1_7), if_neg (nti_cg rfl hs1_8), if_neg (nti_cg rfl hs1_9), if_neg (nti_cg rfl hs1_10), if_neg (nti_cg rfl hs1_11), if_neg (nti_cg rfl hs1_12), if_pos (ti_cg rfl hs1_13)]).trans m81)
    exact hret 168 _ _ dX8_told_168 rfl (⟨trivial, hM.symm.trans hE82⟩)
  by_cases hs1_14 : p1.toInt = 14
  · refine lv_tableIn (off := 168) (tgt := 169) S.1 S.2.1 dX8_told_1 (by omega) (by omega) (by rw [hs1_14]; rfl) (by decide) ?_
    refine lv_aload_n S.1 S.2.1 dX8_told_169 rfl (lv_at hl0 0 rfl) ?_
    obtain ⟨ty83, kn83, no83, en83, at83, sa83, sd83, wr83, pl83, va83, hF83, hb83_1, hb83_2, hb83_3, hb83_4, hb83_5, hb83_6⟩ := wt_m hW
    refine r_get S hK hP 58 (by decide) hF83 (C := RX8) (T := TX8) (N := 23) hiX8 rfl 6 (by decide) (am_at in_wsX8_told_0 5 rfl) (v := .int (nI kn83)) rfl dX8_told_170 ?_
    have m84 : ((AB ad F) 58 6) = (nI kn83) := AB_f hF83 rfl
    have hE85 : M = (nI kn83) := hM.trans ((show m_X8_told (AB ad F) p1 = ((AB ad F) 58 6) from by unfold m_X8_told; rw [if_neg (nti_cg rfl hs1_0), if_neg (nti_cg rfl hs1_1), if_neg (nti_cg rfl hs1_2), if_neg (nti_cg rfl hs1_3), if_neg (nti_cg rfl hs1_4), if_neg (nti_cg rfl hs1_5), if_neg (nti_cg rfl hs1_6), if_neg (nti_cg rfl hs1_7), if_neg (nti_cg rfl hs1_8), if_neg (nti_cg rfl hs1_9), if_neg (nti_cg rfl hs1_10), if_neg (nti_cg rfl hs1_11), if_neg (nti_cg rfl hs1_12), if_neg (nti_cg rfl hs1_13), if_pos (ti_cg rfl hs1_14)]).trans m84)
    exact hret 173 _ _ dX8_told_173 rfl (⟨trivial, hM.symm.trans hE85⟩)
  refine lv_tableOut (tgt := 174) S.1 S.2.1 dX8_told_1 (by omega) (by decide) ?_
  refine lv_ldc (v := (-1000000002)) S.1 S.2.1 S.2.2.2.1 (S.2.2.2.2 (.constant RX8 59 (-1000000002)) (am_at in_wsX8_told_0 6 rfl)) dX8_told_174 ?_
  have hE86 : M = (-1000000002) := hM.trans ((show m_X8_told (AB ad F) p1 = ((-1000000002) : Int32) from by unfold m_X8_told; rw [if_neg (nti_cg rfl hs1_0), if_neg (nti_cg rfl hs1_1), if_neg (nti_cg rfl hs1_2), if_neg (nti_cg rfl hs1_3), if_neg (nti_cg rfl hs1_4), if_neg (nti_cg rfl hs1_5), if_neg (nti_cg rfl hs1_6), if_neg (nti_cg rfl hs1_7), if_neg (nti_cg rfl hs1_8), if_neg (nti_cg rfl hs1_9), if_neg (nti_cg rfl hs1_10), if_neg (nti_cg rfl hs1_11), if_neg (nti_cg rfl hs1_12), if_neg (nti_cg rfl hs1_13), if_neg (nti_cg rfl hs1_14)]).trans rfl)
  exact hret 176 _ _ dX8_told_176 rfl (⟨trivial, hM.symm.trans hE86⟩)
