noncomputable def m_X8_isBanned (σ : SS) (a0 : Int32) : Int32 :=
  if (nI 50) ≤ (σ 60 (rl ((nI 4) + a0))) then
    (nI 0)
  else
    (nI 1)
set_option maxHeartbeats 4000000 in
set_option maxRecDepth 100000 in
theorem c_X8_isBanned (l : Launch) (D : va_G) (cA ad : Nat → Nat) (t : Nat) (hI : rI ad) (F : Nat → va_E) (hW : WT cA ad F) (t1 : Nat) (ht1 : t1 ≤ 7) : MP l D cA ad t yX8_isBanned wsX8_isBanned { frames := 0, cells := 0, slots := 0, locals := 0 } [.ref (ad 58), .int (nI t1)] F (fun r => (le32 1 r) ∧ m_X8_isBanned (AB ad F) (nI t1) = r) := by
  refine en_P rfl (by decide +kernel) (Nat.le_of_ble_eq_true rfl) ?_
  intro p e s m args below meth c ls0 Q S hK hZ hP hS hl0 hret
  have hl0 : lv_has ls0 2 [(0, .ref (ad 58)), (1, .int (nI t1))] := hl0
  have hiX8 : ∀ w ∈ u_ws RX8 TX8 23, w ∈ wsX8_isBanned := in_wsX8_isBanned_1
  obtain ⟨M, hM⟩ : ∃ M, M = m_X8_isBanned (AB ad F) (nI t1) := ⟨_, rfl⟩
  refine lv_aload_n S.1 S.2.1 dX8_isBanned_0 rfl (lv_at hl0 0 rfl) ?_
  obtain ⟨ty1, kn1, no1, en1, at1, sa1, sd1, wr1, pl1, va1, hF1, hb1_1, hb1_2, hb1_3, hb1_4, hb1_5, hb1_6⟩ := wt_m hW
  refine r_get S hK hP 58 (by decide) hF1 (C := RX8) (T := TX8) (N := 23) hiX8 rfl 2 (by decide) (am_at in_wsX8_isBanned_0 0 rfl) (v := .ref (ad 60)) rfl dX8_isBanned_1 ?_
  refine lv_iconst (v := (nI 4)) S.1 S.2.1 dX8_isBanned_4 (by decide +kernel) ?_
  refine lv_iload_n S.1 S.2.1 dX8_isBanned_5 rfl (lv_at hl0 1 rfl) ?_
  refine lv_iadd S.1 S.2.1 dX8_isBanned_6 ?_
  refine lv_topi (fun v2 e2 => ?_)
  obtain rfl : v2 = nI (4 + t1) := e2.trans (nI_add _ _)
  have m3 : ((nI 4) + (nI t1)) = (nI (4 + t1)) := cg2 (fun (x : Int32) (y : Int32) => x + y) (Eq.refl ((nI 4) : Int32)) (Eq.refl ((nI t1) : Int32)) e2
  obtain ⟨g4, hF4, hg4⟩ := wt_I hW (show (60, 52) ∈ rLI by decide)
  refine r_iald S hK hP 60 (by decide) hF4 (vp_in_nI (show 4 + t1 < 52 by omega) (by omega)) dX8_isBanned_7 ?_
  refine lv_topi (fun v6 e6 => ?_)
  have m7 : ((AB ad F) 60 (rl ((nI 4) + (nI t1)))) = v6 := (ab_cg rfl m3).trans ((AB_g hF4).trans e6.symm)
  refine lv_bipush (v := (nI 50)) S.1 S.2.1 dX8_isBanned_8 (by decide +kernel) ?_
  refine lv_icmp_ge (tgt := 17) S.1 S.2.1 dX8_isBanned_10 (by decide) (fun c8 => ?_) (fun c8 => ?_)
  · skip
    have k9 := ci_le (nI_toInt (n := 50) (by decide)) rfl c8
    refine lv_iconst (v := (nI 0)) S.1 S.2.1 dX8_isBanned_17 (by decide +kernel) ?_
    have hE10 : M = (nI 0) := hM.trans ((show m_X8_isBanned (AB ad F) (nI t1) = (nI 0) from by unfold m_X8_isBanned; rw [if_pos (le_cg rfl m7 c8)]).trans rfl)
    exact hret 18 _ _ dX8_isBanned_18 rfl (⟨⟨0, by omega, rfl⟩, hM.symm.trans hE10⟩)
  have k11 := ci_nle (nI_toInt (n := 50) (by decide)) rfl c8
  refine lv_iconst (v := (nI 1)) S.1 S.2.1 dX8_isBanned_13 (by decide +kernel) ?_
  refine lv_goto (tgt := 18) S.1 S.2.1 dX8_isBanned_14 (by decide) ?_
  have hE12 : M = (nI 1) := hM.trans ((show m_X8_isBanned (AB ad F) (nI t1) = (nI 1) from by unfold m_X8_isBanned; rw [if_neg (nle_cg rfl m7 c8)]).trans rfl)
  exact hret 18 _ _ dX8_isBanned_18 rfl (⟨⟨1, by omega, rfl⟩, hM.symm.trans hE12⟩)
noncomputable def m_X8_leads_L5_3_b (k0 : SS → Int32 → Int32 → Int32 → Int32 → Int32) (σ : SS) (a0 : Int32) (a1 : Int32) (a2 : Int32) (a3 : Int32) : Int32 :=
  if (σ 60 (rl (nI 3))) ≤ a0 then
    a1
  else
    if ((a3 >>> (a0 &&& 31)) &&& (nI 1)) = (0 : Int32) then
      if (σ 60 (rl ((nI 28) + a0))) = a2 then
        if (σ 60 (rl ((nI 40) + a0))) = a2 then
          k0 σ (a0 + Int32.ofInt (1)) ((a1 ||| ((nI 1) <<< ((σ 60 (rl ((nI 40) + a0))) &&& 31))) ||| ((nI 1) <<< ((σ 60 (rl ((nI 28) + a0))) &&& 31))) a2 a3
        else
          k0 σ (a0 + Int32.ofInt (1)) ((a1 ||| ((nI 1) <<< ((σ 60 (rl ((nI 40) + a0))) &&& 31))) ||| (nI 0)) a2 a3
      else
        if (σ 60 (rl ((nI 40) + a0))) = a2 then
          k0 σ (a0 + Int32.ofInt (1)) ((a1 ||| (nI 0)) ||| ((nI 1) <<< ((σ 60 (rl ((nI 28) + a0))) &&& 31))) a2 a3
        else
          k0 σ (a0 + Int32.ofInt (1)) ((a1 ||| (nI 0)) ||| (nI 0)) a2 a3
    else
      k0 σ (a0 + Int32.ofInt (1)) a1 a2 a3
noncomputable def m_X8_leads_L5_3 : Nat → SS → Int32 → Int32 → Int32 → Int32 → Int32
  | 0 => fun σ _ _ _ _ => 0
  | n + 1 => m_X8_leads_L5_3_b (m_X8_leads_L5_3 n)
noncomputable def m_X8_leads (σ : SS) (a0 : Int32) (a1 : Int32) : Int32 :=
  m_X8_leads_L5_3 2000 σ (nI 0) (nI 0) a0 a1
set_option maxHeartbeats 4000000 in
set_option maxRecDepth 100000 in
theorem c_X8_leads (l : Launch) (D : va_G) (cA ad : Nat → Nat) (t : Nat) (hI : rI ad) (F : Nat → va_E) (hW : WT cA ad F) (p1 : Int32) (p2 : Int32) : MP l D cA ad t yX8_leads wsX8_leads { frames := 0, cells := 0, slots := 0, locals := 0 } [.ref (ad 58), .int p1, .int p2] F (fun r => (True) ∧ m_X8_leads (AB ad F) p1 p2 = r) := by
  refine en_P rfl (by decide +kernel) (Nat.le_of_ble_eq_true rfl) ?_
  intro p e s m args below meth c ls0 Q S hK hZ hP hS hl0 hret
  have hl0 : lv_has ls0 5 [(0, .ref (ad 58)), (1, .int p1), (2, .int p2)] := hl0
  have hiX8 : ∀ w ∈ u_ws RX8 TX8 23, w ∈ wsX8_leads := in_wsX8_leads_1
  obtain ⟨M, hM⟩ : ∃ M, M = m_X8_leads (AB ad F) p1 p2 := ⟨_, rfl⟩
  refine lv_iconst (v := (nI 0)) S.1 S.2.1 dX8_leads_0 (by decide +kernel) ?_
  refine lv_istore_n (lv' := [(3, .int (nI 0)), (0, .ref (ad 58)), (1, .int p1), (2, .int p2)]) S.1 S.2.1 dX8_leads_1 rfl hl0 (by decide) rfl (fun ls1 hl1 => ?_)
  refine lv_iconst (v := (nI 0)) S.1 S.2.1 dX8_leads_2 (by decide +kernel) ?_
  refine lv_istore (lv' := [(4, .int (nI 0)), (3, .int (nI 0)), (0, .ref (ad 58)), (1, .int p1), (2, .int p2)]) S.1 S.2.1 dX8_leads_3 hl1 (by decide) rfl (fun ls2 hl2 => ?_)
  have lp3 : ∀ (n3 : Nat) (q43 : Nat) (x3_3 : Int32), q43 ≤ 12 → 12 - q43 < n3 → M = m_X8_leads_L5_3 n3 (AB ad F) (nI q43) x3_3 p1 p2 → ∀ (ls : Array Slot), lv_has ls 5 [(4, .int (nI q43)), (3, .int x3_3), (0, .ref (ad 58)), (1, .int p1), (2, .int p2)] → W p l e { frames := 0, cells := 0, slots := 0, locals := 0 } s m args below meth c s.heap [] 0 0 Q (F0 m 5 ls []) := by
    intro n3
    induction n3 with
    | zero =>
      intro q43 x3_3 iv3_0 hm3 hEl3 ls3 hl3
      exact absurd hm3 (Nat.not_lt_zero _)
    | succ n3 ih3 =>
      intro q43 x3_3 iv3_0 hm3 hEl3 ls3 hl3
      have hE4 : M = m_X8_leads_L5_3_b (m_X8_leads_L5_3 n3) (AB ad F) (nI q43) x3_3 p1 p2 := hEl3
      refine lv_iload S.1 S.2.1 dX8_leads_5 (lv_at hl3 0 rfl) ?_
      refine lv_aload_n S.1 S.2.1 dX8_leads_7 rfl (lv_at hl3 2 rfl) ?_
      obtain ⟨ty5, kn5, no5, en5, at5, sa5, sd5, wr5, pl5, va5, hF5, hb5_1, hb5_2, hb5_3, hb5_4, hb5_5, hb5_6⟩ := wt_m hW
      refine r_get S hK hP 58 (by decide) hF5 (C := RX8) (T := TX8) (N := 23) hiX8 rfl 2 (by decide) (am_at in_wsX8_leads_0 0 rfl) (v := .ref (ad 60)) rfl dX8_leads_8 ?_
      refine lv_iconst (v := (nI 3)) S.1 S.2.1 dX8_leads_11 (by decide +kernel) ?_
      obtain ⟨g6, hF6, hg6⟩ := wt_I hW (show (60, 52) ∈ rLI by decide)
      refine r_iald S hK hP 60 (by decide) hF6 (vp_in_nI (show 3 < 52 by omega) (by omega)) dX8_leads_12 ?_
      refine lv_topi (fun v8 e8 => ?_)
      obtain ⟨b9, hb9, he9⟩ := (pr_T (by decide) (hg6 3 (by decide))).2.2 rfl
      obtain rfl : v8 = nI b9 := e8.trans he9
      have m10 : ((AB ad F) 60 (rl (nI 3))) = (nI b9) := (ab_cg rfl rfl).trans ((AB_g hF6).trans e8.symm)
      refine lv_icmp_ge (tgt := 97) S.1 S.2.1 dX8_leads_13 (by decide) (fun c11 => ?_) (fun c11 => ?_)
      · skip
        have k12 := ci_le (nI_toInt (n := b9) (Nat.lt_of_le_of_lt hb9 (by decide))) (nI_toInt (n := q43) (by omega)) c11
        refine lv_iload_n S.1 S.2.1 dX8_leads_97 rfl (lv_at hl3 1 rfl) ?_
        have hE13 : M = x3_3 := hE4.trans ((show m_X8_leads_L5_3_b (m_X8_leads_L5_3 n3) (AB ad F) (nI q43) x3_3 p1 p2 = x3_3 from by unfold m_X8_leads_L5_3_b; rw [if_pos (le_cg m10 rfl c11)]).trans rfl)
        exact hret 98 _ _ dX8_leads_98 rfl (⟨trivial, hM.symm.trans hE13⟩)
      have k14 := ci_nle (nI_toInt (n := b9) (Nat.lt_of_le_of_lt hb9 (by decide))) (nI_toInt (n := q43) (by omega)) c11
      refine lv_iload_n S.1 S.2.1 dX8_leads_16 rfl (lv_at hl3 4 rfl) ?_
      refine lv_iload S.1 S.2.1 dX8_leads_17 (lv_at hl3 0 rfl) ?_
      refine lv_ishr S.1 S.2.1 dX8_leads_19 ?_
      refine lv_topi (fun v15 e15 => ?_)
      have m16 : (p2 >>> ((nI q43) &&& 31)) = v15 := cg2 (fun (x : Int32) (y : Int32) => x >>> (y &&& 31)) (Eq.refl (p2 : Int32)) (Eq.refl ((nI q43) : Int32)) e15
      refine lv_iconst (v := (nI 1)) S.1 S.2.1 dX8_leads_20 (by decide +kernel) ?_
      refine lv_iand S.1 S.2.1 dX8_leads_21 ?_
      refine lv_topi (fun v17 e17 => ?_)
      have m18 : ((p2 >>> ((nI q43) &&& 31)) &&& (nI 1)) = v17 := cg2 (fun (x : Int32) (y : Int32) => x &&& y) m16 (Eq.refl ((nI 1) : Int32)) e17
      refine lv_if_ne (tgt := 91) S.1 S.2.1 dX8_leads_22 (by decide) (fun c19 => ?_) (fun c19 => ?_)
      · skip
        have k20 := ci_ne rfl z_ti c19
        have m22 : ((nI q43) + Int32.ofInt (1)) = (nI (q43 + 1)) := (congrArg (fun q : Int32 => q + Int32.ofInt (1)) rfl).trans (nI_add _ 1)
        refine lv_iinc (v := (nI (q43 + 1))) (lv' := [(4, .int (nI (q43 + 1))), (3, .int x3_3), (0, .ref (ad 58)), (1, .int p1), (2, .int p2)]) S.1 S.2.1 dX8_leads_91 hl3 (k := 0) rfl (nI_add _ 1) (by decide) rfl (fun ls21 hl21 => ?_)
        refine lv_goto (tgt := 5) S.1 S.2.1 dX8_leads_94 (by decide) ?_
        have hE23 : M = (m_X8_leads_L5_3 n3) (AB ad F) (nI (q43 + 1)) x3_3 p1 p2 := hE4.trans ((show m_X8_leads_L5_3_b (m_X8_leads_L5_3 n3) (AB ad F) (nI q43) x3_3 p1 p2 = (m_X8_leads_L5_3 n3) (AB ad F) ((nI q43) + Int32.ofInt (1)) x3_3 p1 p2 from by unfold m_X8_leads_L5_3_b; rw [if_neg (nle_cg m10 rfl c11), if_neg (neq_cg m18 rfl c19)]).trans (congr (congr (congr (congr (congrArg ((m_X8_leads_L5_3 n3)) (rfl : AB ad F = AB ad F)) m22) (Eq.refl (x3_3 : Int32))) (Eq.refl (p1 : Int32))) (Eq.refl (p2 : Int32))))
        exact ih3 (q43 + 1) (x3_3) (by omega) (by omega) hE23 ls21 (lv_sub hl21 [0, 1, 2, 3, 4] rfl)
      have k24 := ci_eq rfl z_ti c19
      refine lv_iload_n S.1 S.2.1 dX8_leads_25 rfl (lv_at hl3 1 rfl) ?_
      refine lv_aload_n S.1 S.2.1 dX8_leads_26 rfl (lv_at hl3 2 rfl) ?_
      refine r_get S hK hP 58 (by decide) hF5 (C := RX8) (T := TX8) (N := 23) hiX8 rfl 2 (by decide) (am_at in_wsX8_leads_0 0 rfl) (v := .ref (ad 60)) rfl dX8_leads_27 ?_
      refine lv_bipush (v := (nI 28)) S.1 S.2.1 dX8_leads_30 (by decide +kernel) ?_
      refine lv_iload S.1 S.2.1 dX8_leads_32 (lv_at hl3 0 rfl) ?_
      refine lv_iadd S.1 S.2.1 dX8_leads_34 ?_
      refine lv_topi (fun v25 e25 => ?_)
      obtain rfl : v25 = nI (28 + q43) := e25.trans (nI_add _ _)
      have m26 : ((nI 28) + (nI q43)) = (nI (28 + q43)) := cg2 (fun (x : Int32) (y : Int32) => x + y) (Eq.refl ((nI 28) : Int32)) (Eq.refl ((nI q43) : Int32)) e25
      refine r_iald S hK hP 60 (by decide) hF6 (vp_in_nI (show 28 + q43 < 52 by omega) (by omega)) dX8_leads_35 ?_
      refine lv_topi (fun v28 e28 => ?_)
      have m29 : ((AB ad F) 60 (rl ((nI 28) + (nI q43)))) = v28 := (ab_cg rfl m26).trans ((AB_g hF6).trans e28.symm)
      refine lv_iload_n S.1 S.2.1 dX8_leads_36 rfl (lv_at hl3 3 rfl) ?_
      refine lv_icmp_ne (tgt := 55) S.1 S.2.1 dX8_leads_37 (by decide) (fun c30 => ?_) (fun c30 => ?_)
      · skip
        have k31 := ci_ne rfl rfl c30
        refine lv_iconst (v := (nI 0)) S.1 S.2.1 dX8_leads_55 (by decide +kernel) ?_
        refine lv_ior S.1 S.2.1 dX8_leads_56 ?_
        refine lv_topi (fun v32 e32 => ?_)
        have m33 : (x3_3 ||| (nI 0)) = v32 := cg2 (fun (x : Int32) (y : Int32) => x ||| y) (Eq.refl (x3_3 : Int32)) (Eq.refl ((nI 0) : Int32)) e32
        refine lv_istore_n (lv' := [(3, .int v32), (4, .int (nI q43)), (0, .ref (ad 58)), (1, .int p1), (2, .int p2)]) S.1 S.2.1 dX8_leads_57 rfl hl3 (by decide) rfl (fun ls34 hl34 => ?_)
        refine lv_iload_n S.1 S.2.1 dX8_leads_58 rfl (lv_at hl34 0 rfl) ?_
        refine lv_aload_n S.1 S.2.1 dX8_leads_59 rfl (lv_at hl34 2 rfl) ?_
        refine r_get S hK hP 58 (by decide) hF5 (C := RX8) (T := TX8) (N := 23) hiX8 rfl 2 (by decide) (am_at in_wsX8_leads_0 0 rfl) (v := .ref (ad 60)) rfl dX8_leads_60 ?_
        refine lv_bipush (v := (nI 40)) S.1 S.2.1 dX8_leads_63 (by decide +kernel) ?_
        refine lv_iload S.1 S.2.1 dX8_leads_65 (lv_at hl34 1 rfl) ?_
        refine lv_iadd S.1 S.2.1 dX8_leads_67 ?_
        refine lv_topi (fun v35 e35 => ?_)
        obtain rfl : v35 = nI (40 + q43) := e35.trans (nI_add _ _)
        have m36 : ((nI 40) + (nI q43)) = (nI (40 + q43)) := cg2 (fun (x : Int32) (y : Int32) => x + y) (Eq.refl ((nI 40) : Int32)) (Eq.refl ((nI q43) : Int32)) e35
        refine r_iald S hK hP 60 (by decide) hF6 (vp_in_nI (show 40 + q43 < 52 by omega) (by omega)) dX8_leads_68 ?_
        refine lv_topi (fun v38 e38 => ?_)
        have m39 : ((AB ad F) 60 (rl ((nI 40) + (nI q43)))) = v38 := (ab_cg rfl m36).trans ((AB_g hF6).trans e38.symm)
        refine lv_iload_n S.1 S.2.1 dX8_leads_69 rfl (lv_at hl34 3 rfl) ?_
        refine lv_icmp_ne (tgt := 88) S.1 S.2.1 dX8_leads_70 (by decide) (fun c40 => ?_) (fun c40 => ?_)
        · skip
          have k41 := ci_ne rfl rfl c40
          refine lv_iconst (v := (nI 0)) S.1 S.2.1 dX8_leads_88 (by decide +kernel) ?_
          refine lv_ior S.1 S.2.1 dX8_leads_89 ?_
          refine lv_topi (fun v42 e42 => ?_)
          have m43 : ((x3_3 ||| (nI 0)) ||| (nI 0)) = v42 := cg2 (fun (x : Int32) (y : Int32) => x ||| y) m33 (Eq.refl ((nI 0) : Int32)) e42
          refine lv_istore_n (lv' := [(3, .int v42), (4, .int (nI q43)), (0, .ref (ad 58)), (1, .int p1), (2, .int p2)]) S.1 S.2.1 dX8_leads_90 rfl hl34 (by decide) rfl (fun ls44 hl44 => ?_)
          have m46 : ((nI q43) + Int32.ofInt (1)) = (nI (q43 + 1)) := (congrArg (fun q : Int32 => q + Int32.ofInt (1)) rfl).trans (nI_add _ 1)
          refine lv_iinc (v := (nI (q43 + 1))) (lv' := [(4, .int (nI (q43 + 1))), (3, .int v42), (0, .ref (ad 58)), (1, .int p1), (2, .int p2)]) S.1 S.2.1 dX8_leads_91 hl44 (k := 1) rfl (nI_add _ 1) (by decide) rfl (fun ls45 hl45 => ?_)
          refine lv_goto (tgt := 5) S.1 S.2.1 dX8_leads_94 (by decide) ?_
          have hE47 : M = (m_X8_leads_L5_3 n3) (AB ad F) (nI (q43 + 1)) v42 p1 p2 := hE4.trans ((show m_X8_leads_L5_3_b (m_X8_leads_L5_3 n3) (AB ad F) (nI q43) x3_3 p1 p2 = (m_X8_leads_L5_3 n3) (AB ad F) ((nI q43) + Int32.ofInt (1)) ((x3_3 ||| (nI 0)) ||| (nI 0)) p1 p2 from by unfold m_X8_leads_L5_3_b; rw [if_neg (nle_cg m10 rfl c11), if_pos (eq_cg m18 rfl c19), if_neg (neq_cg m29 rfl c30), if_neg (neq_cg m39 rfl c40)]).trans (congr (congr (congr (congr (congrArg ((m_X8_leads_L5_3 n3)) (rfl : AB ad F = AB ad F)) m46) m43) (Eq.refl (p1 : Int32))) (Eq.refl (p2 : Int32))))
          exact ih3 (q43 + 1) (v42) (by omega) (by omega) hE47 ls45 (lv_sub hl45 [0, 1, 2, 3, 4] rfl)
        have k48 := ci_eq rfl rfl c40
        refine lv_iconst (v := (nI 1)) S.1 S.2.1 dX8_leads_73 (by decide +kernel) ?_
        refine lv_aload_n S.1 S.2.1 dX8_leads_74 rfl (lv_at hl34 2 rfl) ?_
        refine r_get S hK hP 58 (by decide) hF5 (C := RX8) (T := TX8) (N := 23) hiX8 rfl 2 (by decide) (am_at in_wsX8_leads_0 0 rfl) (v := .ref (ad 60)) rfl dX8_leads_75 ?_
        refine lv_bipush (v := (nI 28)) S.1 S.2.1 dX8_leads_78 (by decide +kernel) ?_
        refine lv_iload S.1 S.2.1 dX8_leads_80 (lv_at hl34 1 rfl) ?_
        refine lv_iadd S.1 S.2.1 dX8_leads_82 ?_
        refine lv_topi (fun v49 e49 => ?_)
        obtain rfl : v49 = nI (28 + q43) := e49.trans (nI_add _ _)
        have m50 : ((nI 28) + (nI q43)) = (nI (28 + q43)) := cg2 (fun (x : Int32) (y : Int32) => x + y) (Eq.refl ((nI 28) : Int32)) (Eq.refl ((nI q43) : Int32)) e49
        refine r_iald S hK hP 60 (by decide) hF6 (vp_in_nI (show 28 + q43 < 52 by omega) (by omega)) dX8_leads_83 ?_
        refine lv_topi (fun v52 e52 => ?_)
        have m53 : ((AB ad F) 60 (rl ((nI 28) + (nI q43)))) = v52 := (ab_cg rfl m50).trans ((AB_g hF6).trans e52.symm)
        refine lv_ishl S.1 S.2.1 dX8_leads_84 ?_
        refine lv_topi (fun v54 e54 => ?_)
        have m55 : ((nI 1) <<< (((AB ad F) 60 (rl ((nI 28) + (nI q43)))) &&& 31)) = v54 := cg2 (fun (x : Int32) (y : Int32) => x <<< (y &&& 31)) (Eq.refl ((nI 1) : Int32)) m53 e54
        refine lv_goto (tgt := 89) S.1 S.2.1 dX8_leads_85 (by decide) ?_
        refine lv_ior S.1 S.2.1 dX8_leads_89 ?_
        refine lv_topi (fun v56 e56 => ?_)
        have m57 : ((x3_3 ||| (nI 0)) ||| ((nI 1) <<< (((AB ad F) 60 (rl ((nI 28) + (nI q43)))) &&& 31))) = v56 := cg2 (fun (x : Int32) (y : Int32) => x ||| y) m33 m55 e56
        refine lv_istore_n (lv' := [(3, .int v56), (4, .int (nI q43)), (0, .ref (ad 58)), (1, .int p1), (2, .int p2)]) S.1 S.2.1 dX8_leads_90 rfl hl34 (by decide) rfl (fun ls58 hl58 => ?_)
        have m60 : ((nI q43) + Int32.ofInt (1)) = (nI (q43 + 1)) := (congrArg (fun q : Int32 => q + Int32.ofInt (1)) rfl).trans (nI_add _ 1)
        refine lv_iinc (v := (nI (q43 + 1))) (lv' := [(4, .int (nI (q43 + 1))), (3, .int v56), (0, .ref (ad 58)), (1, .int p1), (2, .int p2)]) S.1 S.2.1 dX8_leads_91 hl58 (k := 1) rfl (nI_add _ 1) (by decide) rfl (fun ls59 hl59 => ?_)
        refine lv_goto (tgt := 5) S.1 S.2.1 dX8_leads_94 (by decide) ?_
        have hE61 : M = (m_X8_leads_L5_3 n3) (AB ad F) (nI (q43 + 1)) v56 p1 p2 := hE4.trans ((show m_X8_leads_L5_3_b (m_X8_leads_L5_3 n3) (AB ad F) (nI q43) x3_3 p1 p2 = (m_X8_leads_L5_3 n3) (AB ad F) ((nI q43) + Int32.ofInt (1)) ((x3_3 ||| (nI 0)) ||| ((nI 1) <<< (((AB ad F) 60 (rl ((nI 28) + (nI q43)))) &&& 31))) p1 p2 from by unfold m_X8_leads_L5_3_b; rw [if_neg (nle_cg m10 rfl c11), if_pos (eq_cg m18 rfl c19), if_neg (neq_cg m29 rfl c30), if_pos (eq_cg m39 rfl c40)]).trans (congr (congr (congr (congr (congrArg ((m_X8_leads_L5_3 n3)) (rfl : AB ad F = AB ad F)) m60) m57) (Eq.refl (p1 : Int32))) (Eq.refl (p2 : Int32))))
        exact ih3 (q43 + 1) (v56) (by omega) (by omega) hE61 ls59 (lv_sub hl59 [0, 1, 2, 3, 4] rfl)
      have k62 := ci_eq rfl rfl c30
      refine lv_iconst (v := (nI 1)) S.1 S.2.1 dX8_leads_40 (by decide +kernel) ?_
      refine lv_aload_n S.1 S.2.1 dX8_leads_41 rfl (lv_at hl3 2 rfl) ?_
      refine r_get S hK hP 58 (by decide) hF5 (C := RX8) (T := TX8) (N := 23) hiX8 rfl 2 (by decide) (am_at in_wsX8_leads_0 0 rfl) (v := .ref (ad 60)) rfl dX8_leads_42 ?_
      refine lv_bipush (v := (nI 40)) S.1 S.2.1 dX8_leads_45 (by decide +kernel) ?_
      refine lv_iload S.1 S.2.1 dX8_leads_47 (lv_at hl3 0 rfl) ?_
      refine lv_iadd S.1 S.2.1 dX8_leads_49 ?_
      refine lv_topi (fun v63 e63 => ?_)
      obtain rfl : v63 = nI (40 + q43) := e63.trans (nI_add _ _)
      have m64 : ((nI 40) + (nI q43)) = (nI (40 + q43)) := cg2 (fun (x : Int32) (y : Int32) => x + y) (Eq.refl ((nI 40) : Int32)) (Eq.refl ((nI q43) : Int32)) e63
      refine r_iald S hK hP 60 (by decide) hF6 (vp_in_nI (show 40 + q43 < 52 by omega) (by omega)) dX8_leads_50 ?_
      refine lv_topi (fun v66 e66 => ?_)
      have m67 : ((AB ad F) 60 (rl ((nI 40) + (nI q43)))) = v66 := (ab_cg rfl m64).trans ((AB_g hF6).trans e66.symm)
      refine lv_ishl S.1 S.2.1 dX8_leads_51 ?_
      refine lv_topi (fun v68 e68 => ?_)
      have m69 : ((nI 1) <<< (((AB ad F) 60 (rl ((nI 40) + (nI q43)))) &&& 31)) = v68 := cg2 (fun (x : Int32) (y : Int32) => x <<< (y &&& 31)) (Eq.refl ((nI 1) : Int32)) m67 e68
      refine lv_goto (tgt := 56) S.1 S.2.1 dX8_leads_52 (by decide) ?_
      refine lv_ior S.1 S.2.1 dX8_leads_56 ?_
      refine lv_topi (fun v70 e70 => ?_)
      have m71 : (x3_3 ||| ((nI 1) <<< (((AB ad F) 60 (rl ((nI 40) + (nI q43)))) &&& 31))) = v70 := cg2 (fun (x : Int32) (y : Int32) => x ||| y) (Eq.refl (x3_3 : Int32)) m69 e70
      refine lv_istore_n (lv' := [(3, .int v70), (4, .int (nI q43)), (0, .ref (ad 58)), (1, .int p1), (2, .int p2)]) S.1 S.2.1 dX8_leads_57 rfl hl3 (by decide) rfl (fun ls72 hl72 => ?_)
      refine lv_iload_n S.1 S.2.1 dX8_leads_58 rfl (lv_at hl72 0 rfl) ?_
      refine lv_aload_n S.1 S.2.1 dX8_leads_59 rfl (lv_at hl72 2 rfl) ?_
      refine r_get S hK hP 58 (by decide) hF5 (C := RX8) (T := TX8) (N := 23) hiX8 rfl 2 (by decide) (am_at in_wsX8_leads_0 0 rfl) (v := .ref (ad 60)) rfl dX8_leads_60 ?_
      refine lv_bipush (v := (nI 40)) S.1 S.2.1 dX8_leads_63 (by decide +kernel) ?_
      refine lv_iload S.1 S.2.1 dX8_leads_65 (lv_at hl72 1 rfl) ?_
      refine lv_iadd S.1 S.2.1 dX8_leads_67 ?_
      refine lv_topi (fun v73 e73 => ?_)
      obtain rfl : v73 = nI (40 + q43) := e73.trans (nI_add _ _)
      have m74 : ((nI 40) + (nI q43)) = (nI (40 + q43)) := cg2 (fun (x : Int32) (y : Int32) => x + y) (Eq.refl ((nI 40) : Int32)) (Eq.refl ((nI q43) : Int32)) e73
      refine r_iald S hK hP 60 (by decide) hF6 (vp_in_nI (show 40 + q43 < 52 by omega) (by omega)) dX8_leads_68 ?_
      refine lv_topi (fun v76 e76 => ?_)
      have m77 : ((AB ad F) 60 (rl ((nI 40) + (nI q43)))) = v76 := (ab_cg rfl m74).trans ((AB_g hF6).trans e76.symm)
      refine lv_iload_n S.1 S.2.1 dX8_leads_69 rfl (lv_at hl72 3 rfl) ?_
      refine lv_icmp_ne (tgt := 88) S.1 S.2.1 dX8_leads_70 (by decide) (fun c78 => ?_) (fun c78 => ?_)
      · skip
        have k79 := ci_ne rfl rfl c78
        refine lv_iconst (v := (nI 0)) S.1 S.2.1 dX8_leads_88 (by decide +kernel) ?_
        refine lv_ior S.1 S.2.1 dX8_leads_89 ?_
        refine lv_topi (fun v80 e80 => ?_)
        have m81 : ((x3_3 ||| ((nI 1) <<< (((AB ad F) 60 (rl ((nI 40) + (nI q43)))) &&& 31))) ||| (nI 0)) = v80 := cg2 (fun (x : Int32) (y : Int32) => x ||| y) m71 (Eq.refl ((nI 0) : Int32)) e80
        refine lv_istore_n (lv' := [(3, .int v80), (4, .int (nI q43)), (0, .ref (ad 58)), (1, .int p1), (2, .int p2)]) S.1 S.2.1 dX8_leads_90 rfl hl72 (by decide) rfl (fun ls82 hl82 => ?_)
        have m84 : ((nI q43) + Int32.ofInt (1)) = (nI (q43 + 1)) := (congrArg (fun q : Int32 => q + Int32.ofInt (1)) rfl).trans (nI_add _ 1)
        refine lv_iinc (v := (nI (q43 + 1))) (lv' := [(4, .int (nI (q43 + 1))), (3, .int v80), (0, .ref (ad 58)), (1, .int p1), (2, .int p2)]) S.1 S.2.1 dX8_leads_91 hl82 (k := 1) rfl (nI_add _ 1) (by decide) rfl (fun ls83 hl83 => ?_)
        refine lv_goto (tgt := 5) S.1 S.2.1 dX8_leads_94 (by decide) ?_
        have hE85 : M = (m_X8_leads_L5_3 n3) (AB ad F) (nI (q43 + 1)) v80 p1 p2 := hE4.trans ((show m_X8_leads_L5_3_b (m_X8_leads_L5_3 n3) (AB ad F) (nI q43) x3_3 p1 p2 = (m_X8_leads_L5_3 n3) (AB ad F) ((nI q43) + Int32.ofInt (1)) ((x3_3 ||| ((nI 1) <<< (((AB ad F) 60 (rl ((nI 40) + (nI q43)))) &&& 31))) ||| (nI 0)) p1 p2 from by unfold m_X8_leads_L5_3_b; rw [if_neg (nle_cg m10 rfl c11), if_pos (eq_cg m18 rfl c19), if_pos (eq_cg m29 rfl c30), if_neg (neq_cg m77 rfl c78)]).trans (congr (congr (congr (congr (congrArg ((m_X8_leads_L5_3 n3)) (rfl : AB ad F = AB ad F)) m84) m81) (Eq.refl (p1 : Int32))) (Eq.refl (p2 : Int32))))
        exact ih3 (q43 + 1) (v80) (by omega) (by omega) hE85 ls83 (lv_sub hl83 [0, 1, 2, 3, 4] rfl)
      have k86 := ci_eq rfl rfl c78
      refine lv_iconst (v := (nI 1)) S.1 S.2.1 dX8_leads_73 (by decide +kernel) ?_
      refine lv_aload_n S.1 S.2.1 dX8_leads_74 rfl (lv_at hl72 2 rfl) ?_
      refine r_get S hK hP 58 (by decide) hF5 (C := RX8) (T := TX8) (N := 23) hiX8 rfl 2 (by decide) (am_at in_wsX8_leads_0 0 rfl) (v := .ref (ad 60)) rfl dX8_leads_75 ?_
      refine lv_bipush (v := (nI 28)) S.1 S.2.1 dX8_leads_78 (by decide +kernel) ?_
      refine lv_iload S.1 S.2.1 dX8_leads_80 (lv_at hl72 1 rfl) ?_
      refine lv_iadd S.1 S.2.1 dX8_leads_82 ?_
      refine lv_topi (fun v87 e87 => ?_)
      obtain rfl : v87 = nI (28 + q43) := e87.trans (nI_add _ _)
      have m88 : ((nI 28) + (nI q43)) = (nI (28 + q43)) := cg2 (fun (x : Int32) (y : Int32) => x + y) (Eq.refl ((nI 28) : Int32)) (Eq.refl ((nI q43) : Int32)) e87
      refine r_iald S hK hP 60 (by decide) hF6 (vp_in_nI (show 28 + q43 < 52 by omega) (by omega)) dX8_leads_83 ?_
      refine lv_topi (fun v90 e90 => ?_)
      have m91 : ((AB ad F) 60 (rl ((nI 28) + (nI q43)))) = v90 := (ab_cg rfl m88).trans ((AB_g hF6).trans e90.symm)
      refine lv_ishl S.1 S.2.1 dX8_leads_84 ?_
      refine lv_topi (fun v92 e92 => ?_)
      have m93 : ((nI 1) <<< (((AB ad F) 60 (rl ((nI 28) + (nI q43)))) &&& 31)) = v92 := cg2 (fun (x : Int32) (y : Int32) => x <<< (y &&& 31)) (Eq.refl ((nI 1) : Int32)) m91 e92
      refine lv_goto (tgt := 89) S.1 S.2.1 dX8_leads_85 (by decide) ?_
      refine lv_ior S.1 S.2.1 dX8_leads_89 ?_
      refine lv_topi (fun v94 e94 => ?_)
      have m95 : ((x3_3 ||| ((nI 1) <<< (((AB ad F) 60 (rl ((nI 40) + (nI q43)))) &&& 31))) ||| ((nI 1) <<< (((AB ad F) 60 (rl ((nI 28) + (nI q43)))) &&& 31))) = v94 := cg2 (fun (x : Int32) (y : Int32) => x ||| y) m71 m93 e94
      refine lv_istore_n (lv' := [(3, .int v94), (4, .int (nI q43)), (0, .ref (ad 58)), (1, .int p1), (2, .int p2)]) S.1 S.2.1 dX8_leads_90 rfl hl72 (by decide) rfl (fun ls96 hl96 => ?_)
      have m98 : ((nI q43) + Int32.ofInt (1)) = (nI (q43 + 1)) := (congrArg (fun q : Int32 => q + Int32.ofInt (1)) rfl).trans (nI_add _ 1)
      refine lv_iinc (v := (nI (q43 + 1))) (lv' := [(4, .int (nI (q43 + 1))), (3, .int v94), (0, .ref (ad 58)), (1, .int p1), (2, .int p2)]) S.1 S.2.1 dX8_leads_91 hl96 (k := 1) rfl (nI_add _ 1) (by decide) rfl (fun ls97 hl97 => ?_)
      refine lv_goto (tgt := 5) S.1 S.2.1 dX8_leads_94 (by decide) ?_
      have hE99 : M = (m_X8_leads_L5_3 n3) (AB ad F) (nI (q43 + 1)) v94 p1 p2 := hE4.trans ((show m_X8_leads_L5_3_b (m_X8_leads_L5_3 n3) (AB ad F) (nI q43) x3_3 p1 p2 = (m_X8_leads_L5_3 n3) (AB ad F) ((nI q43) + Int32.ofInt (1)) ((x3_3 ||| ((nI 1) <<< (((AB ad F) 60 (rl ((nI 40) + (nI q43)))) &&& 31))) ||| ((nI 1) <<< (((AB ad F) 60 (rl ((nI 28) + (nI q43)))) &&& 31))) p1 p2 from by unfold m_X8_leads_L5_3_b; rw [if_neg (nle_cg m10 rfl c11), if_pos (eq_cg m18 rfl c19), if_pos (eq_cg m29 rfl c30), if_pos (eq_cg m77 rfl c78)]).trans (congr (congr (congr (congr (congrArg ((m_X8_leads_L5_3 n3)) (rfl : AB ad F = AB ad F)) m98) m95) (Eq.refl (p1 : Int32))) (Eq.refl (p2 : Int32))))
      exact ih3 (q43 + 1) (v94) (by omega) (by omega) hE99 ls97 (lv_sub hl97 [0, 1, 2, 3, 4] rfl)
  have hE100 : M = m_X8_leads_L5_3 2000 (AB ad F) (nI 0) (nI 0) p1 p2 := hM.trans ((show m_X8_leads (AB ad F) p1 p2 = m_X8_leads_L5_3 2000 (AB ad F) (nI 0) (nI 0) p1 p2 from rfl).trans (congr (congr (congr (congr (congrArg (m_X8_leads_L5_3 2000) (rfl : AB ad F = AB ad F)) (Eq.refl ((nI 0) : Int32))) (Eq.refl ((nI 0) : Int32))) (Eq.refl (p1 : Int32))) (Eq.refl (p2 : Int32))))
  exact lp3 2000 (0) ((nI 0)) (by omega) (by omega) hE100 ls2 (lv_sub hl2 [0, 1, 2, 3, 4] rfl)
noncomputable def m_X8_walks_L10_6_b (k0 : SS → Int32 → Int32 → Int32 → Int32 → Int32) (σ : SS) (a0 : Int32) (a1 : Int32) (a2 : Int32) (a3 : Int32) : Int32 :=
  if (σ 60 (rl (nI 2))) ≤ a0 then
    a1
  else
    if (m_X8_isBanned σ a0) = (0 : Int32) then
      k0 σ (a0 + Int32.ofInt (1)) (a1 &&& ((-1) : Int32)) a2 a3
    else
      k0 σ (a0 + Int32.ofInt (1)) (a1 &&& (((nI 1) <<< (a0 &&& 31)) ^^^ ((-1) : Int32))) a2 a3
noncomputable def m_X8_walks_L10_6 : Nat → SS → Int32 → Int32 → Int32 → Int32 → Int32
  | 0 => fun σ _ _ _ _ => 0
  | n + 1 => m_X8_walks_L10_6_b (m_X8_walks_L10_6 n)
noncomputable def m_X8_walks (σ : SS) (a0 : Int32) (a1 : Int32) : Int32 :=
  m_X8_walks_L10_6 2000 σ (nI 0) (m_X8_leads σ a0 a1) a0 a1
set_option maxHeartbeats 4000000 in
set_option maxRecDepth 100000 in
theorem c_X8_walks (l : Launch) (D : va_G) (cA ad : Nat → Nat) (t : Nat) (hI : rI ad) (F : Nat → va_E) (hW : WT cA ad F) (p1 : Int32) (p2 : Int32) : MP l D cA ad t yX8_walks wsX8_walks { frames := 1, cells := 0, slots := 0, locals := 24 } [.ref (ad 58), .int p1, .int p2] F (fun r => (True) ∧ m_X8_walks (AB ad F) p1 p2 = r) := by
  refine en_P rfl (by decide +kernel) (Nat.le_of_ble_eq_true rfl) ?_
  intro p e s m args below meth c ls0 Q S hK hZ hP hS hl0 hret
  have hl0 : lv_has ls0 5 [(0, .ref (ad 58)), (1, .int p1), (2, .int p2)] := hl0
  have hiX8 : ∀ w ∈ u_ws RX8 TX8 23, w ∈ wsX8_walks := in_wsX8_walks_1
  obtain ⟨M, hM⟩ : ∃ M, M = m_X8_walks (AB ad F) p1 p2 := ⟨_, rfl⟩
  refine lv_aload_n S.1 S.2.1 dX8_walks_0 rfl (lv_at hl0 0 rfl) ?_
  refine lv_iload_n S.1 S.2.1 dX8_walks_1 rfl (lv_at hl0 1 rfl) ?_
  refine lv_iload_n S.1 S.2.1 dX8_walks_2 rfl (lv_at hl0 2 rfl) ?_
  obtain ⟨ty2, kn2, no2, en2, at2, sa2, sd2, wr2, pl2, va2, hF2, hb2_1, hb2_2, hb2_3, hb2_4, hb2_5, hb2_6⟩ := wt_m hW
  refine r_cVp (As := [.int p1, .int p2]) (rest := []) S hK hZ hP hS hl0.1 58 (by decide) hF2 (C := RX8) rfl (c_X8_leads l D cA ad t hI F hW p1 p2) (cwV 2 S.2.2.2.2 gX8_walks_X8_leads rfl rfl rfl (by decide +kernel) ⟨Nat.le_of_ble_eq_true rfl, Nat.le_of_ble_eq_true rfl⟩) rfl rfl (Nat.le_of_ble_eq_true rfl) ⟨Nat.zero_le _, Nat.zero_le _⟩ dX8_walks_3 (fun r1 hr1 => ?_)
  obtain ⟨hr1, hm1⟩ := hr1
  have m3 : (m_X8_leads (AB ad F) p1 p2) = r1 := (congr (congr (Eq.refl (m_X8_leads (AB ad F))) (Eq.refl (p1 : Int32))) (Eq.refl (p2 : Int32))).trans hm1
  refine lv_istore_n (lv' := [(3, .int r1), (0, .ref (ad 58)), (1, .int p1), (2, .int p2)]) S.1 S.2.1 dX8_walks_6 rfl hl0 (by decide) rfl (fun ls4 hl4 => ?_)
  refine lv_iconst (v := (nI 0)) S.1 S.2.1 dX8_walks_7 (by decide +kernel) ?_
  refine lv_istore (lv' := [(4, .int (nI 0)), (3, .int r1), (0, .ref (ad 58)), (1, .int p1), (2, .int p2)]) S.1 S.2.1 dX8_walks_8 hl4 (by decide) rfl (fun ls5 hl5 => ?_)
  have lp6 : ∀ (n6 : Nat) (q46 : Nat) (x6_3 : Int32), q46 ≤ 8 → 8 - q46 < n6 → M = m_X8_walks_L10_6 n6 (AB ad F) (nI q46) x6_3 p1 p2 → ∀ (ls : Array Slot), lv_has ls 5 [(4, .int (nI q46)), (3, .int x6_3), (0, .ref (ad 58)), (1, .int p1), (2, .int p2)] → W p l e { frames := 1, cells := 0, slots := 0, locals := 24 } s m args below meth c s.heap [] 0 0 Q (F0 m 10 ls []) := by
    intro n6
    induction n6 with
    | zero =>
      intro q46 x6_3 iv6_0 hm6 hEl6 ls6 hl6
      exact absurd hm6 (Nat.not_lt_zero _)
    | succ n6 ih6 =>
      intro q46 x6_3 iv6_0 hm6 hEl6 ls6 hl6
      have hE7 : M = m_X8_walks_L10_6_b (m_X8_walks_L10_6 n6) (AB ad F) (nI q46) x6_3 p1 p2 := hEl6
      refine lv_iload S.1 S.2.1 dX8_walks_10 (lv_at hl6 0 rfl) ?_
      refine lv_aload_n S.1 S.2.1 dX8_walks_12 rfl (lv_at hl6 2 rfl) ?_
      refine r_get S hK hP 58 (by decide) hF2 (C := RX8) (T := TX8) (N := 23) hiX8 rfl 2 (by decide) (am_at in_wsX8_walks_0 0 rfl) (v := .ref (ad 60)) rfl dX8_walks_13 ?_
      refine lv_iconst (v := (nI 2)) S.1 S.2.1 dX8_walks_16 (by decide +kernel) ?_
      obtain ⟨g8, hF8, hg8⟩ := wt_I hW (show (60, 52) ∈ rLI by decide)
      refine r_iald S hK hP 60 (by decide) hF8 (vp_in_nI (show 2 < 52 by omega) (by omega)) dX8_walks_17 ?_
      refine lv_topi (fun v10 e10 => ?_)
      obtain ⟨b11, hb11, he11⟩ := (pr_T (by decide) (hg8 2 (by decide))).2.1 rfl
      obtain rfl : v10 = nI b11 := e10.trans he11
      have m12 : ((AB ad F) 60 (rl (nI 2))) = (nI b11) := (ab_cg rfl rfl).trans ((AB_g hF8).trans e10.symm)
      refine lv_icmp_ge (tgt := 49) S.1 S.2.1 dX8_walks_18 (by decide) (fun c13 => ?_) (fun c13 => ?_)
      · skip
        have k14 := ci_le (nI_toInt (n := b11) (Nat.lt_of_le_of_lt hb11 (by decide))) (nI_toInt (n := q46) (by omega)) c13
        refine lv_iload_n S.1 S.2.1 dX8_walks_49 rfl (lv_at hl6 1 rfl) ?_
        have hE15 : M = x6_3 := hE7.trans ((show m_X8_walks_L10_6_b (m_X8_walks_L10_6 n6) (AB ad F) (nI q46) x6_3 p1 p2 = x6_3 from by unfold m_X8_walks_L10_6_b; rw [if_pos (le_cg m12 rfl c13)]).trans rfl)
        exact hret 50 _ _ dX8_walks_50 rfl (⟨trivial, hM.symm.trans hE15⟩)
      have k16 := ci_nle (nI_toInt (n := b11) (Nat.lt_of_le_of_lt hb11 (by decide))) (nI_toInt (n := q46) (by omega)) c13
      refine lv_iload_n S.1 S.2.1 dX8_walks_21 rfl (lv_at hl6 1 rfl) ?_
      refine lv_aload_n S.1 S.2.1 dX8_walks_22 rfl (lv_at hl6 2 rfl) ?_
      refine lv_iload S.1 S.2.1 dX8_walks_23 (lv_at hl6 0 rfl) ?_
      refine r_cVp (As := [.int (nI q46)]) (rest := [.int x6_3]) S hK hZ hP hS hl6.1 58 (by decide) hF2 (C := RX8) rfl (c_X8_isBanned l D cA ad t hI F hW (q46) (by omega)) (cwV 1 S.2.2.2.2 gX8_walks_X8_isBanned rfl rfl rfl (by decide +kernel) ⟨Nat.le_of_ble_eq_true rfl, Nat.le_of_ble_eq_true rfl⟩) rfl rfl (Nat.le_of_ble_eq_true rfl) ⟨Nat.zero_le _, Nat.zero_le _⟩ dX8_walks_25 (fun r17 hr17 => ?_)
      obtain ⟨hr17, hm17⟩ := hr17
      obtain ⟨b18, hb18, rfl⟩ := hr17
      have m19 : (m_X8_isBanned (AB ad F) (nI q46)) = (nI b18) := (congr (Eq.refl (m_X8_isBanned (AB ad F))) (Eq.refl ((nI q46) : Int32))).trans hm17
      refine lv_if_eq (tgt := 40) S.1 S.2.1 dX8_walks_28 (by decide) (fun c20 => ?_) (fun c20 => ?_)
      · skip
        have k21 := ci_eq (nI_toInt (n := b18) (Nat.lt_of_le_of_lt hb18 (by decide))) z_ti c20
        refine lv_iconst (v := (-1)) S.1 S.2.1 dX8_walks_40 (by decide +kernel) ?_
        refine lv_iand S.1 S.2.1 dX8_walks_41 ?_
        refine lv_topi (fun v22 e22 => ?_)
        have m23 : (x6_3 &&& ((-1) : Int32)) = v22 := cg2 (fun (x : Int32) (y : Int32) => x &&& y) (Eq.refl (x6_3 : Int32)) (Eq.refl ((-1) : Int32)) e22
        refine lv_istore_n (lv' := [(3, .int v22), (4, .int (nI q46)), (0, .ref (ad 58)), (1, .int p1), (2, .int p2)]) S.1 S.2.1 dX8_walks_42 rfl hl6 (by decide) rfl (fun ls24 hl24 => ?_)
        have m26 : ((nI q46) + Int32.ofInt (1)) = (nI (q46 + 1)) := (congrArg (fun q : Int32 => q + Int32.ofInt (1)) rfl).trans (nI_add _ 1)
        refine lv_iinc (v := (nI (q46 + 1))) (lv' := [(4, .int (nI (q46 + 1))), (3, .int v22), (0, .ref (ad 58)), (1, .int p1), (2, .int p2)]) S.1 S.2.1 dX8_walks_43 hl24 (k := 1) rfl (nI_add _ 1) (by decide) rfl (fun ls25 hl25 => ?_)
        refine lv_goto (tgt := 10) S.1 S.2.1 dX8_walks_46 (by decide) ?_
        have hE27 : M = (m_X8_walks_L10_6 n6) (AB ad F) (nI (q46 + 1)) v22 p1 p2 := hE7.trans ((show m_X8_walks_L10_6_b (m_X8_walks_L10_6 n6) (AB ad F) (nI q46) x6_3 p1 p2 = (m_X8_walks_L10_6 n6) (AB ad F) ((nI q46) + Int32.ofInt (1)) (x6_3 &&& ((-1) : Int32)) p1 p2 from by unfold m_X8_walks_L10_6_b; rw [if_neg (nle_cg m12 rfl c13), if_pos (eq_cg m19 rfl c20)]).trans (congr (congr (congr (congr (congrArg ((m_X8_walks_L10_6 n6)) (rfl : AB ad F = AB ad F)) m26) m23) (Eq.refl (p1 : Int32))) (Eq.refl (p2 : Int32))))
        exact ih6 (q46 + 1) (v22) (by omega) (by omega) hE27 ls25 (lv_sub hl25 [0, 1, 2, 3, 4] rfl)
      have k28 := ci_ne (nI_toInt (n := b18) (Nat.lt_of_le_of_lt hb18 (by decide))) z_ti c20
      refine lv_iconst (v := (nI 1)) S.1 S.2.1 dX8_walks_31 (by decide +kernel) ?_
      refine lv_iload S.1 S.2.1 dX8_walks_32 (lv_at hl6 0 rfl) ?_
      refine lv_ishl S.1 S.2.1 dX8_walks_34 ?_
      refine lv_topi (fun v29 e29 => ?_)
      have m30 : ((nI 1) <<< ((nI q46) &&& 31)) = v29 := cg2 (fun (x : Int32) (y : Int32) => x <<< (y &&& 31)) (Eq.refl ((nI 1) : Int32)) (Eq.refl ((nI q46) : Int32)) e29
      refine lv_iconst (v := (-1)) S.1 S.2.1 dX8_walks_35 (by decide +kernel) ?_
      refine lv_ixor S.1 S.2.1 dX8_walks_36 ?_
      refine lv_topi (fun v31 e31 => ?_)
      have m32 : (((nI 1) <<< ((nI q46) &&& 31)) ^^^ ((-1) : Int32)) = v31 := cg2 (fun (x : Int32) (y : Int32) => x ^^^ y) m30 (Eq.refl ((-1) : Int32)) e31
      refine lv_goto (tgt := 41) S.1 S.2.1 dX8_walks_37 (by decide) ?_
      refine lv_iand S.1 S.2.1 dX8_walks_41 ?_
      refine lv_topi (fun v33 e33 => ?_)
      have m34 : (x6_3 &&& (((nI 1) <<< ((nI q46) &&& 31)) ^^^ ((-1) : Int32))) = v33 := cg2 (fun (x : Int32) (y : Int32) => x &&& y) (Eq.refl (x6_3 : Int32)) m32 e33
      refine lv_istore_n (lv' := [(3, .int v33), (4, .int (nI q46)), (0, .ref (ad 58)), (1, .int p1), (2, .int p2)]) S.1 S.2.1 dX8_walks_42 rfl hl6 (by decide) rfl (fun ls35 hl35 => ?_)
      have m37 : ((nI q46) + Int32.ofInt (1)) = (nI (q46 + 1)) := (congrArg (fun q : Int32 => q + Int32.ofInt (1)) rfl).trans (nI_add _ 1)
      refine lv_iinc (v := (nI (q46 + 1))) (lv' := [(4, .int (nI (q46 + 1))), (3, .int v33), (0, .ref (ad 58)), (1, .int p1), (2, .int p2)]) S.1 S.2.1 dX8_walks_43 hl35 (k := 1) rfl (nI_add _ 1) (by decide) rfl (fun ls36 hl36 => ?_)
      refine lv_goto (tgt := 10) S.1 S.2.1 dX8_walks_46 (by decide) ?_
      have hE38 : M = (m_X8_walks_L10_6 n6) (AB ad F) (nI (q46 + 1)) v33 p1 p2 := hE7.trans ((show m_X8_walks_L10_6_b (m_X8_walks_L10_6 n6) (AB ad F) (nI q46) x6_3 p1 p2 = (m_X8_walks_L10_6 n6) (AB ad F) ((nI q46) + Int32.ofInt (1)) (x6_3 &&& (((nI 1) <<< ((nI q46) &&& 31)) ^^^ ((-1) : Int32))) p1 p2 from by unfold m_X8_walks_L10_6_b; rw [if_neg (nle_cg m12 rfl c13), if_neg (neq_cg m19 rfl c20)]).trans (congr (congr (congr (congr (congrArg ((m_X8_walks_L10_6 n6)) (rfl : AB ad F = AB ad F)) m37) m34) (Eq.refl (p1 : Int32))) (Eq.refl (p2 : Int32))))
      exact ih6 (q46 + 1) (v33) (by omega) (by omega) hE38 ls36 (lv_sub hl36 [0, 1, 2, 3, 4] rfl)
  have hE39 : M = m_X8_walks_L10_6 2000 (AB ad F) (nI 0) r1 p1 p2 := hM.trans ((show m_X8_walks (AB ad F) p1 p2 = m_X8_walks_L10_6 2000 (AB ad F) (nI 0) (m_X8_leads (AB ad F) p1 p2) p1 p2 from rfl).trans (congr (congr (congr (congr (congrArg (m_X8_walks_L10_6 2000) (rfl : AB ad F = AB ad F)) (Eq.refl ((nI 0) : Int32))) m3) (Eq.refl (p1 : Int32))) (Eq.refl (p2 : Int32))))
  exact lp6 2000 (0) (r1) (by omega) (by omega) hE39 ls5 (lv_sub hl5 [0, 1, 2, 3, 4] rfl)
noncomputable def m_X8_town (σ : SS) (a0 : Int32) (a1 : Int32) : Int32 :=
  if (m_X8_isTown σ a0) = (0 : Int32) then
    ((-1000000001) : Int32)
  else
    if a1.toInt = 0 then
      (σ 60 (rl ((nI 4) + a0)))
    else
      if a1.toInt = 1 then
        (σ 60 (rl ((nI 12) + a0)))
      else
        if a1.toInt = 2 then
          (σ 60 (rl ((nI 20) + a0)))
        else
          if a1.toInt = 3 then
            (m_X8_leads σ a0 (nI 0))
          else
            if a1.toInt = 4 then
              if (m_X8_isBanned σ a0) = (0 : Int32) then
                (nI 0)
              else
                (nI 1)
            else
              ((-1000000002) : Int32)
set_option maxHeartbeats 4000000 in
set_option maxRecDepth 100000 in
theorem c_X8_town (l : Launch) (D : va_G) (cA ad : Nat → Nat) (t : Nat) (hI : rI ad) (F : Nat → va_E) (hW : WT cA ad F) (p1 : Int32) (p2 : Int32) : MP l D cA ad t yX8_town wsX8_town { frames := 2, cells := 0, slots := 0, locals := 43 } [.ref (ad 58), .int p1, .int p2] F (fun r => (True) ∧ m_X8_town (AB ad F) p1 p2 = r) := by
  refine en_P rfl (by decide +kernel) (Nat.le_of_ble_eq_true rfl) ?_
  intro p e s m args below meth c ls0 Q S hK hZ hP hS hl0 hret
  have hl0 : lv_has ls0 3 [(0, .ref (ad 58)), (1, .int p1), (2, .int p2)] := hl0
  have hiX8 : ∀ w ∈ u_ws RX8 TX8 23, w ∈ wsX8_town := in_wsX8_town_1
  obtain ⟨M, hM⟩ : ∃ M, M = m_X8_town (AB ad F) p1 p2 := ⟨_, rfl⟩
  refine lv_aload_n S.1 S.2.1 dX8_town_0 rfl (lv_at hl0 0 rfl) ?_
  refine lv_iload_n S.1 S.2.1 dX8_town_1 rfl (lv_at hl0 1 rfl) ?_
  obtain ⟨ty2, kn2, no2, en2, at2, sa2, sd2, wr2, pl2, va2, hF2, hb2_1, hb2_2, hb2_3, hb2_4, hb2_5, hb2_6⟩ := wt_m hW
  refine r_cVp (As := [.int p1]) (rest := []) S hK hZ hP hS hl0.1 58 (by decide) hF2 (C := RX8) rfl (c_X8_isTown l D cA ad t hI F hW p1) (cwV 1 S.2.2.2.2 gX8_town_X8_isTown rfl rfl rfl (by decide +kernel) ⟨Nat.le_of_ble_eq_true rfl, Nat.le_of_ble_eq_true rfl⟩) rfl rfl (Nat.le_of_ble_eq_true rfl) ⟨Nat.zero_le _, Nat.zero_le _⟩ dX8_town_2 (fun r1 hr1 => ?_)
  obtain ⟨hr1, hm1⟩ := hr1
  obtain ⟨⟨b3, hb3, rfl⟩, hx3⟩ := hr1
  have hx3 : b3 ≠ 0 → 0 ≤ p1.toInt ∧ p1.toInt ≤ _ := fun q => hx3 (nI_ne0 (by omega) (by omega))
  have m4 : (m_X8_isTown (AB ad F) p1) = (nI b3) := (congr (Eq.refl (m_X8_isTown (AB ad F))) (Eq.refl (p1 : Int32))).trans hm1
  refine lv_if_ne (tgt := 11) S.1 S.2.1 dX8_town_5 (by decide) (fun c5 => ?_) (fun c5 => ?_)
  · skip
    have k6 := ci_ne (nI_toInt (n := b3) (Nat.lt_of_le_of_lt hb3 (by decide))) z_ti c5
    obtain ⟨j7, hj7, rfl⟩ := nI_of_le (x := p1) (B := 7) (by omega) (by omega)
    have kj7 := nI_toInt (n := j7) (Nat.lt_of_le_of_lt hj7 (by decide))
    refine lv_iload_n S.1 S.2.1 dX8_town_11 rfl (lv_at hl0 2 rfl) ?_
    by_cases hs8_0 : p2.toInt = 0
    · refine lv_tableIn (off := 36) (tgt := 48) S.1 S.2.1 dX8_town_12 (by omega) (by omega) (by rw [hs8_0]; rfl) (by decide) ?_
      refine lv_aload_n S.1 S.2.1 dX8_town_48 rfl (lv_at hl0 0 rfl) ?_
      refine r_get S hK hP 58 (by decide) hF2 (C := RX8) (T := TX8) (N := 23) hiX8 rfl 2 (by decide) (am_at in_wsX8_town_0 1 rfl) (v := .ref (ad 60)) rfl dX8_town_49 ?_
      refine lv_iconst (v := (nI 4)) S.1 S.2.1 dX8_town_52 (by decide +kernel) ?_
      refine lv_iload_n S.1 S.2.1 dX8_town_53 rfl (lv_at hl0 1 rfl) ?_
      refine lv_iadd S.1 S.2.1 dX8_town_54 ?_
      refine lv_topi (fun v9 e9 => ?_)
      obtain rfl : v9 = nI (4 + j7) := e9.trans (nI_add _ _)
      have m10 : ((nI 4) + (nI j7)) = (nI (4 + j7)) := cg2 (fun (x : Int32) (y : Int32) => x + y) (Eq.refl ((nI 4) : Int32)) (Eq.refl ((nI j7) : Int32)) e9
      obtain ⟨g11, hF11, hg11⟩ := wt_I hW (show (60, 52) ∈ rLI by decide)
      refine r_iald S hK hP 60 (by decide) hF11 (vp_in_nI (show 4 + j7 < 52 by omega) (by omega)) dX8_town_55 ?_
      refine lv_topi (fun v13 e13 => ?_)
      have m14 : ((AB ad F) 60 (rl ((nI 4) + (nI j7)))) = v13 := (ab_cg rfl m10).trans ((AB_g hF11).trans e13.symm)
      have hE15 : M = v13 := hM.trans ((show m_X8_town (AB ad F) (nI j7) p2 = ((AB ad F) 60 (rl ((nI 4) + (nI j7)))) from by unfold m_X8_town; rw [if_neg (neq_cg m4 rfl c5), if_pos (ti_cg rfl hs8_0)]).trans m14)
      exact hret 56 _ _ dX8_town_56 rfl (⟨trivial, hM.symm.trans hE15⟩)
    by_cases hs8_1 : p2.toInt = 1
    · refine lv_tableIn (off := 45) (tgt := 57) S.1 S.2.1 dX8_town_12 (by omega) (by omega) (by rw [hs8_1]; rfl) (by decide) ?_
      refine lv_aload_n S.1 S.2.1 dX8_town_57 rfl (lv_at hl0 0 rfl) ?_
      refine r_get S hK hP 58 (by decide) hF2 (C := RX8) (T := TX8) (N := 23) hiX8 rfl 2 (by decide) (am_at in_wsX8_town_0 1 rfl) (v := .ref (ad 60)) rfl dX8_town_58 ?_
      refine lv_bipush (v := (nI 12)) S.1 S.2.1 dX8_town_61 (by decide +kernel) ?_
      refine lv_iload_n S.1 S.2.1 dX8_town_63 rfl (lv_at hl0 1 rfl) ?_
      refine lv_iadd S.1 S.2.1 dX8_town_64 ?_
      refine lv_topi (fun v16 e16 => ?_)
      obtain rfl : v16 = nI (12 + j7) := e16.trans (nI_add _ _)
      have m17 : ((nI 12) + (nI j7)) = (nI (12 + j7)) := cg2 (fun (x : Int32) (y : Int32) => x + y) (Eq.refl ((nI 12) : Int32)) (Eq.refl ((nI j7) : Int32)) e16
      obtain ⟨g18, hF18, hg18⟩ := wt_I hW (show (60, 52) ∈ rLI by decide)
      refine r_iald S hK hP 60 (by decide) hF18 (vp_in_nI (show 12 + j7 < 52 by omega) (by omega)) dX8_town_65 ?_
      refine lv_topi (fun v20 e20 => ?_)
      have m21 : ((AB ad F) 60 (rl ((nI 12) + (nI j7)))) = v20 := (ab_cg rfl m17).trans ((AB_g hF18).trans e20.symm)
      have hE22 : M = v20 := hM.trans ((show m_X8_town (AB ad F) (nI j7) p2 = ((AB ad F) 60 (rl ((nI 12) + (nI j7)))) from by unfold m_X8_town; rw [if_neg (neq_cg m4 rfl c5), if_neg (nti_cg rfl hs8_0), if_pos (ti_cg rfl hs8_1)]).trans m21)
      exact hret 66 _ _ dX8_town_66 rfl (⟨trivial, hM.symm.trans hE22⟩)
    by_cases hs8_2 : p2.toInt = 2
    · refine lv_tableIn (off := 55) (tgt := 67) S.1 S.2.1 dX8_town_12 (by omega) (by omega) (by rw [hs8_2]; rfl) (by decide) ?_
      refine lv_aload_n S.1 S.2.1 dX8_town_67 rfl (lv_at hl0 0 rfl) ?_
      refine r_get S hK hP 58 (by decide) hF2 (C := RX8) (T := TX8) (N := 23) hiX8 rfl 2 (by decide) (am_at in_wsX8_town_0 1 rfl) (v := .ref (ad 60)) rfl dX8_town_68 ?_
      refine lv_bipush (v := (nI 20)) S.1 S.2.1 dX8_town_71 (by decide +kernel) ?_
      refine lv_iload_n S.1 S.2.1 dX8_town_73 rfl (lv_at hl0 1 rfl) ?_
      refine lv_iadd S.1 S.2.1 dX8_town_74 ?_
      refine lv_topi (fun v23 e23 => ?_)
      obtain rfl : v23 = nI (20 + j7) := e23.trans (nI_add _ _)
      have m24 : ((nI 20) + (nI j7)) = (nI (20 + j7)) := cg2 (fun (x : Int32) (y : Int32) => x + y) (Eq.refl ((nI 20) : Int32)) (Eq.refl ((nI j7) : Int32)) e23
      obtain ⟨g25, hF25, hg25⟩ := wt_I hW (show (60, 52) ∈ rLI by decide)
      refine r_iald S hK hP 60 (by decide) hF25 (vp_in_nI (show 20 + j7 < 52 by omega) (by omega)) dX8_town_75 ?_
      refine lv_topi (fun v27 e27 => ?_)
      have m28 : ((AB ad F) 60 (rl ((nI 20) + (nI j7)))) = v27 := (ab_cg rfl m24).trans ((AB_g hF25).trans e27.symm)
      have hE29 : M = v27 := hM.trans ((show m_X8_town (AB ad F) (nI j7) p2 = ((AB ad F) 60 (rl ((nI 20) + (nI j7)))) from by unfold m_X8_town; rw [if_neg (neq_cg m4 rfl c5), if_neg (nti_cg rfl hs8_0), if_neg (nti_cg rfl hs8_1), if_pos (ti_cg rfl hs8_2)]).trans m28)
      exact hret 76 _ _ dX8_town_76 rfl (⟨trivial, hM.symm.trans hE29⟩)
    by_cases hs8_3 : p2.toInt = 3
    · refine lv_tableIn (off := 65) (tgt := 77) S.1 S.2.1 dX8_town_12 (by omega) (by omega) (by rw [hs8_3]; rfl) (by decide) ?_
      refine lv_aload_n S.1 S.2.1 dX8_town_77 rfl (lv_at hl0 0 rfl) ?_
      refine lv_iload_n S.1 S.2.1 dX8_town_78 rfl (lv_at hl0 1 rfl) ?_
      refine lv_iconst (v := (nI 0)) S.1 S.2.1 dX8_town_79 (by decide +kernel) ?_
      refine r_cVp (As := [.int (nI j7), .int (nI 0)]) (rest := []) S hK hZ hP hS hl0.1 58 (by decide) hF2 (C := RX8) rfl (c_X8_leads l D cA ad t hI F hW (nI j7) (nI 0)) (cwV 2 S.2.2.2.2 gX8_town_X8_leads rfl rfl rfl (by decide +kernel) ⟨Nat.le_of_ble_eq_true rfl, Nat.le_of_ble_eq_true rfl⟩) rfl rfl (Nat.le_of_ble_eq_true rfl) ⟨Nat.zero_le _, Nat.zero_le _⟩ dX8_town_80 (fun r30 hr30 => ?_)
      obtain ⟨hr30, hm30⟩ := hr30
      have m31 : (m_X8_leads (AB ad F) (nI j7) (nI 0)) = r30 := (congr (congr (Eq.refl (m_X8_leads (AB ad F))) (Eq.refl ((nI j7) : Int32))) (Eq.refl ((nI 0) : Int32))).trans hm30
      have hE32 : M = r30 := hM.trans ((show m_X8_town (AB ad F) (nI j7) p2 = (m_X8_leads (AB ad F) (nI j7) (nI 0)) from by unfold m_X8_town; rw [if_neg (neq_cg m4 rfl c5), if_neg (nti_cg rfl hs8_0), if_neg (nti_cg rfl hs8_1), if_neg (nti_cg rfl hs8_2), if_pos (ti_cg rfl hs8_3)]).trans m31)
      exact hret 83 _ _ dX8_town_83 rfl (⟨trivial, hM.symm.trans hE32⟩)
    by_cases hs8_4 : p2.toInt = 4
    · refine lv_tableIn (off := 72) (tgt := 84) S.1 S.2.1 dX8_town_12 (by omega) (by omega) (by rw [hs8_4]; rfl) (by decide) ?_
      refine lv_aload_n S.1 S.2.1 dX8_town_84 rfl (lv_at hl0 0 rfl) ?_
      refine lv_iload_n S.1 S.2.1 dX8_town_85 rfl (lv_at hl0 1 rfl) ?_
      refine r_cVp (As := [.int (nI j7)]) (rest := []) S hK hZ hP hS hl0.1 58 (by decide) hF2 (C := RX8) rfl (c_X8_isBanned l D cA ad t hI F hW (j7) (by omega)) (cwV 1 S.2.2.2.2 gX8_town_X8_isBanned rfl rfl rfl (by decide +kernel) ⟨Nat.le_of_ble_eq_true rfl, Nat.le_of_ble_eq_true rfl⟩) rfl rfl (Nat.le_of_ble_eq_true rfl) ⟨Nat.zero_le _, Nat.zero_le _⟩ dX8_town_86 (fun r33 hr33 => ?_)
      obtain ⟨hr33, hm33⟩ := hr33
      obtain ⟨b34, hb34, rfl⟩ := hr33
      have m35 : (m_X8_isBanned (AB ad F) (nI j7)) = (nI b34) := (congr (Eq.refl (m_X8_isBanned (AB ad F))) (Eq.refl ((nI j7) : Int32))).trans hm33
      refine lv_if_eq (tgt := 96) S.1 S.2.1 dX8_town_89 (by decide) (fun c36 => ?_) (fun c36 => ?_)
      · skip
        have k37 := ci_eq (nI_toInt (n := b34) (Nat.lt_of_le_of_lt hb34 (by decide))) z_ti c36
        refine lv_iconst (v := (nI 0)) S.1 S.2.1 dX8_town_96 (by decide +kernel) ?_
        have hE38 : M = (nI 0) := hM.trans ((show m_X8_town (AB ad F) (nI j7) p2 = (nI 0) from by unfold m_X8_town; rw [if_neg (neq_cg m4 rfl c5), if_neg (nti_cg rfl hs8_0), if_neg (nti_cg rfl hs8_1), if_neg (nti_cg rfl hs8_2), if_neg (nti_cg rfl hs8_3), if_pos (ti_cg rfl hs8_4), if_pos (eq_cg m35 rfl c36)]).trans rfl)
        exact hret 97 _ _ dX8_town_97 rfl (⟨trivial, hM.symm.trans hE38⟩)
      have k39 := ci_ne (nI_toInt (n := b34) (Nat.lt_of_le_of_lt hb34 (by decide))) z_ti c36
      refine lv_iconst (v := (nI 1)) S.1 S.2.1 dX8_town_92 (by decide +kernel) ?_
      refine lv_goto (tgt := 97) S.1 S.2.1 dX8_town_93 (by decide) ?_
      have hE40 : M = (nI 1) := hM.trans ((show m_X8_town (AB ad F) (nI j7) p2 = (nI 1) from by unfold m_X8_town; rw [if_neg (neq_cg m4 rfl c5), if_neg (nti_cg rfl hs8_0), if_neg (nti_cg rfl hs8_1), if_neg (nti_cg rfl hs8_2), if_neg (nti_cg rfl hs8_3), if_pos (ti_cg rfl hs8_4), if_neg (neq_cg m35 rfl c36)]).trans rfl)
      exact hret 97 _ _ dX8_town_97 rfl (⟨trivial, hM.symm.trans hE40⟩)
    refine lv_tableOut (tgt := 98) S.1 S.2.1 dX8_town_12 (by omega) (by decide) ?_
    refine lv_ldc (v := (-1000000002)) S.1 S.2.1 S.2.2.2.1 (S.2.2.2.2 (.constant RX8 59 (-1000000002)) (am_at in_wsX8_town_0 2 rfl)) dX8_town_98 ?_
    have hE41 : M = (-1000000002) := hM.trans ((show m_X8_town (AB ad F) (nI j7) p2 = ((-1000000002) : Int32) from by unfold m_X8_town; rw [if_neg (neq_cg m4 rfl c5), if_neg (nti_cg rfl hs8_0), if_neg (nti_cg rfl hs8_1), if_neg (nti_cg rfl hs8_2), if_neg (nti_cg rfl hs8_3), if_neg (nti_cg rfl hs8_4)]).trans rfl)
    exact hret 100 _ _ dX8_town_100 rfl (⟨trivial, hM.symm.trans hE41⟩)
  have k42 := ci_eq (nI_toInt (n := b3) (Nat.lt_of_le_of_lt hb3 (by decide))) z_ti c5
  refine lv_ldc (v := (-1000000001)) S.1 S.2.1 S.2.2.2.1 (S.2.2.2.2 (.constant RX8 126 (-1000000001)) (am_at in_wsX8_town_0 0 rfl)) dX8_town_8 ?_
  have hE43 : M = (-1000000001) := hM.trans ((show m_X8_town (AB ad F) p1 p2 = ((-1000000001) : Int32) from by unfold m_X8_town; rw [if_pos (eq_cg m4 rfl c5)]).trans rfl)
  exact hret 10 _ _ dX8_town_10 rfl (⟨trivial, hM.symm.trans hE43⟩)
noncomputable def m_X8_road (σ : SS) (a0 : Int32) (a1 : Int32) : Int32 :=
  if (m_X8_isRoad σ a0) = (0 : Int32) then
    ((-1000000001) : Int32)
  else
    if a1.toInt = 0 then
      (σ 60 (rl ((nI 28) + a0)))
    else
      if a1.toInt = 1 then
        (σ 60 (rl ((nI 40) + a0)))
      else
        if a1.toInt = 2 then
          (((σ 62 (rl (nI 5))) >>> (a0 &&& 31)) &&& (nI 1))
        else
          ((-1000000002) : Int32)
set_option maxHeartbeats 4000000 in
set_option maxRecDepth 100000 in
theorem c_X8_road (l : Launch) (D : va_G) (cA ad : Nat → Nat) (t : Nat) (hI : rI ad) (F : Nat → va_E) (hW : WT cA ad F) (p1 : Int32) (p2 : Int32) : MP l D cA ad t yX8_road wsX8_road { frames := 2, cells := 0, slots := 0, locals := 43 } [.ref (ad 58), .int p1, .int p2] F (fun r => (True) ∧ m_X8_road (AB ad F) p1 p2 = r) := by
  refine en_P rfl (by decide +kernel) (Nat.le_of_ble_eq_true rfl) ?_
  intro p e s m args below meth c ls0 Q S hK hZ hP hS hl0 hret
  have hl0 : lv_has ls0 3 [(0, .ref (ad 58)), (1, .int p1), (2, .int p2)] := hl0
  have hiX8 : ∀ w ∈ u_ws RX8 TX8 23, w ∈ wsX8_road := in_wsX8_road_1
  obtain ⟨M, hM⟩ : ∃ M, M = m_X8_road (AB ad F) p1 p2 := ⟨_, rfl⟩
  refine lv_aload_n S.1 S.2.1 dX8_road_0 rfl (lv_at hl0 0 rfl) ?_
  refine lv_iload_n S.1 S.2.1 dX8_road_1 rfl (lv_at hl0 1 rfl) ?_
  obtain ⟨ty2, kn2, no2, en2, at2, sa2, sd2, wr2, pl2, va2, hF2, hb2_1, hb2_2, hb2_3, hb2_4, hb2_5, hb2_6⟩ := wt_m hW
  refine r_cVp (As := [.int p1]) (rest := []) S hK hZ hP hS hl0.1 58 (by decide) hF2 (C := RX8) rfl (c_X8_isRoad l D cA ad t hI F hW p1) (cwV 1 S.2.2.2.2 gX8_road_X8_isRoad rfl rfl rfl (by decide +kernel) ⟨Nat.le_of_ble_eq_true rfl, Nat.le_of_ble_eq_true rfl⟩) rfl rfl (Nat.le_of_ble_eq_true rfl) ⟨Nat.zero_le _, Nat.zero_le _⟩ dX8_road_2 (fun r1 hr1 => ?_)
  obtain ⟨hr1, hm1⟩ := hr1
  obtain ⟨⟨b3, hb3, rfl⟩, hx3⟩ := hr1
  have hx3 : b3 ≠ 0 → 0 ≤ p1.toInt ∧ p1.toInt ≤ _ := fun q => hx3 (nI_ne0 (by omega) (by omega))
  have m4 : (m_X8_isRoad (AB ad F) p1) = (nI b3) := (congr (Eq.refl (m_X8_isRoad (AB ad F))) (Eq.refl (p1 : Int32))).trans hm1
  refine lv_if_ne (tgt := 11) S.1 S.2.1 dX8_road_5 (by decide) (fun c5 => ?_) (fun c5 => ?_)
  · skip
    have k6 := ci_ne (nI_toInt (n := b3) (Nat.lt_of_le_of_lt hb3 (by decide))) z_ti c5
    obtain ⟨j7, hj7, rfl⟩ := nI_of_le (x := p1) (B := 11) (by omega) (by omega)
    have kj7 := nI_toInt (n := j7) (Nat.lt_of_le_of_lt hj7 (by decide))
    refine lv_iload_n S.1 S.2.1 dX8_road_11 rfl (lv_at hl0 2 rfl) ?_
    by_cases hs8_0 : p2.toInt = 0
    · refine lv_tableIn (off := 28) (tgt := 40) S.1 S.2.1 dX8_road_12 (by omega) (by omega) (by rw [hs8_0]; rfl) (by decide) ?_
      refine lv_aload_n S.1 S.2.1 dX8_road_40 rfl (lv_at hl0 0 rfl) ?_
      refine r_get S hK hP 58 (by decide) hF2 (C := RX8) (T := TX8) (N := 23) hiX8 rfl 2 (by decide) (am_at in_wsX8_road_0 1 rfl) (v := .ref (ad 60)) rfl dX8_road_41 ?_
      refine lv_bipush (v := (nI 28)) S.1 S.2.1 dX8_road_44 (by decide +kernel) ?_
      refine lv_iload_n S.1 S.2.1 dX8_road_46 rfl (lv_at hl0 1 rfl) ?_
      refine lv_iadd S.1 S.2.1 dX8_road_47 ?_
      refine lv_topi (fun v9 e9 => ?_)
      obtain rfl : v9 = nI (28 + j7) := e9.trans (nI_add _ _)
      have m10 : ((nI 28) + (nI j7)) = (nI (28 + j7)) := cg2 (fun (x : Int32) (y : Int32) => x + y) (Eq.refl ((nI 28) : Int32)) (Eq.refl ((nI j7) : Int32)) e9
      obtain ⟨g11, hF11, hg11⟩ := wt_I hW (show (60, 52) ∈ rLI by decide)
      refine r_iald S hK hP 60 (by decide) hF11 (vp_in_nI (show 28 + j7 < 52 by omega) (by omega)) dX8_road_48 ?_
      refine lv_topi (fun v13 e13 => ?_)
      have m14 : ((AB ad F) 60 (rl ((nI 28) + (nI j7)))) = v13 := (ab_cg rfl m10).trans ((AB_g hF11).trans e13.symm)
      have hE15 : M = v13 := hM.trans ((show m_X8_road (AB ad F) (nI j7) p2 = ((AB ad F) 60 (rl ((nI 28) + (nI j7)))) from by unfold m_X8_road; rw [if_neg (neq_cg m4 rfl c5), if_pos (ti_cg rfl hs8_0)]).trans m14)
      exact hret 49 _ _ dX8_road_49 rfl (⟨trivial, hM.symm.trans hE15⟩)
    by_cases hs8_1 : p2.toInt = 1
    · refine lv_tableIn (off := 38) (tgt := 50) S.1 S.2.1 dX8_road_12 (by omega) (by omega) (by rw [hs8_1]; rfl) (by decide) ?_
      refine lv_aload_n S.1 S.2.1 dX8_road_50 rfl (lv_at hl0 0 rfl) ?_
      refine r_get S hK hP 58 (by decide) hF2 (C := RX8) (T := TX8) (N := 23) hiX8 rfl 2 (by decide) (am_at in_wsX8_road_0 1 rfl) (v := .ref (ad 60)) rfl dX8_road_51 ?_
      refine lv_bipush (v := (nI 40)) S.1 S.2.1 dX8_road_54 (by decide +kernel) ?_
      refine lv_iload_n S.1 S.2.1 dX8_road_56 rfl (lv_at hl0 1 rfl) ?_
      refine lv_iadd S.1 S.2.1 dX8_road_57 ?_
      refine lv_topi (fun v16 e16 => ?_)
      obtain rfl : v16 = nI (40 + j7) := e16.trans (nI_add _ _)
      have m17 : ((nI 40) + (nI j7)) = (nI (40 + j7)) := cg2 (fun (x : Int32) (y : Int32) => x + y) (Eq.refl ((nI 40) : Int32)) (Eq.refl ((nI j7) : Int32)) e16
      obtain ⟨g18, hF18, hg18⟩ := wt_I hW (show (60, 52) ∈ rLI by decide)
      refine r_iald S hK hP 60 (by decide) hF18 (vp_in_nI (show 40 + j7 < 52 by omega) (by omega)) dX8_road_58 ?_
      refine lv_topi (fun v20 e20 => ?_)
      have m21 : ((AB ad F) 60 (rl ((nI 40) + (nI j7)))) = v20 := (ab_cg rfl m17).trans ((AB_g hF18).trans e20.symm)
      have hE22 : M = v20 := hM.trans ((show m_X8_road (AB ad F) (nI j7) p2 = ((AB ad F) 60 (rl ((nI 40) + (nI j7)))) from by unfold m_X8_road; rw [if_neg (neq_cg m4 rfl c5), if_neg (nti_cg rfl hs8_0), if_pos (ti_cg rfl hs8_1)]).trans m21)
      exact hret 59 _ _ dX8_road_59 rfl (⟨trivial, hM.symm.trans hE22⟩)
    by_cases hs8_2 : p2.toInt = 2
    · refine lv_tableIn (off := 48) (tgt := 60) S.1 S.2.1 dX8_road_12 (by omega) (by omega) (by rw [hs8_2]; rfl) (by decide) ?_
      refine lv_aload_n S.1 S.2.1 dX8_road_60 rfl (lv_at hl0 0 rfl) ?_
      refine r_get S hK hP 58 (by decide) hF2 (C := RX8) (T := TX8) (N := 23) hiX8 rfl 4 (by decide) (am_at in_wsX8_road_0 2 rfl) (v := .ref (ad 62)) rfl dX8_road_61 ?_
      refine lv_iconst (v := (nI 5)) S.1 S.2.1 dX8_road_64 (by decide +kernel) ?_
      obtain ⟨g23, hF23, hg23⟩ := wt_I hW (show (62, 7) ∈ rLI by decide)
      refine r_iald S hK hP 62 (by decide) hF23 (vp_in_nI (show 5 < 7 by omega) (by omega)) dX8_road_65 ?_
      refine lv_topi (fun v25 e25 => ?_)
      have m26 : ((AB ad F) 62 (rl (nI 5))) = v25 := (ab_cg rfl rfl).trans ((AB_g hF23).trans e25.symm)
      refine lv_iload_n S.1 S.2.1 dX8_road_66 rfl (lv_at hl0 1 rfl) ?_
      refine lv_ishr S.1 S.2.1 dX8_road_67 ?_
      refine lv_topi (fun v27 e27 => ?_)
      have m28 : (((AB ad F) 62 (rl (nI 5))) >>> ((nI j7) &&& 31)) = v27 := cg2 (fun (x : Int32) (y : Int32) => x >>> (y &&& 31)) m26 (Eq.refl ((nI j7) : Int32)) e27
      refine lv_iconst (v := (nI 1)) S.1 S.2.1 dX8_road_68 (by decide +kernel) ?_
      refine lv_iand S.1 S.2.1 dX8_road_69 ?_
      refine lv_topi (fun v29 e29 => ?_)
      have m30 : ((((AB ad F) 62 (rl (nI 5))) >>> ((nI j7) &&& 31)) &&& (nI 1)) = v29 := cg2 (fun (x : Int32) (y : Int32) => x &&& y) m28 (Eq.refl ((nI 1) : Int32)) e29
      have hE31 : M = v29 := hM.trans ((show m_X8_road (AB ad F) (nI j7) p2 = ((((AB ad F) 62 (rl (nI 5))) >>> ((nI j7) &&& 31)) &&& (nI 1)) from by unfold m_X8_road; rw [if_neg (neq_cg m4 rfl c5), if_neg (nti_cg rfl hs8_0), if_neg (nti_cg rfl hs8_1), if_pos (ti_cg rfl hs8_2)]).trans m30)
      exact hret 70 _ _ dX8_road_70 rfl (⟨trivial, hM.symm.trans hE31⟩)
    refine lv_tableOut (tgt := 71) S.1 S.2.1 dX8_road_12 (by omega) (by decide) ?_
    refine lv_ldc (v := (-1000000002)) S.1 S.2.1 S.2.2.2.1 (S.2.2.2.2 (.constant RX8 59 (-1000000002)) (am_at in_wsX8_road_0 3 rfl)) dX8_road_71 ?_
    have hE32 : M = (-1000000002) := hM.trans ((show m_X8_road (AB ad F) (nI j7) p2 = ((-1000000002) : Int32) from by unfold m_X8_road; rw [if_neg (neq_cg m4 rfl c5), if_neg (nti_cg rfl hs8_0), if_neg (nti_cg rfl hs8_1), if_neg (nti_cg rfl hs8_2)]).trans rfl)
    exact hret 73 _ _ dX8_road_73 rfl (⟨trivial, hM.symm.trans hE32⟩)
  have k33 := ci_eq (nI_toInt (n := b3) (Nat.lt_of_le_of_lt hb3 (by decide))) z_ti c5
  refine lv_ldc (v := (-1000000001)) S.1 S.2.1 S.2.2.2.1 (S.2.2.2.2 (.constant RX8 126 (-1000000001)) (am_at in_wsX8_road_0 0 rfl)) dX8_road_8 ?_
  have hE34 : M = (-1000000001) := hM.trans ((show m_X8_road (AB ad F) p1 p2 = ((-1000000001) : Int32) from by unfold m_X8_road; rw [if_pos (eq_cg m4 rfl c5)]).trans rfl)
  exact hret 10 _ _ dX8_road_10 rfl (⟨trivial, hM.symm.trans hE34⟩)
noncomputable def m_X8_keeps_107 (k0 : SS → Int32 → SS) (σ : SS) (a0 : Int32) : SS :=
  k0 σ (a0 + Int32.ofInt (1))
noncomputable def m_X8_keeps_88 (k0 : SS → Int32 → SS) (k1 : SS → Int32 → SS) (σ : SS) (a0 : Int32) : SS :=
  k1 σ (a0 + Int32.ofInt (1))
noncomputable def m_X8_keeps_72 (k0 : SS → Int32 → SS) (k1 : SS → Int32 → SS) (σ : SS) (a0 : Int32) : SS :=
  σ
noncomputable def m_X8_keeps_L51_61_b (k0 : SS → Int32 → SS) (k1 : SS → Int32 → SS) (σ : SS) (a0 : Int32) : SS :=
  if (nI 7) ≤ a0 then
    m_X8_keeps_72 k0 k1 (st σ 58 6 ((σ 58 6) + (nI 1))) a0
  else
    m_X8_keeps_88 k0 k1 (st σ 63 (rl (((nI 7) * (σ 58 6)) + a0)) (σ 62 (rl a0))) a0
noncomputable def m_X8_keeps_L51_61 (k0 : SS → Int32 → SS) : Nat → SS → Int32 → SS
  | 0 => fun σ _ => σ
  | n + 1 => m_X8_keeps_L51_61_b k0 (m_X8_keeps_L51_61 k0 n)
noncomputable def m_X8_keeps_58 (k0 : SS → Int32 → SS) (σ : SS) (a0 : Int32) : SS :=
  m_X8_keeps_L51_61 k0 2000 σ (nI 0)
noncomputable def m_X8_keeps_L11_47_b (k0 : SS → Int32 → SS) (σ : SS) (a0 : Int32) : SS :=
  if (nI 133) ≤ a0 then
    m_X8_keeps_58 k0 (st σ 58 6 ((σ 58 6) - (nI 1))) a0
  else
    m_X8_keeps_107 k0 (st σ 63 (rl a0) (σ 63 (rl (a0 + (nI 7))))) a0
noncomputable def m_X8_keeps_L11_47 : Nat → SS → Int32 → SS
  | 0 => fun σ _ => σ
  | n + 1 => m_X8_keeps_L11_47_b (m_X8_keeps_L11_47 n)
noncomputable def m_X8_keeps_34 (k0 : SS → Int32 → SS) (σ : SS) (a0 : Int32) : SS :=
  k0 σ (a0 + Int32.ofInt (1))
noncomputable def m_X8_keeps_18 (k0 : SS → Int32 → SS) (σ : SS) (a0 : Int32) : SS :=
  σ
noncomputable def m_X8_keeps_L51_7_b (k0 : SS → Int32 → SS) (σ : SS) (a0 : Int32) : SS :=
  if (nI 7) ≤ a0 then
    m_X8_keeps_18 k0 (st σ 58 6 ((σ 58 6) + (nI 1))) a0
  else
    m_X8_keeps_34 k0 (st σ 63 (rl (((nI 7) * (σ 58 6)) + a0)) (σ 62 (rl a0))) a0
noncomputable def m_X8_keeps_L51_7 : Nat → SS → Int32 → SS
  | 0 => fun σ _ => σ
  | n + 1 => m_X8_keeps_L51_7_b (m_X8_keeps_L51_7 n)
noncomputable def m_X8_keeps (σ : SS) : SS :=
  if (σ 58 6) = (nI 20) then
    m_X8_keeps_L11_47 2000 σ (nI 0)
  else
    m_X8_keeps_L51_7 2000 σ (nI 0)
set_option maxHeartbeats 4000000 in
set_option maxRecDepth 100000 in
theorem c_X8_keeps (l : Launch) (D : va_G) (cA ad : Nat → Nat) (t : Nat) (hI : rI ad) (F : Nat → va_E) (hW : WT cA ad F) : MV l D cA ad t yX8_keeps wsX8_keeps { frames := 0, cells := 0, slots := 0, locals := 0 } [.ref (ad 58)] F (fun F' => WT cA ad F' ∧ rFr [58, 63] F F' ∧ ((fN (F' 58) 1 = fN (F 58) 1) ∧ m_X8_keeps (AB ad F) = AB ad F')) := by
  refine en_V rfl (by decide +kernel) (Nat.le_of_ble_eq_true rfl) ?_
  intro p e s m args below meth c ls0 Q S hK hZ hP hS hl0 hret
  have hl0 : lv_has ls0 2 [(0, .ref (ad 58))] := hl0
  have hFr : rFr [58, 63] F F := rFr.rf
  have hiX8 : ∀ w ∈ u_ws RX8 TX8 23, w ∈ wsX8_keeps := in_wsX8_keeps_1
  obtain ⟨M, hM⟩ : ∃ M, M = m_X8_keeps (AB ad F) := ⟨_, rfl⟩
  obtain ⟨ty1, kn1, no1, en1, at1, sa1, sd1, wr1, pl1, va1, hF1, hb1_1, hb1_2, hb1_3, hb1_4, hb1_5, hb1_6⟩ := wt_m hW
  have hA2 := fN_of (k := 14) (a := at1) hF1 rfl (Nat.lt_of_le_of_lt hb1_5 (by decide))
  have hL2 := fN_of (k := 1) (a := ty1) hF1 rfl (Nat.lt_of_le_of_lt hb1_1 (by decide))
  refine lv_aload_n S.1 S.2.1 dX8_keeps_0 rfl (lv_at hl0 0 rfl) ?_
  refine r_get S hK hP 58 (by decide) hF1 (C := RX8) (T := TX8) (N := 23) hiX8 rfl 6 (by decide) (am_at in_wsX8_keeps_0 0 rfl) (v := .int (nI kn1)) rfl dX8_keeps_1 ?_
  have m3 : ((AB ad F) 58 6) = (nI kn1) := AB_f hF1 rfl
  refine lv_bipush (v := (nI 20)) S.1 S.2.1 dX8_keeps_4 (by decide +kernel) ?_
  refine lv_icmp_ne (tgt := 49) S.1 S.2.1 dX8_keeps_6 (by decide) (fun c4 => ?_) (fun c4 => ?_)
  · skip
    have k5 := ci_ne (nI_toInt (n := kn1) (by omega)) (nI_toInt (n := 20) (by decide)) c4
    refine lv_iconst (v := (nI 0)) S.1 S.2.1 dX8_keeps_49 (by decide +kernel) ?_
    refine lv_istore_n (lv' := [(1, .int (nI 0)), (0, .ref (ad 58))]) S.1 S.2.1 dX8_keeps_50 rfl hl0 (by decide) rfl (fun ls6 hl6 => ?_)
    have lp7 : ∀ (n7 : Nat) (q17 : Nat), ∀ (Fl7 : Nat → va_E) (Hl7 : Heap) (lol7 : List Loc), q17 ≤ 7 → fN (Fl7 58) 6 < 20 → fN (Fl7 58) 1 = fN (F 58) 1 → 7 - q17 < n7 → WT cA ad Fl7 → rFr [58, 63] F Fl7 → va_P D vwCl (rW ad Fl7) Hl7 → va_S (rA ad) s.heap Hl7 lol7 → M = m_X8_keeps_L51_7 n7 (AB ad Fl7) (nI q17) → ∀ (ls : Array Slot), lv_has ls 2 [(1, .int (nI q17)), (0, .ref (ad 58))] → W p l e { frames := 0, cells := 0, slots := 0, locals := 0 } s m args below meth c Hl7 lol7 0 0 Q (F0 m 51 ls []) := by
      intro n7
      induction n7 with
      | zero =>
        intro q17 Fl7 Hl7 lol7 iv7_0 ix7_kn ix7_li hm7 hWl7 hFl7 hPl7 hSl7 hEl7 ls7 hl7
        exact absurd hm7 (Nat.not_lt_zero _)
      | succ n7 ih7 =>
        intro q17 Fl7 Hl7 lol7 iv7_0 ix7_kn ix7_li hm7 hWl7 hFl7 hPl7 hSl7 hEl7 ls7 hl7
        have hE8 : M = m_X8_keeps_L51_7_b (m_X8_keeps_L51_7 n7) (AB ad Fl7) (nI q17) := hEl7
        obtain ⟨ty9, kn9, no9, en9, at9, sa9, sd9, wr9, pl9, va9, hF9, hb9_1, hb9_2, hb9_3, hb9_4, hb9_5, hb9_6⟩ := wt_m hWl7
        have hK10 := fN_of (k := 6) (a := kn9) hF9 rfl (Nat.lt_of_le_of_lt hb9_2 (by decide))
        have hA11 := fN_of (k := 14) (a := at9) hF9 rfl (Nat.lt_of_le_of_lt hb9_5 (by decide))
        have hL11 := fN_of (k := 1) (a := ty9) hF9 rfl (Nat.lt_of_le_of_lt hb9_1 (by decide))
        refine lv_iload_n S.1 S.2.1 dX8_keeps_51 rfl (lv_at hl7 0 rfl) ?_
        refine lv_bipush (v := (nI 7)) S.1 S.2.1 dX8_keeps_52 (by decide +kernel) ?_
        refine lv_icmp_ge (tgt := 83) S.1 S.2.1 dX8_keeps_54 (by decide) (fun c12 => ?_) (fun c12 => ?_)
        · skip
          have k13 := ci_le (nI_toInt (n := 7) (by decide)) (nI_toInt (n := q17) (by omega)) c12
          refine lv_aload_n S.1 S.2.1 dX8_keeps_83 rfl (lv_at hl7 1 rfl) ?_
          refine lv_dup S.1 S.2.1 dX8_keeps_84 rfl ?_
          refine r_get S hK hPl7 58 (by decide) hF9 (C := RX8) (T := TX8) (N := 23) hiX8 rfl 6 (by decide) (am_at in_wsX8_keeps_0 0 rfl) (v := .int (nI kn9)) rfl dX8_keeps_85 ?_
          have m14 : ((AB ad Fl7) 58 6) = (nI kn9) := AB_f hF9 rfl
          refine lv_iconst (v := (nI 1)) S.1 S.2.1 dX8_keeps_88 (by decide +kernel) ?_
          refine lv_iadd S.1 S.2.1 dX8_keeps_89 ?_
          refine lv_topi (fun v15 e15 => ?_)
          obtain rfl : v15 = nI (kn9 + 1) := e15.trans (nI_add _ _)
          have m16 : (((AB ad Fl7) 58 6) + (nI 1)) = (nI (kn9 + 1)) := cg2 (fun (x : Int32) (y : Int32) => x + y) m14 (Eq.refl ((nI 1) : Int32)) e15
          refine r_put S hI hK hPl7 hSl7 58 (by decide) hF9 (C := RX8) (T := TX8) (N := 23) hiX8 tyX8_ok nmX8 rfl 6 (by decide) (am_at in_wsX8_keeps_0 0 rfl) rfl rfl rfl (Nat.le_of_ble_eq_true rfl) dX8_keeps_90 (fun F17 H17 locs17 eF17 hP17 hS17 => ?_)
          have hF17 : F17 58 = .inr (8, [.ref (ad 59), .int (nI ty9), .ref (ad 60), .ref (ad 61), .ref (ad 62), .ref (ad 63), .int (nI (kn9 + 1)), .ref (ad 64), .ref (ad 65), .int sd9, .ref (ad 66), .int (nI no9), .ref (ad 67), .int (nI en9), .int (nI at9), .int wr9, .int pl9, .int va9, .int (nI sa9), .ref (ad 68), .ref (ad 69), .ref (ad 70), .ref (ad 71)]) := by rw [eF17]; exact va_up_self _ _ _
          have hW17 := hWl7.up eF17 (ok_m ⟨ty9, kn9 + 1, no9, en9, at9, sa9, sd9, wr9, pl9, va9, rfl, by omega, by omega, by omega, by omega, by omega, by omega⟩)
          have hFr17 := hFl7.up eF17 (by simp <;> first | omega | (simp only [isC, isJ] at *; omega))
          have hE19 : M = m_X8_keeps_18 (m_X8_keeps_L51_7 n7) (AB ad F17) (nI q17) := hE8.trans ((show m_X8_keeps_L51_7_b (m_X8_keeps_L51_7 n7) (AB ad Fl7) (nI q17) = m_X8_keeps_18 (m_X8_keeps_L51_7 n7) (st (AB ad Fl7) 58 6 (((AB ad Fl7) 58 6) + (nI 1))) (nI q17) from by unfold m_X8_keeps_L51_7_b; rw [if_pos (le_cg rfl rfl c12)]).trans (congr (congrArg (m_X8_keeps_18 (m_X8_keeps_L51_7 n7)) ((st_cg rfl rfl m16).trans (AB_put hF9 (Nat.le_of_ble_eq_true rfl) eF17).symm)) (Eq.refl ((nI q17) : Int32))))
          have hA20 := fN_of (k := 14) (a := at9) hF17 rfl (Nat.lt_of_le_of_lt hb9_5 (by decide))
          have hL20 := fN_of (k := 1) (a := ty9) hF17 rfl (Nat.lt_of_le_of_lt hb9_1 (by decide))
          have hE21 : M = AB ad F17 := hE19.trans ((show m_X8_keeps_18 (m_X8_keeps_L51_7 n7) (AB ad F17) (nI q17) = (AB ad F17) from rfl).trans rfl)
          exact hret 93 _ _ _ _ dX8_keeps_93 hP17 hS17 ⟨hW17, hFr17, ⟨by omega, hM.symm.trans hE21⟩⟩
        have k22 := ci_nle (nI_toInt (n := 7) (by decide)) (nI_toInt (n := q17) (by omega)) c12
        refine lv_aload_n S.1 S.2.1 dX8_keeps_57 rfl (lv_at hl7 1 rfl) ?_
        refine r_get S hK hPl7 58 (by decide) hF9 (C := RX8) (T := TX8) (N := 23) hiX8 rfl 5 (by decide) (am_at in_wsX8_keeps_0 1 rfl) (v := .ref (ad 63)) rfl dX8_keeps_58 ?_
        refine lv_bipush (v := (nI 7)) S.1 S.2.1 dX8_keeps_61 (by decide +kernel) ?_
        refine lv_aload_n S.1 S.2.1 dX8_keeps_63 rfl (lv_at hl7 1 rfl) ?_
        refine r_get S hK hPl7 58 (by decide) hF9 (C := RX8) (T := TX8) (N := 23) hiX8 rfl 6 (by decide) (am_at in_wsX8_keeps_0 0 rfl) (v := .int (nI kn9)) rfl dX8_keeps_64 ?_
        have m23 : ((AB ad Fl7) 58 6) = (nI kn9) := AB_f hF9 rfl
        refine lv_imul S.1 S.2.1 dX8_keeps_67 ?_
        refine lv_topi (fun v24 e24 => ?_)
        obtain rfl : v24 = nI (7 * kn9) := e24.trans (pk_mul _ _)
        have m25 : ((nI 7) * ((AB ad Fl7) 58 6)) = (nI (7 * kn9)) := cg2 (fun (x : Int32) (y : Int32) => x * y) (Eq.refl ((nI 7) : Int32)) m23 e24
        refine lv_iload_n S.1 S.2.1 dX8_keeps_68 rfl (lv_at hl7 0 rfl) ?_
        refine lv_iadd S.1 S.2.1 dX8_keeps_69 ?_
        refine lv_topi (fun v26 e26 => ?_)
        obtain rfl : v26 = nI ((7 * kn9) + q17) := e26.trans (nI_add _ _)
        have m27 : (((nI 7) * ((AB ad Fl7) 58 6)) + (nI q17)) = (nI ((7 * kn9) + q17)) := cg2 (fun (x : Int32) (y : Int32) => x + y) m25 (Eq.refl ((nI q17) : Int32)) e26
        refine lv_aload_n S.1 S.2.1 dX8_keeps_70 rfl (lv_at hl7 1 rfl) ?_
        refine r_get S hK hPl7 58 (by decide) hF9 (C := RX8) (T := TX8) (N := 23) hiX8 rfl 4 (by decide) (am_at in_wsX8_keeps_0 2 rfl) (v := .ref (ad 62)) rfl dX8_keeps_71 ?_
        refine lv_iload_n S.1 S.2.1 dX8_keeps_74 rfl (lv_at hl7 0 rfl) ?_
        obtain ⟨g28, hF28, hg28⟩ := wt_I hWl7 (show (62, 7) ∈ rLI by decide)
        refine r_iald S hK hPl7 62 (by decide) hF28 (vp_in_nI (show q17 < 7 by omega) (by omega)) dX8_keeps_75 ?_
        refine lv_topi (fun v30 e30 => ?_)
        have m31 : ((AB ad Fl7) 62 (rl (nI q17))) = v30 := (ab_cg rfl rfl).trans ((AB_g hF28).trans e30.symm)
        obtain ⟨g32, hF32, hg32⟩ := wt_I hWl7 (show (63, 140) ∈ rLI by decide)
        refine r_iast S hI hK hPl7 hSl7 63 (by decide) hF32 (vp_in_nI (show (7 * kn9) + q17 < 140 by omega) (by omega)) dX8_keeps_76 (fun F33 H33 locs33 eF33 hP33 hS33 => ?_)
        have hW33 := hWl7.up eF33 (ok_I (show (63, 140) ∈ rLI by decide) (okI_up hg32 (by rw [nI_clamp (by omega)]; apply to_S7; rw [e30, nI_clamp (by omega)]; exact okS_cg (by omega) (pr_S (hg28 (q17) (by omega))))))
        have hFr33 := hFl7.up eF33 (by simp <;> first | omega | (simp only [isC, isJ] at *; omega))
        have hE35 : M = m_X8_keeps_34 (m_X8_keeps_L51_7 n7) (AB ad F33) (nI q17) := hE8.trans ((show m_X8_keeps_L51_7_b (m_X8_keeps_L51_7 n7) (AB ad Fl7) (nI q17) = m_X8_keeps_34 (m_X8_keeps_L51_7 n7) (st (AB ad Fl7) 63 (rl (((nI 7) * ((AB ad Fl7) 58 6)) + (nI q17))) ((AB ad Fl7) 62 (rl (nI q17)))) (nI q17) from by unfold m_X8_keeps_L51_7_b; rw [if_neg (nle_cg rfl rfl c12)]).trans (congr (congrArg (m_X8_keeps_34 (m_X8_keeps_L51_7 n7)) ((st_cg rfl (congrArg rl m27) m31).trans (AB_ast hF32 eF33).symm)) (Eq.refl ((nI q17) : Int32))))
        have m37 : ((nI q17) + Int32.ofInt (1)) = (nI (q17 + 1)) := (congrArg (fun q : Int32 => q + Int32.ofInt (1)) rfl).trans (nI_add _ 1)
        refine lv_iinc (v := (nI (q17 + 1))) (lv' := [(1, .int (nI (q17 + 1))), (0, .ref (ad 58))]) S.1 S.2.1 dX8_keeps_77 hl7 (k := 0) rfl (nI_add _ 1) (by decide) rfl (fun ls36 hl36 => ?_)
        refine lv_goto (tgt := 51) S.1 S.2.1 dX8_keeps_80 (by decide) ?_
        have hF38 := (show F33 58 = Fl7 58 by rw [eF33]; exact va_up_ne _ _ (by decide)).trans hF9
        have hK39 := fN_of (k := 6) (a := kn9) hF38 rfl (Nat.lt_of_le_of_lt hb9_2 (by decide))
        have hA40 := fN_of (k := 14) (a := at9) hF38 rfl (Nat.lt_of_le_of_lt hb9_5 (by decide))
        have hL40 := fN_of (k := 1) (a := ty9) hF38 rfl (Nat.lt_of_le_of_lt hb9_1 (by decide))
        have hE41 : M = (m_X8_keeps_L51_7 n7) (AB ad F33) (nI (q17 + 1)) := hE35.trans ((show m_X8_keeps_34 (m_X8_keeps_L51_7 n7) (AB ad F33) (nI q17) = (m_X8_keeps_L51_7 n7) (AB ad F33) ((nI q17) + Int32.ofInt (1)) from rfl).trans (congr (congrArg ((m_X8_keeps_L51_7 n7)) (rfl : AB ad F33 = AB ad F33)) m37))
        exact ih7 (q17 + 1) F33 H33 locs33 (by omega) (by omega) (by omega) (by omega) hW33 hFr33 hP33 hS33 hE41 ls36 (lv_sub hl36 [0, 1] rfl)
    have hK42 := fN_of (k := 6) (a := kn1) hF1 rfl (Nat.lt_of_le_of_lt hb1_2 (by decide))
    have hA43 := fN_of (k := 14) (a := at1) hF1 rfl (Nat.lt_of_le_of_lt hb1_5 (by decide))
    have hL43 := fN_of (k := 1) (a := ty1) hF1 rfl (Nat.lt_of_le_of_lt hb1_1 (by decide))
    have hE44 : M = m_X8_keeps_L51_7 2000 (AB ad F) (nI 0) := hM.trans ((show m_X8_keeps (AB ad F) = m_X8_keeps_L51_7 2000 (AB ad F) (nI 0) from by unfold m_X8_keeps; rw [if_neg (neq_cg m3 rfl c4)]).trans (congr (congrArg (m_X8_keeps_L51_7 2000) (rfl : AB ad F = AB ad F)) (Eq.refl ((nI 0) : Int32))))
    exact lp7 2000 (0) F s.heap [] (by omega) (by omega) (by omega) (by omega) hW hFr hP hS hE44 ls6 (lv_sub hl6 [0, 1] rfl)
  have k45 := ci_eq (nI_toInt (n := kn1) (by omega)) (nI_toInt (n := 20) (by decide)) c4
  refine lv_iconst (v := (nI 0)) S.1 S.2.1 dX8_keeps_9 (by decide +kernel) ?_
  refine lv_istore_n (lv' := [(1, .int (nI 0)), (0, .ref (ad 58))]) S.1 S.2.1 dX8_keeps_10 rfl hl0 (by decide) rfl (fun ls46 hl46 => ?_)
  have lp47 : ∀ (n47 : Nat) (q147 : Nat), ∀ (Fl47 : Nat → va_E) (Hl47 : Heap) (lol47 : List Loc), q147 ≤ 133 → fN (Fl47 58) 6 = 20 → fN (Fl47 58) 1 = fN (F 58) 1 → 133 - q147 < n47 → WT cA ad Fl47 → rFr [58, 63] F Fl47 → va_P D vwCl (rW ad Fl47) Hl47 → va_S (rA ad) s.heap Hl47 lol47 → M = m_X8_keeps_L11_47 n47 (AB ad Fl47) (nI q147) → ∀ (ls : Array Slot), lv_has ls 2 [(1, .int (nI q147)), (0, .ref (ad 58))] → W p l e { frames := 0, cells := 0, slots := 0, locals := 0 } s m args below meth c Hl47 lol47 0 0 Q (F0 m 11 ls []) := by
    intro n47
    induction n47 with
    | zero =>
      intro q147 Fl47 Hl47 lol47 iv47_0 ix47_kn ix47_li hm47 hWl47 hFl47 hPl47 hSl47 hEl47 ls47 hl47
      exact absurd hm47 (Nat.not_lt_zero _)
    | succ n47 ih47 =>
      intro q147 Fl47 Hl47 lol47 iv47_0 ix47_kn ix47_li hm47 hWl47 hFl47 hPl47 hSl47 hEl47 ls47 hl47
      have hE48 : M = m_X8_keeps_L11_47_b (m_X8_keeps_L11_47 n47) (AB ad Fl47) (nI q147) := hEl47
      obtain ⟨ty49, kn49, no49, en49, at49, sa49, sd49, wr49, pl49, va49, hF49, hb49_1, hb49_2, hb49_3, hb49_4, hb49_5, hb49_6⟩ := wt_m hWl47
      have hK50 := fN_of (k := 6) (a := kn49) hF49 rfl (Nat.lt_of_le_of_lt hb49_2 (by decide))
      have hA51 := fN_of (k := 14) (a := at49) hF49 rfl (Nat.lt_of_le_of_lt hb49_5 (by decide))
      have hL51 := fN_of (k := 1) (a := ty49) hF49 rfl (Nat.lt_of_le_of_lt hb49_1 (by decide))
      refine lv_iload_n S.1 S.2.1 dX8_keeps_11 rfl (lv_at hl47 0 rfl) ?_
      refine lv_sipush (v := (nI 133)) S.1 S.2.1 dX8_keeps_12 (by decide +kernel) ?_
      refine lv_icmp_ge (tgt := 39) S.1 S.2.1 dX8_keeps_15 (by decide) (fun c52 => ?_) (fun c52 => ?_)
      · skip
        have k53 := ci_le (nI_toInt (n := 133) (by decide)) (nI_toInt (n := q147) (by omega)) c52
        refine lv_aload_n S.1 S.2.1 dX8_keeps_39 rfl (lv_at hl47 1 rfl) ?_
        refine lv_dup S.1 S.2.1 dX8_keeps_40 rfl ?_
        refine r_get S hK hPl47 58 (by decide) hF49 (C := RX8) (T := TX8) (N := 23) hiX8 rfl 6 (by decide) (am_at in_wsX8_keeps_0 0 rfl) (v := .int (nI kn49)) rfl dX8_keeps_41 ?_
        have m54 : ((AB ad Fl47) 58 6) = (nI kn49) := AB_f hF49 rfl
        refine lv_iconst (v := (nI 1)) S.1 S.2.1 dX8_keeps_44 (by decide +kernel) ?_
        refine lv_isub S.1 S.2.1 dX8_keeps_45 ?_
        refine lv_topi (fun v55 e55 => ?_)
        obtain rfl : v55 = nI (kn49 - 1) := e55.trans (pk_sub (by omega))
        have m56 : (((AB ad Fl47) 58 6) - (nI 1)) = (nI (kn49 - 1)) := cg2 (fun (x : Int32) (y : Int32) => x - y) m54 (Eq.refl ((nI 1) : Int32)) e55
        refine r_put S hI hK hPl47 hSl47 58 (by decide) hF49 (C := RX8) (T := TX8) (N := 23) hiX8 tyX8_ok nmX8 rfl 6 (by decide) (am_at in_wsX8_keeps_0 0 rfl) rfl rfl rfl (Nat.le_of_ble_eq_true rfl) dX8_keeps_46 (fun F57 H57 locs57 eF57 hP57 hS57 => ?_)
        have hF57 : F57 58 = .inr (8, [.ref (ad 59), .int (nI ty49), .ref (ad 60), .ref (ad 61), .ref (ad 62), .ref (ad 63), .int (nI (kn49 - 1)), .ref (ad 64), .ref (ad 65), .int sd49, .ref (ad 66), .int (nI no49), .ref (ad 67), .int (nI en49), .int (nI at49), .int wr49, .int pl49, .int va49, .int (nI sa49), .ref (ad 68), .ref (ad 69), .ref (ad 70), .ref (ad 71)]) := by rw [eF57]; exact va_up_self _ _ _
        have hW57 := hWl47.up eF57 (ok_m ⟨ty49, kn49 - 1, no49, en49, at49, sa49, sd49, wr49, pl49, va49, rfl, by omega, by omega, by omega, by omega, by omega, by omega⟩)
        have hFr57 := hFl47.up eF57 (by simp <;> first | omega | (simp only [isC, isJ] at *; omega))
        have hE59 : M = m_X8_keeps_58 (m_X8_keeps_L11_47 n47) (AB ad F57) (nI q147) := hE48.trans ((show m_X8_keeps_L11_47_b (m_X8_keeps_L11_47 n47) (AB ad Fl47) (nI q147) = m_X8_keeps_58 (m_X8_keeps_L11_47 n47) (st (AB ad Fl47) 58 6 (((AB ad Fl47) 58 6) - (nI 1))) (nI q147) from by unfold m_X8_keeps_L11_47_b; rw [if_pos (le_cg rfl rfl c52)]).trans (congr (congrArg (m_X8_keeps_58 (m_X8_keeps_L11_47 n47)) ((st_cg rfl rfl m56).trans (AB_put hF49 (Nat.le_of_ble_eq_true rfl) eF57).symm)) (Eq.refl ((nI q147) : Int32))))
        refine lv_iconst (v := (nI 0)) S.1 S.2.1 dX8_keeps_49 (by decide +kernel) ?_
        refine lv_istore_n (lv' := [(1, .int (nI 0)), (0, .ref (ad 58))]) S.1 S.2.1 dX8_keeps_50 rfl hl47 (by decide) rfl (fun ls60 hl60 => ?_)
        have lp61 : ∀ (n61 : Nat) (q161 : Nat), ∀ (Fl61 : Nat → va_E) (Hl61 : Heap) (lol61 : List Loc), q161 ≤ 7 → fN (Fl61 58) 6 < 20 → fN (Fl61 58) 1 = fN (F 58) 1 → 7 - q161 < n61 → WT cA ad Fl61 → rFr [58, 63] F Fl61 → va_P D vwCl (rW ad Fl61) Hl61 → va_S (rA ad) s.heap Hl61 lol61 → M = m_X8_keeps_L51_61 (m_X8_keeps_L11_47 n47) n61 (AB ad Fl61) (nI q161) → ∀ (ls : Array Slot), lv_has ls 2 [(1, .int (nI q161)), (0, .ref (ad 58))] → W p l e { frames := 0, cells := 0, slots := 0, locals := 0 } s m args below meth c Hl61 lol61 0 0 Q (F0 m 51 ls []) := by
          intro n61
          induction n61 with
          | zero =>
            intro q161 Fl61 Hl61 lol61 iv61_0 ix61_kn ix61_li hm61 hWl61 hFl61 hPl61 hSl61 hEl61 ls61 hl61
            exact absurd hm61 (Nat.not_lt_zero _)
          | succ n61 ih61 =>
            intro q161 Fl61 Hl61 lol61 iv61_0 ix61_kn ix61_li hm61 hWl61 hFl61 hPl61 hSl61 hEl61 ls61 hl61
            have hE62 : M = m_X8_keeps_L51_61_b (m_X8_keeps_L11_47 n47) (m_X8_keeps_L51_61 (m_X8_keeps_L11_47 n47) n61) (AB ad Fl61) (nI q161) := hEl61
            obtain ⟨ty63, kn63, no63, en63, at63, sa63, sd63, wr63, pl63, va63, hF63, hb63_1, hb63_2, hb63_3, hb63_4, hb63_5, hb63_6⟩ := wt_m hWl61
            have hK64 := fN_of (k := 6) (a := kn63) hF63 rfl (Nat.lt_of_le_of_lt hb63_2 (by decide))
            have hA65 := fN_of (k := 14) (a := at63) hF63 rfl (Nat.lt_of_le_of_lt hb63_5 (by decide))
            have hL65 := fN_of (k := 1) (a := ty63) hF63 rfl (Nat.lt_of_le_of_lt hb63_1 (by decide))
            refine lv_iload_n S.1 S.2.1 dX8_keeps_51 rfl (lv_at hl61 0 rfl) ?_
            refine lv_bipush (v := (nI 7)) S.1 S.2.1 dX8_keeps_52 (by decide +kernel) ?_
            refine lv_icmp_ge (tgt := 83) S.1 S.2.1 dX8_keeps_54 (by decide) (fun c66 => ?_) (fun c66 => ?_)
            · skip
              have k67 := ci_le (nI_toInt (n := 7) (by decide)) (nI_toInt (n := q161) (by omega)) c66
              refine lv_aload_n S.1 S.2.1 dX8_keeps_83 rfl (lv_at hl61 1 rfl) ?_
              refine lv_dup S.1 S.2.1 dX8_keeps_84 rfl ?_
              refine r_get S hK hPl61 58 (by decide) hF63 (C := RX8) (T := TX8) (N := 23) hiX8 rfl 6 (by decide) (am_at in_wsX8_keeps_0 0 rfl) (v := .int (nI kn63)) rfl dX8_keeps_85 ?_
              have m68 : ((AB ad Fl61) 58 6) = (nI kn63) := AB_f hF63 rfl
              refine lv_iconst (v := (nI 1)) S.1 S.2.1 dX8_keeps_88 (by decide +kernel) ?_
              refine lv_iadd S.1 S.2.1 dX8_keeps_89 ?_
              refine lv_topi (fun v69 e69 => ?_)
              obtain rfl : v69 = nI (kn63 + 1) := e69.trans (nI_add _ _)
              have m70 : (((AB ad Fl61) 58 6) + (nI 1)) = (nI (kn63 + 1)) := cg2 (fun (x : Int32) (y : Int32) => x + y) m68 (Eq.refl ((nI 1) : Int32)) e69
              refine r_put S hI hK hPl61 hSl61 58 (by decide) hF63 (C := RX8) (T := TX8) (N := 23) hiX8 tyX8_ok nmX8 rfl 6 (by decide) (am_at in_wsX8_keeps_0 0 rfl) rfl rfl rfl (Nat.le_of_ble_eq_true rfl) dX8_keeps_90 (fun F71 H71 locs71 eF71 hP71 hS71 => ?_)
              have hF71 : F71 58 = .inr (8, [.ref (ad 59), .int (nI ty63), .ref (ad 60), .ref (ad 61), .ref (ad 62), .ref (ad 63), .int (nI (kn63 + 1)), .ref (ad 64), .ref (ad 65), .int sd63, .ref (ad 66), .int (nI no63), .ref (ad 67), .int (nI en63), .int (nI at63), .int wr63, .int pl63, .int va63, .int (nI sa63), .ref (ad 68), .ref (ad 69), .ref (ad 70), .ref (ad 71)]) := by rw [eF71]; exact va_up_self _ _ _
              have hW71 := hWl61.up eF71 (ok_m ⟨ty63, kn63 + 1, no63, en63, at63, sa63, sd63, wr63, pl63, va63, rfl, by omega, by omega, by omega, by omega, by omega, by omega⟩)
              have hFr71 := hFl61.up eF71 (by simp <;> first | omega | (simp only [isC, isJ] at *; omega))
              have hE73 : M = m_X8_keeps_72 (m_X8_keeps_L11_47 n47) (m_X8_keeps_L51_61 (m_X8_keeps_L11_47 n47) n61) (AB ad F71) (nI q161) := hE62.trans ((show m_X8_keeps_L51_61_b (m_X8_keeps_L11_47 n47) (m_X8_keeps_L51_61 (m_X8_keeps_L11_47 n47) n61) (AB ad Fl61) (nI q161) = m_X8_keeps_72 (m_X8_keeps_L11_47 n47) (m_X8_keeps_L51_61 (m_X8_keeps_L11_47 n47) n61) (st (AB ad Fl61) 58 6 (((AB ad Fl61) 58 6) + (nI 1))) (nI q161) from by unfold m_X8_keeps_L51_61_b; rw [if_pos (le_cg rfl rfl c66)]).trans (congr (congrArg (m_X8_keeps_72 (m_X8_keeps_L11_47 n47) (m_X8_keeps_L51_61 (m_X8_keeps_L11_47 n47) n61)) ((st_cg rfl rfl m70).trans (AB_put hF63 (Nat.le_of_ble_eq_true rfl) eF71).symm)) (Eq.refl ((nI q161) : Int32))))
              have hA74 := fN_of (k := 14) (a := at63) hF71 rfl (Nat.lt_of_le_of_lt hb63_5 (by decide))
              have hL74 := fN_of (k := 1) (a := ty63) hF71 rfl (Nat.lt_of_le_of_lt hb63_1 (by decide))
              have hE75 : M = AB ad F71 := hE73.trans ((show m_X8_keeps_72 (m_X8_keeps_L11_47 n47) (m_X8_keeps_L51_61 (m_X8_keeps_L11_47 n47) n61) (AB ad F71) (nI q161) = (AB ad F71) from rfl).trans rfl)
              exact hret 93 _ _ _ _ dX8_keeps_93 hP71 hS71 ⟨hW71, hFr71, ⟨by omega, hM.symm.trans hE75⟩⟩
            have k76 := ci_nle (nI_toInt (n := 7) (by decide)) (nI_toInt (n := q161) (by omega)) c66
            refine lv_aload_n S.1 S.2.1 dX8_keeps_57 rfl (lv_at hl61 1 rfl) ?_
            refine r_get S hK hPl61 58 (by decide) hF63 (C := RX8) (T := TX8) (N := 23) hiX8 rfl 5 (by decide) (am_at in_wsX8_keeps_0 1 rfl) (v := .ref (ad 63)) rfl dX8_keeps_58 ?_
            refine lv_bipush (v := (nI 7)) S.1 S.2.1 dX8_keeps_61 (by decide +kernel) ?_
            refine lv_aload_n S.1 S.2.1 dX8_keeps_63 rfl (lv_at hl61 1 rfl) ?_
            refine r_get S hK hPl61 58 (by decide) hF63 (C := RX8) (T := TX8) (N := 23) hiX8 rfl 6 (by decide) (am_at in_wsX8_keeps_0 0 rfl) (v := .int (nI kn63)) rfl dX8_keeps_64 ?_
            have m77 : ((AB ad Fl61) 58 6) = (nI kn63) := AB_f hF63 rfl
            refine lv_imul S.1 S.2.1 dX8_keeps_67 ?_
            refine lv_topi (fun v78 e78 => ?_)
            obtain rfl : v78 = nI (7 * kn63) := e78.trans (pk_mul _ _)
            have m79 : ((nI 7) * ((AB ad Fl61) 58 6)) = (nI (7 * kn63)) := cg2 (fun (x : Int32) (y : Int32) => x * y) (Eq.refl ((nI 7) : Int32)) m77 e78
            refine lv_iload_n S.1 S.2.1 dX8_keeps_68 rfl (lv_at hl61 0 rfl) ?_
            refine lv_iadd S.1 S.2.1 dX8_keeps_69 ?_
            refine lv_topi (fun v80 e80 => ?_)
            obtain rfl : v80 = nI ((7 * kn63) + q161) := e80.trans (nI_add _ _)
            have m81 : (((nI 7) * ((AB ad Fl61) 58 6)) + (nI q161)) = (nI ((7 * kn63) + q161)) := cg2 (fun (x : Int32) (y : Int32) => x + y) m79 (Eq.refl ((nI q161) : Int32)) e80
            refine lv_aload_n S.1 S.2.1 dX8_keeps_70 rfl (lv_at hl61 1 rfl) ?_
            refine r_get S hK hPl61 58 (by decide) hF63 (C := RX8) (T := TX8) (N := 23) hiX8 rfl 4 (by decide) (am_at in_wsX8_keeps_0 2 rfl) (v := .ref (ad 62)) rfl dX8_keeps_71 ?_
            refine lv_iload_n S.1 S.2.1 dX8_keeps_74 rfl (lv_at hl61 0 rfl) ?_
            obtain ⟨g82, hF82, hg82⟩ := wt_I hWl61 (show (62, 7) ∈ rLI by decide)
            refine r_iald S hK hPl61 62 (by decide) hF82 (vp_in_nI (show q161 < 7 by omega) (by omega)) dX8_keeps_75 ?_
            refine lv_topi (fun v84 e84 => ?_)
            have m85 : ((AB ad Fl61) 62 (rl (nI q161))) = v84 := (ab_cg rfl rfl).trans ((AB_g hF82).trans e84.symm)
            obtain ⟨g86, hF86, hg86⟩ := wt_I hWl61 (show (63, 140) ∈ rLI by decide)
            refine r_iast S hI hK hPl61 hSl61 63 (by decide) hF86 (vp_in_nI (show (7 * kn63) + q161 < 140 by omega) (by omega)) dX8_keeps_76 (fun F87 H87 locs87 eF87 hP87 hS87 => ?_)
            have hW87 := hWl61.up eF87 (ok_I (show (63, 140) ∈ rLI by decide) (okI_up hg86 (by rw [nI_clamp (by omega)]; apply to_S7; rw [e84, nI_clamp (by omega)]; exact okS_cg (by omega) (pr_S (hg82 (q161) (by omega))))))
            have hFr87 := hFl61.up eF87 (by simp <;> first | omega | (simp only [isC, isJ] at *; omega))
            have hE89 : M = m_X8_keeps_88 (m_X8_keeps_L11_47 n47) (m_X8_keeps_L51_61 (m_X8_keeps_L11_47 n47) n61) (AB ad F87) (nI q161) := hE62.trans ((show m_X8_keeps_L51_61_b (m_X8_keeps_L11_47 n47) (m_X8_keeps_L51_61 (m_X8_keeps_L11_47 n47) n61) (AB ad Fl61) (nI q161) = m_X8_keeps_88 (m_X8_keeps_L11_47 n47) (m_X8_keeps_L51_61 (m_X8_keeps_L11_47 n47) n61) (st (AB ad Fl61) 63 (rl (((nI 7) * ((AB ad Fl61) 58 6)) + (nI q161))) ((AB ad Fl61) 62 (rl (nI q161)))) (nI q161) from by unfold m_X8_keeps_L51_61_b; rw [if_neg (nle_cg rfl rfl c66)]).trans (congr (congrArg (m_X8_keeps_88 (m_X8_keeps_L11_47 n47) (m_X8_keeps_L51_61 (m_X8_keeps_L11_47 n47) n61)) ((st_cg rfl (congrArg rl m81) m85).trans (AB_ast hF86 eF87).symm)) (Eq.refl ((nI q161) : Int32))))
            have m91 : ((nI q161) + Int32.ofInt (1)) = (nI (q161 + 1)) := (congrArg (fun q : Int32 => q + Int32.ofInt (1)) rfl).trans (nI_add _ 1)
            refine lv_iinc (v := (nI (q161 + 1))) (lv' := [(1, .int (nI (q161 + 1))), (0, .ref (ad 58))]) S.1 S.2.1 dX8_keeps_77 hl61 (k := 0) rfl (nI_add _ 1) (by decide) rfl (fun ls90 hl90 => ?_)
            refine lv_goto (tgt := 51) S.1 S.2.1 dX8_keeps_80 (by decide) ?_
            have hF92 := (show F87 58 = Fl61 58 by rw [eF87]; exact va_up_ne _ _ (by decide)).trans hF63
            have hK93 := fN_of (k := 6) (a := kn63) hF92 rfl (Nat.lt_of_le_of_lt hb63_2 (by decide))
            have hA94 := fN_of (k := 14) (a := at63) hF92 rfl (Nat.lt_of_le_of_lt hb63_5 (by decide))
            have hL94 := fN_of (k := 1) (a := ty63) hF92 rfl (Nat.lt_of_le_of_lt hb63_1 (by decide))
            have hE95 : M = (m_X8_keeps_L51_61 (m_X8_keeps_L11_47 n47) n61) (AB ad F87) (nI (q161 + 1)) := hE89.trans ((show m_X8_keeps_88 (m_X8_keeps_L11_47 n47) (m_X8_keeps_L51_61 (m_X8_keeps_L11_47 n47) n61) (AB ad F87) (nI q161) = (m_X8_keeps_L51_61 (m_X8_keeps_L11_47 n47) n61) (AB ad F87) ((nI q161) + Int32.ofInt (1)) from rfl).trans (congr (congrArg ((m_X8_keeps_L51_61 (m_X8_keeps_L11_47 n47) n61)) (rfl : AB ad F87 = AB ad F87)) m91))
            exact ih61 (q161 + 1) F87 H87 locs87 (by omega) (by omega) (by omega) (by omega) hW87 hFr87 hP87 hS87 hE95 ls90 (lv_sub hl90 [0, 1] rfl)
        have hK96 := fN_of (k := 6) (a := kn49 - 1) hF57 rfl (by omega)
        have hA97 := fN_of (k := 14) (a := at49) hF57 rfl (Nat.lt_of_le_of_lt hb49_5 (by decide))
        have hL97 := fN_of (k := 1) (a := ty49) hF57 rfl (Nat.lt_of_le_of_lt hb49_1 (by decide))
        have hE98 : M = m_X8_keeps_L51_61 (m_X8_keeps_L11_47 n47) 2000 (AB ad F57) (nI 0) := hE59.trans ((show m_X8_keeps_58 (m_X8_keeps_L11_47 n47) (AB ad F57) (nI q147) = m_X8_keeps_L51_61 (m_X8_keeps_L11_47 n47) 2000 (AB ad F57) (nI 0) from rfl).trans (congr (congrArg (m_X8_keeps_L51_61 (m_X8_keeps_L11_47 n47) 2000) (rfl : AB ad F57 = AB ad F57)) (Eq.refl ((nI 0) : Int32))))
        exact lp61 2000 (0) F57 H57 locs57 (by omega) (by omega) (by omega) (by omega) hW57 hFr57 hP57 hS57 hE98 ls60 (lv_sub hl60 [0, 1] rfl)
      have k99 := ci_nle (nI_toInt (n := 133) (by decide)) (nI_toInt (n := q147) (by omega)) c52
      refine lv_aload_n S.1 S.2.1 dX8_keeps_18 rfl (lv_at hl47 1 rfl) ?_
      refine r_get S hK hPl47 58 (by decide) hF49 (C := RX8) (T := TX8) (N := 23) hiX8 rfl 5 (by decide) (am_at in_wsX8_keeps_0 1 rfl) (v := .ref (ad 63)) rfl dX8_keeps_19 ?_
      refine lv_iload_n S.1 S.2.1 dX8_keeps_22 rfl (lv_at hl47 0 rfl) ?_
      refine lv_aload_n S.1 S.2.1 dX8_keeps_23 rfl (lv_at hl47 1 rfl) ?_
      refine r_get S hK hPl47 58 (by decide) hF49 (C := RX8) (T := TX8) (N := 23) hiX8 rfl 5 (by decide) (am_at in_wsX8_keeps_0 1 rfl) (v := .ref (ad 63)) rfl dX8_keeps_24 ?_
      refine lv_iload_n S.1 S.2.1 dX8_keeps_27 rfl (lv_at hl47 0 rfl) ?_
      refine lv_bipush (v := (nI 7)) S.1 S.2.1 dX8_keeps_28 (by decide +kernel) ?_
      refine lv_iadd S.1 S.2.1 dX8_keeps_30 ?_
      refine lv_topi (fun v100 e100 => ?_)
      obtain rfl : v100 = nI (q147 + 7) := e100.trans (nI_add _ _)
      have m101 : ((nI q147) + (nI 7)) = (nI (q147 + 7)) := cg2 (fun (x : Int32) (y : Int32) => x + y) (Eq.refl ((nI q147) : Int32)) (Eq.refl ((nI 7) : Int32)) e100
      obtain ⟨g102, hF102, hg102⟩ := wt_I hWl47 (show (63, 140) ∈ rLI by decide)
      refine r_iald S hK hPl47 63 (by decide) hF102 (vp_in_nI (show q147 + 7 < 140 by omega) (by omega)) dX8_keeps_31 ?_
      refine lv_topi (fun v104 e104 => ?_)
      have m105 : ((AB ad Fl47) 63 (rl ((nI q147) + (nI 7)))) = v104 := (ab_cg rfl m101).trans ((AB_g hF102).trans e104.symm)
      refine r_iast S hI hK hPl47 hSl47 63 (by decide) hF102 (vp_in_nI (show q147 < 140 by omega) (by omega)) dX8_keeps_32 (fun F106 H106 locs106 eF106 hP106 hS106 => ?_)
      have hW106 := hWl47.up eF106 (ok_I (show (63, 140) ∈ rLI by decide) (okI_up hg102 (by rw [nI_clamp (by omega)]; apply to_S7; rw [e104, nI_clamp (by omega)]; exact okS_cg (by omega) (pr_S7 (hg102 (q147 + 7) (by omega))))))
      have hFr106 := hFl47.up eF106 (by simp <;> first | omega | (simp only [isC, isJ] at *; omega))
      have hE108 : M = m_X8_keeps_107 (m_X8_keeps_L11_47 n47) (AB ad F106) (nI q147) := hE48.trans ((show m_X8_keeps_L11_47_b (m_X8_keeps_L11_47 n47) (AB ad Fl47) (nI q147) = m_X8_keeps_107 (m_X8_keeps_L11_47 n47) (st (AB ad Fl47) 63 (rl (nI q147)) ((AB ad Fl47) 63 (rl ((nI q147) + (nI 7))))) (nI q147) from by unfold m_X8_keeps_L11_47_b; rw [if_neg (nle_cg rfl rfl c52)]).trans (congr (congrArg (m_X8_keeps_107 (m_X8_keeps_L11_47 n47)) ((st_cg rfl (congrArg rl rfl) m105).trans (AB_ast hF102 eF106).symm)) (Eq.refl ((nI q147) : Int32))))
      have m110 : ((nI q147) + Int32.ofInt (1)) = (nI (q147 + 1)) := (congrArg (fun q : Int32 => q + Int32.ofInt (1)) rfl).trans (nI_add _ 1)
      refine lv_iinc (v := (nI (q147 + 1))) (lv' := [(1, .int (nI (q147 + 1))), (0, .ref (ad 58))]) S.1 S.2.1 dX8_keeps_33 hl47 (k := 0) rfl (nI_add _ 1) (by decide) rfl (fun ls109 hl109 => ?_)
      refine lv_goto (tgt := 11) S.1 S.2.1 dX8_keeps_36 (by decide) ?_
      have hF111 := (show F106 58 = Fl47 58 by rw [eF106]; exact va_up_ne _ _ (by decide)).trans hF49
      have hK112 := fN_of (k := 6) (a := kn49) hF111 rfl (Nat.lt_of_le_of_lt hb49_2 (by decide))
      have hA113 := fN_of (k := 14) (a := at49) hF111 rfl (Nat.lt_of_le_of_lt hb49_5 (by decide))
      have hL113 := fN_of (k := 1) (a := ty49) hF111 rfl (Nat.lt_of_le_of_lt hb49_1 (by decide))
      have hE114 : M = (m_X8_keeps_L11_47 n47) (AB ad F106) (nI (q147 + 1)) := hE108.trans ((show m_X8_keeps_107 (m_X8_keeps_L11_47 n47) (AB ad F106) (nI q147) = (m_X8_keeps_L11_47 n47) (AB ad F106) ((nI q147) + Int32.ofInt (1)) from rfl).trans (congr (congrArg ((m_X8_keeps_L11_47 n47)) (rfl : AB ad F106 = AB ad F106)) m110))
      exact ih47 (q147 + 1) F106 H106 locs106 (by omega) (by omega) (by omega) (by omega) hW106 hFr106 hP106 hS106 hE114 ls109 (lv_sub hl109 [0, 1] rfl)
  have hK115 := fN_of (k := 6) (a := kn1) hF1 rfl (Nat.lt_of_le_of_lt hb1_2 (by decide))
  have hA116 := fN_of (k := 14) (a := at1) hF1 rfl (Nat.lt_of_le_of_lt hb1_5 (by decide))
  have hL116 := fN_of (k := 1) (a := ty1) hF1 rfl (Nat.lt_of_le_of_lt hb1_1 (by decide))
  have hE117 : M = m_X8_keeps_L11_47 2000 (AB ad F) (nI 0) := hM.trans ((show m_X8_keeps (AB ad F) = m_X8_keeps_L11_47 2000 (AB ad F) (nI 0) from by unfold m_X8_keeps; rw [if_pos (eq_cg m3 rfl c4)]).trans (congr (congrArg (m_X8_keeps_L11_47 2000) (rfl : AB ad F = AB ad F)) (Eq.refl ((nI 0) : Int32))))
  exact lp47 2000 (0) F s.heap [] (by omega) (by omega) (by omega) (by omega) hW hFr hP hS hE117 ls46 (lv_sub hl46 [0, 1] rfl)
noncomputable def m_X8_hasWork (σ : SS) (a0 : Int32) (a1 : Int32) : Int32 :=
  if (((σ 60 (rl ((nI 12) + a0))) >>> ((irm ((σ 60 (rl (nI 1))) + a1) (nI 12)) &&& 31)) &&& (nI 1)) = (nI 1) then
    (nI 1)
  else
    (nI 0)
set_option maxHeartbeats 4000000 in
set_option maxRecDepth 100000 in
theorem c_X8_hasWork (l : Launch) (D : va_G) (cA ad : Nat → Nat) (t : Nat) (hI : rI ad) (F : Nat → va_E) (hW : WT cA ad F) (p1 : Int32) (p2 : Int32) (ht1 : -1 ≤ p1.toInt ∧ p1.toInt ≤ 39) : MP l D cA ad t yX8_hasWork wsX8_hasWork { frames := 0, cells := 0, slots := 0, locals := 0 } [.ref (ad 58), .int p1, .int p2] F (fun r => (le32 1 r) ∧ m_X8_hasWork (AB ad F) p1 p2 = r) := by
  refine en_P rfl (by decide +kernel) (Nat.le_of_ble_eq_true rfl) ?_
  intro p e s m args below meth c ls0 Q S hK hZ hP hS hl0 hret
  have hl0 : lv_has ls0 3 [(0, .ref (ad 58)), (1, .int p1), (2, .int p2)] := hl0
  have hiX8 : ∀ w ∈ u_ws RX8 TX8 23, w ∈ wsX8_hasWork := in_wsX8_hasWork_1
  obtain ⟨M, hM⟩ : ∃ M, M = m_X8_hasWork (AB ad F) p1 p2 := ⟨_, rfl⟩
  refine lv_aload_n S.1 S.2.1 dX8_hasWork_0 rfl (lv_at hl0 0 rfl) ?_
  obtain ⟨ty1, kn1, no1, en1, at1, sa1, sd1, wr1, pl1, va1, hF1, hb1_1, hb1_2, hb1_3, hb1_4, hb1_5, hb1_6⟩ := wt_m hW
  refine r_get S hK hP 58 (by decide) hF1 (C := RX8) (T := TX8) (N := 23) hiX8 rfl 2 (by decide) (am_at in_wsX8_hasWork_0 0 rfl) (v := .ref (ad 60)) rfl dX8_hasWork_1 ?_
  refine lv_bipush (v := (nI 12)) S.1 S.2.1 dX8_hasWork_4 (by decide +kernel) ?_
  refine lv_iload_n S.1 S.2.1 dX8_hasWork_6 rfl (lv_at hl0 1 rfl) ?_
  refine lv_iadd S.1 S.2.1 dX8_hasWork_7 ?_
  refine lv_topi (fun v2 e2 => ?_)
  have m3 : ((nI 12) + p1) = v2 := cg2 (fun (x : Int32) (y : Int32) => x + y) (Eq.refl ((nI 12) : Int32)) (Eq.refl (p1 : Int32)) e2
  have kz4 := nI_toInt (n := 12) (by decide)
  have kt2 := ti_add e2 (by omega) (by omega)
  obtain ⟨g5, hF5, hg5⟩ := wt_I hW (show (60, 52) ∈ rLI by decide)
  refine r_iald S hK hP 60 (by decide) hF5 (in_of (n := 52) (a := v2.toInt) rfl (by omega) (by omega)) dX8_hasWork_8 ?_
  refine lv_topi (fun v7 e7 => ?_)
  have m8 : ((AB ad F) 60 (rl ((nI 12) + p1))) = v7 := (ab_cg rfl m3).trans ((AB_g hF5).trans e7.symm)
  refine lv_aload_n S.1 S.2.1 dX8_hasWork_9 rfl (lv_at hl0 0 rfl) ?_
  refine r_get S hK hP 58 (by decide) hF1 (C := RX8) (T := TX8) (N := 23) hiX8 rfl 2 (by decide) (am_at in_wsX8_hasWork_0 0 rfl) (v := .ref (ad 60)) rfl dX8_hasWork_10 ?_
  refine lv_iconst (v := (nI 1)) S.1 S.2.1 dX8_hasWork_13 (by decide +kernel) ?_
  refine r_iald S hK hP 60 (by decide) hF5 (vp_in_nI (show 1 < 52 by omega) (by omega)) dX8_hasWork_14 ?_
  refine lv_topi (fun v10 e10 => ?_)
  have m11 : ((AB ad F) 60 (rl (nI 1))) = v10 := (ab_cg rfl rfl).trans ((AB_g hF5).trans e10.symm)
  refine lv_iload_n S.1 S.2.1 dX8_hasWork_15 rfl (lv_at hl0 2 rfl) ?_
  refine lv_iadd S.1 S.2.1 dX8_hasWork_16 ?_
  refine lv_topi (fun v12 e12 => ?_)
  have m13 : (((AB ad F) 60 (rl (nI 1))) + p2) = v12 := cg2 (fun (x : Int32) (y : Int32) => x + y) m11 (Eq.refl (p2 : Int32)) e12
  refine lv_bipush (v := (nI 12)) S.1 S.2.1 dX8_hasWork_17 (by decide +kernel) ?_
  refine lv_irem S.1 S.2.1 dX8_hasWork_19 (by decide +kernel) ?_
  refine lv_topi (fun v14 e14 => ?_)
  have m15 : (irm (((AB ad F) 60 (rl (nI 1))) + p2) (nI 12)) = v14 := cg2 (fun (x : Int32) (y : Int32) => irm x y) m13 (Eq.refl ((nI 12) : Int32)) e14
  refine lv_ishr S.1 S.2.1 dX8_hasWork_20 ?_
  refine lv_topi (fun v16 e16 => ?_)
  have m17 : (((AB ad F) 60 (rl ((nI 12) + p1))) >>> ((irm (((AB ad F) 60 (rl (nI 1))) + p2) (nI 12)) &&& 31)) = v16 := cg2 (fun (x : Int32) (y : Int32) => x >>> (y &&& 31)) m8 m15 e16
  refine lv_iconst (v := (nI 1)) S.1 S.2.1 dX8_hasWork_21 (by decide +kernel) ?_
  refine lv_iand S.1 S.2.1 dX8_hasWork_22 ?_
  refine lv_topi (fun v18 e18 => ?_)
  have m19 : ((((AB ad F) 60 (rl ((nI 12) + p1))) >>> ((irm (((AB ad F) 60 (rl (nI 1))) + p2) (nI 12)) &&& 31)) &&& (nI 1)) = v18 := cg2 (fun (x : Int32) (y : Int32) => x &&& y) m17 (Eq.refl ((nI 1) : Int32)) e18
  refine lv_iconst (v := (nI 1)) S.1 S.2.1 dX8_hasWork_23 (by decide +kernel) ?_
  refine lv_icmp_ne (tgt := 31) S.1 S.2.1 dX8_hasWork_24 (by decide) (fun c20 => ?_) (fun c20 => ?_)
  · skip
    have k21 := ci_ne rfl (nI_toInt (n := 1) (by decide)) c20
    refine lv_iconst (v := (nI 0)) S.1 S.2.1 dX8_hasWork_31 (by decide +kernel) ?_
    have hE22 : M = (nI 0) := hM.trans ((show m_X8_hasWork (AB ad F) p1 p2 = (nI 0) from by unfold m_X8_hasWork; rw [if_neg (neq_cg m19 rfl c20)]).trans rfl)
    exact hret 32 _ _ dX8_hasWork_32 rfl (⟨⟨0, by omega, rfl⟩, hM.symm.trans hE22⟩)
  have k23 := ci_eq rfl (nI_toInt (n := 1) (by decide)) c20
  refine lv_iconst (v := (nI 1)) S.1 S.2.1 dX8_hasWork_27 (by decide +kernel) ?_
  refine lv_goto (tgt := 32) S.1 S.2.1 dX8_hasWork_28 (by decide) ?_
  have hE24 : M = (nI 1) := hM.trans ((show m_X8_hasWork (AB ad F) p1 p2 = (nI 1) from by unfold m_X8_hasWork; rw [if_pos (eq_cg m19 rfl c20)]).trans rfl)
  exact hret 32 _ _ dX8_hasWork_32 rfl (⟨⟨1, by omega, rfl⟩, hM.symm.trans hE24⟩)
noncomputable def m_X8_goesOn (σ : SS) : Int32 :=
  if (σ 60 (rl (nI 2))) ≤ (0 : Int32) then
    (nI 0)
  else
    if (σ 62 (rl (nI 6))) = (0 : Int32) then
      (nI 1)
    else
      (nI 0)
set_option maxHeartbeats 4000000 in
set_option maxRecDepth 100000 in
theorem c_X8_goesOn (l : Launch) (D : va_G) (cA ad : Nat → Nat) (t : Nat) (hI : rI ad) (F : Nat → va_E) (hW : WT cA ad F) : MP l D cA ad t yX8_goesOn wsX8_goesOn { frames := 0, cells := 0, slots := 0, locals := 0 } [.ref (ad 58)] F (fun r => (le32 1 r) ∧ m_X8_goesOn (AB ad F) = r) := by
  refine en_P rfl (by decide +kernel) (Nat.le_of_ble_eq_true rfl) ?_
  intro p e s m args below meth c ls0 Q S hK hZ hP hS hl0 hret
  have hl0 : lv_has ls0 1 [(0, .ref (ad 58))] := hl0
  have hiX8 : ∀ w ∈ u_ws RX8 TX8 23, w ∈ wsX8_goesOn := in_wsX8_goesOn_1
  obtain ⟨M, hM⟩ : ∃ M, M = m_X8_goesOn (AB ad F) := ⟨_, rfl⟩
  refine lv_aload_n S.1 S.2.1 dX8_goesOn_0 rfl (lv_at hl0 0 rfl) ?_
  obtain ⟨ty1, kn1, no1, en1, at1, sa1, sd1, wr1, pl1, va1, hF1, hb1_1, hb1_2, hb1_3, hb1_4, hb1_5, hb1_6⟩ := wt_m hW
  refine r_get S hK hP 58 (by decide) hF1 (C := RX8) (T := TX8) (N := 23) hiX8 rfl 2 (by decide) (am_at in_wsX8_goesOn_0 0 rfl) (v := .ref (ad 60)) rfl dX8_goesOn_1 ?_
  refine lv_iconst (v := (nI 2)) S.1 S.2.1 dX8_goesOn_4 (by decide +kernel) ?_
  obtain ⟨g2, hF2, hg2⟩ := wt_I hW (show (60, 52) ∈ rLI by decide)
  refine r_iald S hK hP 60 (by decide) hF2 (vp_in_nI (show 2 < 52 by omega) (by omega)) dX8_goesOn_5 ?_
  refine lv_topi (fun v4 e4 => ?_)
  obtain ⟨b5, hb5, he5⟩ := (pr_T (by decide) (hg2 2 (by decide))).2.1 rfl
  obtain rfl : v4 = nI b5 := e4.trans he5
  have m6 : ((AB ad F) 60 (rl (nI 2))) = (nI b5) := (ab_cg rfl rfl).trans ((AB_g hF2).trans e4.symm)
  refine lv_if_le (tgt := 23) S.1 S.2.1 dX8_goesOn_6 (by decide) (fun c7 => ?_) (fun c7 => ?_)
  · skip
    have k8 := ci_le (nI_toInt (n := b5) (Nat.lt_of_le_of_lt hb5 (by decide))) z_ti c7
    refine lv_iconst (v := (nI 0)) S.1 S.2.1 dX8_goesOn_23 (by decide +kernel) ?_
    have hE9 : M = (nI 0) := hM.trans ((show m_X8_goesOn (AB ad F) = (nI 0) from by unfold m_X8_goesOn; rw [if_pos (le_cg m6 rfl c7)]).trans rfl)
    exact hret 24 _ _ dX8_goesOn_24 rfl (⟨⟨0, by omega, rfl⟩, hM.symm.trans hE9⟩)
  have k10 := ci_nle (nI_toInt (n := b5) (Nat.lt_of_le_of_lt hb5 (by decide))) z_ti c7
  refine lv_aload_n S.1 S.2.1 dX8_goesOn_9 rfl (lv_at hl0 0 rfl) ?_
  refine r_get S hK hP 58 (by decide) hF1 (C := RX8) (T := TX8) (N := 23) hiX8 rfl 4 (by decide) (am_at in_wsX8_goesOn_0 1 rfl) (v := .ref (ad 62)) rfl dX8_goesOn_10 ?_
  refine lv_bipush (v := (nI 6)) S.1 S.2.1 dX8_goesOn_13 (by decide +kernel) ?_
  obtain ⟨g11, hF11, hg11⟩ := wt_I hW (show (62, 7) ∈ rLI by decide)
  refine r_iald S hK hP 62 (by decide) hF11 (vp_in_nI (show 6 < 7 by omega) (by omega)) dX8_goesOn_15 ?_
  refine lv_topi (fun v13 e13 => ?_)
  have m14 : ((AB ad F) 62 (rl (nI 6))) = v13 := (ab_cg rfl rfl).trans ((AB_g hF11).trans e13.symm)
  refine lv_if_ne (tgt := 23) S.1 S.2.1 dX8_goesOn_16 (by decide) (fun c15 => ?_) (fun c15 => ?_)
  · skip
    have k16 := ci_ne rfl z_ti c15
    refine lv_iconst (v := (nI 0)) S.1 S.2.1 dX8_goesOn_23 (by decide +kernel) ?_
    have hE17 : M = (nI 0) := hM.trans ((show m_X8_goesOn (AB ad F) = (nI 0) from by unfold m_X8_goesOn; rw [if_neg (nle_cg m6 rfl c7), if_neg (neq_cg m14 rfl c15)]).trans rfl)
    exact hret 24 _ _ dX8_goesOn_24 rfl (⟨⟨0, by omega, rfl⟩, hM.symm.trans hE17⟩)
  have k18 := ci_eq rfl z_ti c15
  refine lv_iconst (v := (nI 1)) S.1 S.2.1 dX8_goesOn_19 (by decide +kernel) ?_
  refine lv_goto (tgt := 24) S.1 S.2.1 dX8_goesOn_20 (by decide) ?_
  have hE19 : M = (nI 1) := hM.trans ((show m_X8_goesOn (AB ad F) = (nI 1) from by unfold m_X8_goesOn; rw [if_neg (nle_cg m6 rfl c7), if_pos (eq_cg m14 rfl c15)]).trans rfl)
  exact hret 24 _ _ dX8_goesOn_24 rfl (⟨⟨1, by omega, rfl⟩, hM.symm.trans hE19⟩)
noncomputable def m_X8_mayStay (σ : SS) : Int32 :=
  if (σ 60 (rl (nI 0))) ≤ (σ 62 (rl (nI 2))) then
    (nI 0)
  else
    (nI 1)
set_option maxHeartbeats 4000000 in
set_option maxRecDepth 100000 in
theorem c_X8_mayStay (l : Launch) (D : va_G) (cA ad : Nat → Nat) (t : Nat) (hI : rI ad) (F : Nat → va_E) (hW : WT cA ad F) : MP l D cA ad t yX8_mayStay wsX8_mayStay { frames := 0, cells := 0, slots := 0, locals := 0 } [.ref (ad 58)] F (fun r => (le32 1 r ∧ (r ≠ 0 → aN (F 62) 2 < aN (F 60) 0)) ∧ m_X8_mayStay (AB ad F) = r) := by
  refine en_P rfl (by decide +kernel) (Nat.le_of_ble_eq_true rfl) ?_
  intro p e s m args below meth c ls0 Q S hK hZ hP hS hl0 hret
  have hl0 : lv_has ls0 1 [(0, .ref (ad 58))] := hl0
  have hiX8 : ∀ w ∈ u_ws RX8 TX8 23, w ∈ wsX8_mayStay := in_wsX8_mayStay_1
  obtain ⟨M, hM⟩ : ∃ M, M = m_X8_mayStay (AB ad F) := ⟨_, rfl⟩
  refine lv_aload_n S.1 S.2.1 dX8_mayStay_0 rfl (lv_at hl0 0 rfl) ?_
  obtain ⟨ty1, kn1, no1, en1, at1, sa1, sd1, wr1, pl1, va1, hF1, hb1_1, hb1_2, hb1_3, hb1_4, hb1_5, hb1_6⟩ := wt_m hW
  refine r_get S hK hP 58 (by decide) hF1 (C := RX8) (T := TX8) (N := 23) hiX8 rfl 4 (by decide) (am_at in_wsX8_mayStay_0 0 rfl) (v := .ref (ad 62)) rfl dX8_mayStay_1 ?_
  refine lv_iconst (v := (nI 2)) S.1 S.2.1 dX8_mayStay_4 (by decide +kernel) ?_
  obtain ⟨g2, hF2, hg2⟩ := wt_I hW (show (62, 7) ∈ rLI by decide)
  refine r_iald S hK hP 62 (by decide) hF2 (vp_in_nI (show 2 < 7 by omega) (by omega)) dX8_mayStay_5 ?_
  refine lv_topi (fun v4 e4 => ?_)
  obtain ⟨b5, hb5, he5⟩ := (pr_S (hg2 2 (by decide))).2.1 rfl
  obtain rfl : v4 = nI b5 := e4.trans he5
  have m6 : ((AB ad F) 62 (rl (nI 2))) = (nI b5) := (ab_cg rfl rfl).trans ((AB_g hF2).trans e4.symm)
  refine lv_aload_n S.1 S.2.1 dX8_mayStay_6 rfl (lv_at hl0 0 rfl) ?_
  refine r_get S hK hP 58 (by decide) hF1 (C := RX8) (T := TX8) (N := 23) hiX8 rfl 2 (by decide) (am_at in_wsX8_mayStay_0 1 rfl) (v := .ref (ad 60)) rfl dX8_mayStay_7 ?_
  refine lv_iconst (v := (nI 0)) S.1 S.2.1 dX8_mayStay_10 (by decide +kernel) ?_
  obtain ⟨g7, hF7, hg7⟩ := wt_I hW (show (60, 52) ∈ rLI by decide)
  refine r_iald S hK hP 60 (by decide) hF7 (vp_in_nI (show 0 < 52 by omega) (by omega)) dX8_mayStay_11 ?_
  refine lv_topi (fun v9 e9 => ?_)
  obtain ⟨b10, hb10, he10⟩ := (pr_T (by decide) (hg7 0 (by decide))).1 rfl
  obtain rfl : v9 = nI b10 := e9.trans he10
  have m11 : ((AB ad F) 60 (rl (nI 0))) = (nI b10) := (ab_cg rfl rfl).trans ((AB_g hF7).trans e9.symm)
  refine lv_icmp_ge (tgt := 19) S.1 S.2.1 dX8_mayStay_12 (by decide) (fun c12 => ?_) (fun c12 => ?_)
  · skip
    have k13 := ci_le (nI_toInt (n := b10) (Nat.lt_of_le_of_lt hb10 (by decide))) (nI_toInt (n := b5) (Nat.lt_of_le_of_lt hb5 (by decide))) c12
    refine lv_iconst (v := (nI 0)) S.1 S.2.1 dX8_mayStay_19 (by decide +kernel) ?_
    have hN14 := aN_of (j := 2) hF2 he5 (by omega)
    have hN15 := aN_of (j := 0) hF7 he10 (by omega)
    have hE16 : M = (nI 0) := hM.trans ((show m_X8_mayStay (AB ad F) = (nI 0) from by unfold m_X8_mayStay; rw [if_pos (le_cg m11 m6 c12)]).trans rfl)
    exact hret 20 _ _ dX8_mayStay_20 rfl (⟨⟨⟨0, by omega, rfl⟩, fun h => absurd rfl h⟩, hM.symm.trans hE16⟩)
  have k17 := ci_nle (nI_toInt (n := b10) (Nat.lt_of_le_of_lt hb10 (by decide))) (nI_toInt (n := b5) (Nat.lt_of_le_of_lt hb5 (by decide))) c12
  refine lv_iconst (v := (nI 1)) S.1 S.2.1 dX8_mayStay_15 (by decide +kernel) ?_
  refine lv_goto (tgt := 20) S.1 S.2.1 dX8_mayStay_16 (by decide) ?_
  have hN18 := aN_of (j := 2) hF2 he5 (by omega)
  have hN19 := aN_of (j := 0) hF7 he10 (by omega)
  have hE20 : M = (nI 1) := hM.trans ((show m_X8_mayStay (AB ad F) = (nI 1) from by unfold m_X8_mayStay; rw [if_neg (nle_cg m11 m6 c12)]).trans rfl)
  exact hret 20 _ _ dX8_mayStay_20 rfl (⟨⟨⟨1, by omega, rfl⟩, fun _ => by omega⟩, hM.symm.trans hE20⟩)
noncomputable def m_X8_stays_118 (σ : SS) (a0 : Int32) (a1 : Int32) : Int32 × SS :=
  ((σ 60 (rl ((nI 20) + a1))), σ)
noncomputable def m_X8_stays_108 (σ : SS) (a0 : Int32) (a1 : Int32) : Int32 × SS :=
  m_X8_stays_118 (st σ 62 (rl (nI 1)) ((σ 62 (rl (nI 1))) + (nI 1))) a0 a1
noncomputable def m_X8_stays_97 (σ : SS) (a0 : Int32) (a1 : Int32) : Int32 × SS :=
  m_X8_stays_108 (st σ 62 (rl (nI 2)) ((σ 62 (rl (nI 2))) + (nI 1))) a0 a1
noncomputable def m_X8_stays_80 (σ : SS) (a0 : Int32) (a1 : Int32) : Int32 × SS :=
  m_X8_stays_97 (st σ 62 (rl (nI 4)) ((σ 62 (rl (nI 4))) ||| ((nI 1) <<< (a1 &&& 31)))) a0 a1
noncomputable def m_X8_stays_65 (σ : SS) (a0 : Int32) (a1 : Int32) : Int32 × SS :=
  ((nI 0), σ)
noncomputable def m_X8_stays_55 (σ : SS) (a0 : Int32) (a1 : Int32) : Int32 × SS :=
  m_X8_stays_65 (st σ 62 (rl (nI 1)) ((σ 62 (rl (nI 1))) + (nI 1))) a0 a1
noncomputable def m_X8_stays_44 (σ : SS) (a0 : Int32) (a1 : Int32) : Int32 × SS :=
  m_X8_stays_55 (st σ 62 (rl (nI 2)) ((σ 62 (rl (nI 2))) + (nI 1))) a0 a1
noncomputable def m_X8_stays_29 (σ : SS) (a0 : Int32) (a1 : Int32) : Int32 × SS :=
  m_X8_stays_44 (st σ 62 (rl (nI 4)) ((σ 62 (rl (nI 4))) ||| (nI 0))) a0 a1
noncomputable def m_X8_stays (σ : SS) : Int32 × SS :=
  if (m_X8_hasWork σ (σ 62 (rl (nI 0))) (σ 62 (rl (nI 1)))) = (0 : Int32) then
    m_X8_stays_29 (st σ 62 (rl (nI 3)) ((σ 62 (rl (nI 3))) + (nI 0))) (m_X8_hasWork σ (σ 62 (rl (nI 0))) (σ 62 (rl (nI 1)))) (σ 62 (rl (nI 0)))
  else
    m_X8_stays_80 (st σ 62 (rl (nI 3)) ((σ 62 (rl (nI 3))) + (σ 60 (rl ((nI 20) + (σ 62 (rl (nI 0)))))))) (m_X8_hasWork σ (σ 62 (rl (nI 0))) (σ 62 (rl (nI 1)))) (σ 62 (rl (nI 0)))
set_option maxHeartbeats 4000000 in
set_option maxRecDepth 100000 in
theorem c_X8_stays (l : Launch) (D : va_G) (cA ad : Nat → Nat) (t : Nat) (hI : rI ad) (F : Nat → va_E) (hW : WT cA ad F) (hst : aN (F 62) 2 < aN (F 60) 0) : MI l D cA ad t yX8_stays wsX8_stays { frames := 1, cells := 0, slots := 0, locals := 22 } [.ref (ad 58)] F (fun r F' => WT cA ad F' ∧ rFr [62] F F' ∧ ((True) ∧ m_X8_stays (AB ad F) = (r, AB ad F'))) := by
  refine en_I rfl (by decide +kernel) (Nat.le_of_ble_eq_true rfl) ?_
  intro p e s m args below meth c ls0 Q S hK hZ hP hS hl0 hret
  have hl0 : lv_has ls0 3 [(0, .ref (ad 58))] := hl0
  have hFr : rFr [62] F F := rFr.rf
  have hiX8 : ∀ w ∈ u_ws RX8 TX8 23, w ∈ wsX8_stays := in_wsX8_stays_1
  obtain ⟨M, hM⟩ : ∃ M, M = m_X8_stays (AB ad F) := ⟨_, rfl⟩
  obtain ⟨g1, hF1, hg1⟩ := wt_I hW (show (62, 7) ∈ rLI by decide)
  obtain ⟨b2, hb2, he2⟩ := (pr_S (hg1 2 (by decide))).2.1 rfl
  have hN3 := aN_of (j := 2) hF1 he2 (by omega)
  obtain ⟨g4, hF4, hg4⟩ := wt_I hW (show (60, 52) ∈ rLI by decide)
  obtain ⟨b5, hb5, he5⟩ := (pr_T (by decide) (hg4 0 (by decide))).1 rfl
  have hN6 := aN_of (j := 0) hF4 he5 (by omega)
  refine lv_aload_n S.1 S.2.1 dX8_stays_0 rfl (lv_at hl0 0 rfl) ?_
  obtain ⟨ty7, kn7, no7, en7, at7, sa7, sd7, wr7, pl7, va7, hF7, hb7_1, hb7_2, hb7_3, hb7_4, hb7_5, hb7_6⟩ := wt_m hW
  refine r_get S hK hP 58 (by decide) hF7 (C := RX8) (T := TX8) (N := 23) hiX8 rfl 4 (by decide) (am_at in_wsX8_stays_0 0 rfl) (v := .ref (ad 62)) rfl dX8_stays_1 ?_
  refine lv_iconst (v := (nI 0)) S.1 S.2.1 dX8_stays_4 (by decide +kernel) ?_
  refine r_iald S hK hP 62 (by decide) hF1 (vp_in_nI (show 0 < 7 by omega) (by omega)) dX8_stays_5 ?_
  refine lv_topi (fun v9 e9 => ?_)
  obtain ⟨b10, hb10, he10⟩ := (pr_S (hg1 0 (by decide))).1 rfl
  obtain rfl : v9 = nI b10 := e9.trans he10
  have m11 : ((AB ad F) 62 (rl (nI 0))) = (nI b10) := (ab_cg rfl rfl).trans ((AB_g hF1).trans e9.symm)
  refine lv_istore_n (lv' := [(1, .int (nI b10)), (0, .ref (ad 58))]) S.1 S.2.1 dX8_stays_6 rfl hl0 (by decide) rfl (fun ls12 hl12 => ?_)
  refine lv_aload_n S.1 S.2.1 dX8_stays_7 rfl (lv_at hl12 1 rfl) ?_
  refine lv_iload_n S.1 S.2.1 dX8_stays_8 rfl (lv_at hl12 0 rfl) ?_
  refine lv_aload_n S.1 S.2.1 dX8_stays_9 rfl (lv_at hl12 1 rfl) ?_
  refine r_get S hK hP 58 (by decide) hF7 (C := RX8) (T := TX8) (N := 23) hiX8 rfl 4 (by decide) (am_at in_wsX8_stays_0 0 rfl) (v := .ref (ad 62)) rfl dX8_stays_10 ?_
  refine lv_iconst (v := (nI 1)) S.1 S.2.1 dX8_stays_13 (by decide +kernel) ?_
  refine r_iald S hK hP 62 (by decide) hF1 (vp_in_nI (show 1 < 7 by omega) (by omega)) dX8_stays_14 ?_
  refine lv_topi (fun v14 e14 => ?_)
  have m15 : ((AB ad F) 62 (rl (nI 1))) = v14 := (ab_cg rfl rfl).trans ((AB_g hF1).trans e14.symm)
  have ta17 : ((nI b10) : Int32).toInt = ((b10 : Nat) : Int) := (nI_toInt (n := b10) (Nat.lt_of_le_of_lt hb10 (by decide)))
  refine r_cVp (As := [.int (nI b10), .int v14]) (rest := []) S hK hZ hP hS hl12.1 58 (by decide) hF7 (C := RX8) rfl (c_X8_hasWork l D cA ad t hI F hW (nI b10) v14 (by omega)) (cwV 2 S.2.2.2.2 gX8_stays_X8_hasWork rfl rfl rfl (by decide +kernel) ⟨Nat.le_of_ble_eq_true rfl, Nat.le_of_ble_eq_true rfl⟩) rfl rfl (Nat.le_of_ble_eq_true rfl) ⟨Nat.zero_le _, Nat.zero_le _⟩ dX8_stays_15 (fun r16 hr16 => ?_)
  obtain ⟨hr16, hm16⟩ := hr16
  obtain ⟨b18, hb18, rfl⟩ := hr16
  have m19 : (m_X8_hasWork (AB ad F) ((AB ad F) 62 (rl (nI 0))) ((AB ad F) 62 (rl (nI 1)))) = (nI b18) := (congr (congr (Eq.refl (m_X8_hasWork (AB ad F))) m11) m15).trans hm16
  refine lv_istore_n (lv' := [(2, .int (nI b18)), (1, .int (nI b10)), (0, .ref (ad 58))]) S.1 S.2.1 dX8_stays_18 rfl hl12 (by decide) rfl (fun ls20 hl20 => ?_)
  refine lv_aload_n S.1 S.2.1 dX8_stays_19 rfl (lv_at hl20 2 rfl) ?_
  refine r_get S hK hP 58 (by decide) hF7 (C := RX8) (T := TX8) (N := 23) hiX8 rfl 4 (by decide) (am_at in_wsX8_stays_0 0 rfl) (v := .ref (ad 62)) rfl dX8_stays_20 ?_
  refine lv_iconst (v := (nI 3)) S.1 S.2.1 dX8_stays_23 (by decide +kernel) ?_
  refine lv_dup2_11 S.1 S.2.1 dX8_stays_24 rfl rfl ?_
  refine r_iald S hK hP 62 (by decide) hF1 (vp_in_nI (show 3 < 7 by omega) (by omega)) dX8_stays_25 ?_
  refine lv_topi (fun v22 e22 => ?_)
  have m23 : ((AB ad F) 62 (rl (nI 3))) = v22 := (ab_cg rfl rfl).trans ((AB_g hF1).trans e22.symm)
  refine lv_iload_n S.1 S.2.1 dX8_stays_26 rfl (lv_at hl20 0 rfl) ?_
  refine lv_if_eq (tgt := 42) S.1 S.2.1 dX8_stays_27 (by decide) (fun c24 => ?_) (fun c24 => ?_)
  · skip
    have k25 := ci_eq (nI_toInt (n := b18) (Nat.lt_of_le_of_lt hb18 (by decide))) z_ti c24
    refine lv_iconst (v := (nI 0)) S.1 S.2.1 dX8_stays_42 (by decide +kernel) ?_
    refine lv_iadd S.1 S.2.1 dX8_stays_43 ?_
    refine lv_topi (fun v26 e26 => ?_)
    have m27 : (((AB ad F) 62 (rl (nI 3))) + (nI 0)) = v26 := cg2 (fun (x : Int32) (y : Int32) => x + y) m23 (Eq.refl ((nI 0) : Int32)) e26
    refine r_iast S hI hK hP hS 62 (by decide) hF1 (vp_in_nI (show 3 < 7 by omega) (by omega)) dX8_stays_44 (fun F28 H28 locs28 eF28 hP28 hS28 => ?_)
    have hW28 := hW.up eF28 (ok_I (show (62, 7) ∈ rLI by decide) (okI_up hg1 (by rw [nI_clamp (by omega)]; exact to_S (okS_o (by decide) (by decide) (by decide)))))
    have hFr28 := hFr.up eF28 (by simp <;> first | omega | (simp only [isC, isJ] at *; omega))
    have hE30 : M = m_X8_stays_29 (AB ad F28) (nI b18) (nI b10) := hM.trans ((show m_X8_stays (AB ad F) = m_X8_stays_29 (st (AB ad F) 62 (rl (nI 3)) (((AB ad F) 62 (rl (nI 3))) + (nI 0))) (m_X8_hasWork (AB ad F) ((AB ad F) 62 (rl (nI 0))) ((AB ad F) 62 (rl (nI 1)))) ((AB ad F) 62 (rl (nI 0))) from by unfold m_X8_stays; rw [if_pos (eq_cg m19 rfl c24)]).trans (congr (congr (congrArg (m_X8_stays_29) ((st_cg rfl (congrArg rl rfl) m27).trans (AB_ast hF1 eF28).symm)) m19) m11))
    obtain ⟨gg28, eg28⟩ : ∃ g9, g9 = upd g1 (nI 3).toNatClampNeg v26 := ⟨_, rfl⟩
    have hF28 : F28 62 = .inl (cA 0, 7, .inl gg28) := by rw [eF28, eg28]; exact va_up_self _ _ _
    have hg28 : ∀ j, j < 7 → rPr 62 j (gg28 j) := by rw [eg28]; exact pr_up hg1 (by rw [nI_clamp (by omega)]; exact to_S (okS_o (by decide) (by decide) (by decide)))
    have he31 : gg28 2 = nI b2 := by rw [eg28, pk_un (by rw [nI_clamp (by omega)]; omega)]; exact he2
    have he32 : gg28 0 = nI b10 := by rw [eg28, pk_un (by rw [nI_clamp (by omega)]; omega)]; exact he10
    refine lv_aload_n S.1 S.2.1 dX8_stays_45 rfl (lv_at hl20 2 rfl) ?_
    have hF33 := (show F28 58 = F 58 by rw [eF28]; exact va_up_ne _ _ (by decide)).trans hF7
    refine r_get S hK hP28 58 (by decide) hF33 (C := RX8) (T := TX8) (N := 23) hiX8 rfl 4 (by decide) (am_at in_wsX8_stays_0 0 rfl) (v := .ref (ad 62)) rfl dX8_stays_46 ?_
    refine lv_iconst (v := (nI 4)) S.1 S.2.1 dX8_stays_49 (by decide +kernel) ?_
    refine lv_dup2_11 S.1 S.2.1 dX8_stays_50 rfl rfl ?_
    refine r_iald S hK hP28 62 (by decide) hF28 (vp_in_nI (show 4 < 7 by omega) (by omega)) dX8_stays_51 ?_
    refine lv_topi (fun v35 e35 => ?_)
    obtain ⟨b36, hb36, he36⟩ := (pr_S (hg28 4 (by decide))).2.2 rfl
    obtain rfl : v35 = nI b36 := e35.trans he36
    have m37 : ((AB ad F28) 62 (rl (nI 4))) = (nI b36) := (ab_cg rfl rfl).trans ((AB_g hF28).trans e35.symm)
    refine lv_iload_n S.1 S.2.1 dX8_stays_52 rfl (lv_at hl20 0 rfl) ?_
    refine lv_if_eq (tgt := 62) S.1 S.2.1 dX8_stays_53 (by decide) (fun c38 => ?_) (fun c38 => absurd c24 c38)
    have k39 := ci_eq (nI_toInt (n := b18) (Nat.lt_of_le_of_lt hb18 (by decide))) z_ti c38
    refine lv_iconst (v := (nI 0)) S.1 S.2.1 dX8_stays_62 (by decide +kernel) ?_
    refine lv_ior S.1 S.2.1 dX8_stays_63 ?_
    refine lv_topi (fun v40 e40 => ?_)
    have m41 : (((AB ad F28) 62 (rl (nI 4))) ||| (nI 0)) = v40 := cg2 (fun (x : Int32) (y : Int32) => x ||| y) m37 (Eq.refl ((nI 0) : Int32)) e40
    obtain rfl : v40 = nI b36 := e40.trans or_z
    refine r_iast S hI hK hP28 hS28 62 (by decide) hF28 (vp_in_nI (show 4 < 7 by omega) (by omega)) dX8_stays_64 (fun F43 H43 locs43 eF43 hP43 hS43 => ?_)
    have hW43 := hW28.up eF43 (ok_I (show (62, 7) ∈ rLI by decide) (okI_up hg28 (by rw [nI_clamp (by omega)]; exact to_S (okS_4 ⟨b36, by omega, rfl⟩))))
    have hFr43 := hFr28.up eF43 (by simp <;> first | omega | (simp only [isC, isJ] at *; omega))
    have hE45 : M = m_X8_stays_44 (AB ad F43) (nI b18) (nI b10) := hE30.trans ((show m_X8_stays_29 (AB ad F28) (nI b18) (nI b10) = m_X8_stays_44 (st (AB ad F28) 62 (rl (nI 4)) (((AB ad F28) 62 (rl (nI 4))) ||| (nI 0))) (nI b18) (nI b10) from rfl).trans (congr (congr (congrArg (m_X8_stays_44) ((st_cg rfl (congrArg rl rfl) m41).trans (AB_ast hF28 eF43).symm)) (Eq.refl ((nI b18) : Int32))) (Eq.refl ((nI b10) : Int32))))
    obtain ⟨gg43, eg43⟩ : ∃ g9, g9 = upd gg28 (nI 4).toNatClampNeg (nI b36) := ⟨_, rfl⟩
    have hF43 : F43 62 = .inl (cA 0, 7, .inl gg43) := by rw [eF43, eg43]; exact va_up_self _ _ _
    have hg43 : ∀ j, j < 7 → rPr 62 j (gg43 j) := by rw [eg43]; exact pr_up hg28 (by rw [nI_clamp (by omega)]; exact to_S (okS_4 ⟨b36, by omega, rfl⟩))
    have he46 : gg43 2 = nI b2 := by rw [eg43, pk_un (by rw [nI_clamp (by omega)]; omega)]; exact he31
    have he47 : gg43 0 = nI b10 := by rw [eg43, pk_un (by rw [nI_clamp (by omega)]; omega)]; exact he32
    refine lv_aload_n S.1 S.2.1 dX8_stays_65 rfl (lv_at hl20 2 rfl) ?_
    have hF48 := (show F43 58 = F28 58 by rw [eF43]; exact va_up_ne _ _ (by decide)).trans hF33
    refine r_get S hK hP43 58 (by decide) hF48 (C := RX8) (T := TX8) (N := 23) hiX8 rfl 4 (by decide) (am_at in_wsX8_stays_0 0 rfl) (v := .ref (ad 62)) rfl dX8_stays_66 ?_
    refine lv_iconst (v := (nI 2)) S.1 S.2.1 dX8_stays_69 (by decide +kernel) ?_
    refine lv_dup2_11 S.1 S.2.1 dX8_stays_70 rfl rfl ?_
    refine r_iald S hK hP43 62 (by decide) hF43 (vp_in_nI (show 2 < 7 by omega) (by omega)) dX8_stays_71 ?_
    refine lv_topi (fun v50 e50 => ?_)
    obtain rfl : v50 = nI b2 := e50.trans he46
    have m51 : ((AB ad F43) 62 (rl (nI 2))) = (nI b2) := (ab_cg rfl rfl).trans ((AB_g hF43).trans e50.symm)
    refine lv_iconst (v := (nI 1)) S.1 S.2.1 dX8_stays_72 (by decide +kernel) ?_
    refine lv_iadd S.1 S.2.1 dX8_stays_73 ?_
    refine lv_topi (fun v52 e52 => ?_)
    obtain rfl : v52 = nI (b2 + 1) := e52.trans (nI_add _ _)
    have m53 : (((AB ad F43) 62 (rl (nI 2))) + (nI 1)) = (nI (b2 + 1)) := cg2 (fun (x : Int32) (y : Int32) => x + y) m51 (Eq.refl ((nI 1) : Int32)) e52
    refine r_iast S hI hK hP43 hS43 62 (by decide) hF43 (vp_in_nI (show 2 < 7 by omega) (by omega)) dX8_stays_74 (fun F54 H54 locs54 eF54 hP54 hS54 => ?_)
    have hW54 := hW43.up eF54 (ok_I (show (62, 7) ∈ rLI by decide) (okI_up hg43 (by rw [nI_clamp (by omega)]; exact to_S (okS_2 ⟨b2 + 1, by omega, rfl⟩))))
    have hFr54 := hFr43.up eF54 (by simp <;> first | omega | (simp only [isC, isJ] at *; omega))
    have hE56 : M = m_X8_stays_55 (AB ad F54) (nI b18) (nI b10) := hE45.trans ((show m_X8_stays_44 (AB ad F43) (nI b18) (nI b10) = m_X8_stays_55 (st (AB ad F43) 62 (rl (nI 2)) (((AB ad F43) 62 (rl (nI 2))) + (nI 1))) (nI b18) (nI b10) from rfl).trans (congr (congr (congrArg (m_X8_stays_55) ((st_cg rfl (congrArg rl rfl) m53).trans (AB_ast hF43 eF54).symm)) (Eq.refl ((nI b18) : Int32))) (Eq.refl ((nI b10) : Int32))))
    obtain ⟨gg54, eg54⟩ : ∃ g9, g9 = upd gg43 (nI 2).toNatClampNeg (nI (b2 + 1)) := ⟨_, rfl⟩
    have hF54 : F54 62 = .inl (cA 0, 7, .inl gg54) := by rw [eF54, eg54]; exact va_up_self _ _ _
    have hg54 : ∀ j, j < 7 → rPr 62 j (gg54 j) := by rw [eg54]; exact pr_up hg43 (by rw [nI_clamp (by omega)]; exact to_S (okS_2 ⟨b2 + 1, by omega, rfl⟩))
    have he57 : gg54 0 = nI b10 := by rw [eg54, pk_un (by rw [nI_clamp (by omega)]; omega)]; exact he47
    refine lv_aload_n S.1 S.2.1 dX8_stays_75 rfl (lv_at hl20 2 rfl) ?_
    have hF58 := (show F54 58 = F43 58 by rw [eF54]; exact va_up_ne _ _ (by decide)).trans hF48
    refine r_get S hK hP54 58 (by decide) hF58 (C := RX8) (T := TX8) (N := 23) hiX8 rfl 4 (by decide) (am_at in_wsX8_stays_0 0 rfl) (v := .ref (ad 62)) rfl dX8_stays_76 ?_
    refine lv_iconst (v := (nI 1)) S.1 S.2.1 dX8_stays_79 (by decide +kernel) ?_
    refine lv_dup2_11 S.1 S.2.1 dX8_stays_80 rfl rfl ?_
    refine r_iald S hK hP54 62 (by decide) hF54 (vp_in_nI (show 1 < 7 by omega) (by omega)) dX8_stays_81 ?_
    refine lv_topi (fun v60 e60 => ?_)
    have m61 : ((AB ad F54) 62 (rl (nI 1))) = v60 := (ab_cg rfl rfl).trans ((AB_g hF54).trans e60.symm)
    refine lv_iconst (v := (nI 1)) S.1 S.2.1 dX8_stays_82 (by decide +kernel) ?_
    refine lv_iadd S.1 S.2.1 dX8_stays_83 ?_
    refine lv_topi (fun v62 e62 => ?_)
    have m63 : (((AB ad F54) 62 (rl (nI 1))) + (nI 1)) = v62 := cg2 (fun (x : Int32) (y : Int32) => x + y) m61 (Eq.refl ((nI 1) : Int32)) e62
    refine r_iast S hI hK hP54 hS54 62 (by decide) hF54 (vp_in_nI (show 1 < 7 by omega) (by omega)) dX8_stays_84 (fun F64 H64 locs64 eF64 hP64 hS64 => ?_)
    have hW64 := hW54.up eF64 (ok_I (show (62, 7) ∈ rLI by decide) (okI_up hg54 (by rw [nI_clamp (by omega)]; exact to_S (okS_o (by decide) (by decide) (by decide)))))
    have hFr64 := hFr54.up eF64 (by simp <;> first | omega | (simp only [isC, isJ] at *; omega))
    have hE66 : M = m_X8_stays_65 (AB ad F64) (nI b18) (nI b10) := hE56.trans ((show m_X8_stays_55 (AB ad F54) (nI b18) (nI b10) = m_X8_stays_65 (st (AB ad F54) 62 (rl (nI 1)) (((AB ad F54) 62 (rl (nI 1))) + (nI 1))) (nI b18) (nI b10) from rfl).trans (congr (congr (congrArg (m_X8_stays_65) ((st_cg rfl (congrArg rl rfl) m63).trans (AB_ast hF54 eF64).symm)) (Eq.refl ((nI b18) : Int32))) (Eq.refl ((nI b10) : Int32))))
    obtain ⟨gg64, eg64⟩ : ∃ g9, g9 = upd gg54 (nI 1).toNatClampNeg v62 := ⟨_, rfl⟩
    have hF64 : F64 62 = .inl (cA 0, 7, .inl gg64) := by rw [eF64, eg64]; exact va_up_self _ _ _
    have hg64 : ∀ j, j < 7 → rPr 62 j (gg64 j) := by rw [eg64]; exact pr_up hg54 (by rw [nI_clamp (by omega)]; exact to_S (okS_o (by decide) (by decide) (by decide)))
    have he67 : gg64 0 = nI b10 := by rw [eg64, pk_un (by rw [nI_clamp (by omega)]; omega)]; exact he57
    refine lv_iload_n S.1 S.2.1 dX8_stays_85 rfl (lv_at hl20 0 rfl) ?_
    refine lv_if_eq (tgt := 101) S.1 S.2.1 dX8_stays_86 (by decide) (fun c68 => ?_) (fun c68 => absurd c38 c68)
    have k69 := ci_eq (nI_toInt (n := b18) (Nat.lt_of_le_of_lt hb18 (by decide))) z_ti c68
    refine lv_iconst (v := (nI 0)) S.1 S.2.1 dX8_stays_101 (by decide +kernel) ?_
    have hE70 : M = ((nI 0), AB ad F64) := hE66.trans ((show m_X8_stays_65 (AB ad F64) (nI b18) (nI b10) = ((nI 0), (AB ad F64)) from rfl).trans (congrArg (fun q => (q, AB ad F64)) rfl))
    exact hret 102 _ _ _ _ _ dX8_stays_102 rfl hP64 hS64 ⟨hW64, hFr64, ⟨trivial, hM.symm.trans hE70⟩⟩
  have k71 := ci_ne (nI_toInt (n := b18) (Nat.lt_of_le_of_lt hb18 (by decide))) z_ti c24
  refine lv_aload_n S.1 S.2.1 dX8_stays_30 rfl (lv_at hl20 2 rfl) ?_
  refine r_get S hK hP 58 (by decide) hF7 (C := RX8) (T := TX8) (N := 23) hiX8 rfl 2 (by decide) (am_at in_wsX8_stays_0 1 rfl) (v := .ref (ad 60)) rfl dX8_stays_31 ?_
  refine lv_bipush (v := (nI 20)) S.1 S.2.1 dX8_stays_34 (by decide +kernel) ?_
  refine lv_iload_n S.1 S.2.1 dX8_stays_36 rfl (lv_at hl20 1 rfl) ?_
  refine lv_iadd S.1 S.2.1 dX8_stays_37 ?_
  refine lv_topi (fun v72 e72 => ?_)
  obtain rfl : v72 = nI (20 + b10) := e72.trans (nI_add _ _)
  have m73 : ((nI 20) + ((AB ad F) 62 (rl (nI 0)))) = (nI (20 + b10)) := cg2 (fun (x : Int32) (y : Int32) => x + y) (Eq.refl ((nI 20) : Int32)) m11 e72
  refine r_iald S hK hP 60 (by decide) hF4 (vp_in_nI (show 20 + b10 < 52 by omega) (by omega)) dX8_stays_38 ?_
  refine lv_topi (fun v75 e75 => ?_)
  have m76 : ((AB ad F) 60 (rl ((nI 20) + ((AB ad F) 62 (rl (nI 0)))))) = v75 := (ab_cg rfl m73).trans ((AB_g hF4).trans e75.symm)
  refine lv_goto (tgt := 43) S.1 S.2.1 dX8_stays_39 (by decide) ?_
  refine lv_iadd S.1 S.2.1 dX8_stays_43 ?_
  refine lv_topi (fun v77 e77 => ?_)
  have m78 : (((AB ad F) 62 (rl (nI 3))) + ((AB ad F) 60 (rl ((nI 20) + ((AB ad F) 62 (rl (nI 0))))))) = v77 := cg2 (fun (x : Int32) (y : Int32) => x + y) m23 m76 e77
  refine r_iast S hI hK hP hS 62 (by decide) hF1 (vp_in_nI (show 3 < 7 by omega) (by omega)) dX8_stays_44 (fun F79 H79 locs79 eF79 hP79 hS79 => ?_)
  have hW79 := hW.up eF79 (ok_I (show (62, 7) ∈ rLI by decide) (okI_up hg1 (by rw [nI_clamp (by omega)]; exact to_S (okS_o (by decide) (by decide) (by decide)))))
  have hFr79 := hFr.up eF79 (by simp <;> first | omega | (simp only [isC, isJ] at *; omega))
  have hE81 : M = m_X8_stays_80 (AB ad F79) (nI b18) (nI b10) := hM.trans ((show m_X8_stays (AB ad F) = m_X8_stays_80 (st (AB ad F) 62 (rl (nI 3)) (((AB ad F) 62 (rl (nI 3))) + ((AB ad F) 60 (rl ((nI 20) + ((AB ad F) 62 (rl (nI 0)))))))) (m_X8_hasWork (AB ad F) ((AB ad F) 62 (rl (nI 0))) ((AB ad F) 62 (rl (nI 1)))) ((AB ad F) 62 (rl (nI 0))) from by unfold m_X8_stays; rw [if_neg (neq_cg m19 rfl c24)]).trans (congr (congr (congrArg (m_X8_stays_80) ((st_cg rfl (congrArg rl rfl) m78).trans (AB_ast hF1 eF79).symm)) m19) m11))
  obtain ⟨gg79, eg79⟩ : ∃ g9, g9 = upd g1 (nI 3).toNatClampNeg v77 := ⟨_, rfl⟩
  have hF79 : F79 62 = .inl (cA 0, 7, .inl gg79) := by rw [eF79, eg79]; exact va_up_self _ _ _
  have hg79 : ∀ j, j < 7 → rPr 62 j (gg79 j) := by rw [eg79]; exact pr_up hg1 (by rw [nI_clamp (by omega)]; exact to_S (okS_o (by decide) (by decide) (by decide)))
  have he82 : gg79 2 = nI b2 := by rw [eg79, pk_un (by rw [nI_clamp (by omega)]; omega)]; exact he2
  have he83 : gg79 0 = nI b10 := by rw [eg79, pk_un (by rw [nI_clamp (by omega)]; omega)]; exact he10
  refine lv_aload_n S.1 S.2.1 dX8_stays_45 rfl (lv_at hl20 2 rfl) ?_
  have hF84 := (show F79 58 = F 58 by rw [eF79]; exact va_up_ne _ _ (by decide)).trans hF7
  refine r_get S hK hP79 58 (by decide) hF84 (C := RX8) (T := TX8) (N := 23) hiX8 rfl 4 (by decide) (am_at in_wsX8_stays_0 0 rfl) (v := .ref (ad 62)) rfl dX8_stays_46 ?_
  refine lv_iconst (v := (nI 4)) S.1 S.2.1 dX8_stays_49 (by decide +kernel) ?_
  refine lv_dup2_11 S.1 S.2.1 dX8_stays_50 rfl rfl ?_
  refine r_iald S hK hP79 62 (by decide) hF79 (vp_in_nI (show 4 < 7 by omega) (by omega)) dX8_stays_51 ?_
  refine lv_topi (fun v86 e86 => ?_)
  obtain ⟨b87, hb87, he87⟩ := (pr_S (hg79 4 (by decide))).2.2 rfl
  obtain rfl : v86 = nI b87 := e86.trans he87
  have m88 : ((AB ad F79) 62 (rl (nI 4))) = (nI b87) := (ab_cg rfl rfl).trans ((AB_g hF79).trans e86.symm)
  refine lv_iload_n S.1 S.2.1 dX8_stays_52 rfl (lv_at hl20 0 rfl) ?_
  refine lv_if_eq (tgt := 62) S.1 S.2.1 dX8_stays_53 (by decide) (fun c89 => absurd c89 c24) (fun c89 => ?_)
  have k90 := ci_ne (nI_toInt (n := b18) (Nat.lt_of_le_of_lt hb18 (by decide))) z_ti c89
  refine lv_iconst (v := (nI 1)) S.1 S.2.1 dX8_stays_56 (by decide +kernel) ?_
  refine lv_iload_n S.1 S.2.1 dX8_stays_57 rfl (lv_at hl20 1 rfl) ?_
  refine lv_ishl S.1 S.2.1 dX8_stays_58 ?_
  refine lv_topi (fun v91 e91 => ?_)
  have m92 : ((nI 1) <<< ((nI b10) &&& 31)) = v91 := cg2 (fun (x : Int32) (y : Int32) => x <<< (y &&& 31)) (Eq.refl ((nI 1) : Int32)) (Eq.refl ((nI b10) : Int32)) e91
  refine lv_goto (tgt := 63) S.1 S.2.1 dX8_stays_59 (by decide) ?_
  refine lv_ior S.1 S.2.1 dX8_stays_63 ?_
  refine lv_topi (fun v93 e93 => ?_)
  have m94 : (((AB ad F79) 62 (rl (nI 4))) ||| ((nI 1) <<< ((nI b10) &&& 31))) = v93 := cg2 (fun (x : Int32) (y : Int32) => x ||| y) m88 m92 e93
  obtain ⟨w95, hw95, ew95⟩ := or_t (w := b87) (k := b10) (by omega) (by omega)
  obtain rfl : v93 = nI w95 := by rw [e93, e91]; exact ew95
  refine r_iast S hI hK hP79 hS79 62 (by decide) hF79 (vp_in_nI (show 4 < 7 by omega) (by omega)) dX8_stays_64 (fun F96 H96 locs96 eF96 hP96 hS96 => ?_)
  have hW96 := hW79.up eF96 (ok_I (show (62, 7) ∈ rLI by decide) (okI_up hg79 (by rw [nI_clamp (by omega)]; exact to_S (okS_4 ⟨w95, by omega, rfl⟩))))
  have hFr96 := hFr79.up eF96 (by simp <;> first | omega | (simp only [isC, isJ] at *; omega))
  have hE98 : M = m_X8_stays_97 (AB ad F96) (nI b18) (nI b10) := hE81.trans ((show m_X8_stays_80 (AB ad F79) (nI b18) (nI b10) = m_X8_stays_97 (st (AB ad F79) 62 (rl (nI 4)) (((AB ad F79) 62 (rl (nI 4))) ||| ((nI 1) <<< ((nI b10) &&& 31)))) (nI b18) (nI b10) from rfl).trans (congr (congr (congrArg (m_X8_stays_97) ((st_cg rfl (congrArg rl rfl) m94).trans (AB_ast hF79 eF96).symm)) (Eq.refl ((nI b18) : Int32))) (Eq.refl ((nI b10) : Int32))))
  obtain ⟨gg96, eg96⟩ : ∃ g9, g9 = upd gg79 (nI 4).toNatClampNeg (nI w95) := ⟨_, rfl⟩
  have hF96 : F96 62 = .inl (cA 0, 7, .inl gg96) := by rw [eF96, eg96]; exact va_up_self _ _ _
  have hg96 : ∀ j, j < 7 → rPr 62 j (gg96 j) := by rw [eg96]; exact pr_up hg79 (by rw [nI_clamp (by omega)]; exact to_S (okS_4 ⟨w95, by omega, rfl⟩))
  have he99 : gg96 2 = nI b2 := by rw [eg96, pk_un (by rw [nI_clamp (by omega)]; omega)]; exact he82
  have he100 : gg96 0 = nI b10 := by rw [eg96, pk_un (by rw [nI_clamp (by omega)]; omega)]; exact he83
  refine lv_aload_n S.1 S.2.1 dX8_stays_65 rfl (lv_at hl20 2 rfl) ?_
  have hF101 := (show F96 58 = F79 58 by rw [eF96]; exact va_up_ne _ _ (by decide)).trans hF84
  refine r_get S hK hP96 58 (by decide) hF101 (C := RX8) (T := TX8) (N := 23) hiX8 rfl 4 (by decide) (am_at in_wsX8_stays_0 0 rfl) (v := .ref (ad 62)) rfl dX8_stays_66 ?_
  refine lv_iconst (v := (nI 2)) S.1 S.2.1 dX8_stays_69 (by decide +kernel) ?_
  refine lv_dup2_11 S.1 S.2.1 dX8_stays_70 rfl rfl ?_
  refine r_iald S hK hP96 62 (by decide) hF96 (vp_in_nI (show 2 < 7 by omega) (by omega)) dX8_stays_71 ?_
  refine lv_topi (fun v103 e103 => ?_)
  obtain rfl : v103 = nI b2 := e103.trans he99
  have m104 : ((AB ad F96) 62 (rl (nI 2))) = (nI b2) := (ab_cg rfl rfl).trans ((AB_g hF96).trans e103.symm)
  refine lv_iconst (v := (nI 1)) S.1 S.2.1 dX8_stays_72 (by decide +kernel) ?_
  refine lv_iadd S.1 S.2.1 dX8_stays_73 ?_
  refine lv_topi (fun v105 e105 => ?_)
  obtain rfl : v105 = nI (b2 + 1) := e105.trans (nI_add _ _)
  have m106 : (((AB ad F96) 62 (rl (nI 2))) + (nI 1)) = (nI (b2 + 1)) := cg2 (fun (x : Int32) (y : Int32) => x + y) m104 (Eq.refl ((nI 1) : Int32)) e105
  refine r_iast S hI hK hP96 hS96 62 (by decide) hF96 (vp_in_nI (show 2 < 7 by omega) (by omega)) dX8_stays_74 (fun F107 H107 locs107 eF107 hP107 hS107 => ?_)
  have hW107 := hW96.up eF107 (ok_I (show (62, 7) ∈ rLI by decide) (okI_up hg96 (by rw [nI_clamp (by omega)]; exact to_S (okS_2 ⟨b2 + 1, by omega, rfl⟩))))
  have hFr107 := hFr96.up eF107 (by simp <;> first | omega | (simp only [isC, isJ] at *; omega))
  have hE109 : M = m_X8_stays_108 (AB ad F107) (nI b18) (nI b10) := hE98.trans ((show m_X8_stays_97 (AB ad F96) (nI b18) (nI b10) = m_X8_stays_108 (st (AB ad F96) 62 (rl (nI 2)) (((AB ad F96) 62 (rl (nI 2))) + (nI 1))) (nI b18) (nI b10) from rfl).trans (congr (congr (congrArg (m_X8_stays_108) ((st_cg rfl (congrArg rl rfl) m106).trans (AB_ast hF96 eF107).symm)) (Eq.refl ((nI b18) : Int32))) (Eq.refl ((nI b10) : Int32))))
  obtain ⟨gg107, eg107⟩ : ∃ g9, g9 = upd gg96 (nI 2).toNatClampNeg (nI (b2 + 1)) := ⟨_, rfl⟩
  have hF107 : F107 62 = .inl (cA 0, 7, .inl gg107) := by rw [eF107, eg107]; exact va_up_self _ _ _
  have hg107 : ∀ j, j < 7 → rPr 62 j (gg107 j) := by rw [eg107]; exact pr_up hg96 (by rw [nI_clamp (by omega)]; exact to_S (okS_2 ⟨b2 + 1, by omega, rfl⟩))
  have he110 : gg107 0 = nI b10 := by rw [eg107, pk_un (by rw [nI_clamp (by omega)]; omega)]; exact he100
  refine lv_aload_n S.1 S.2.1 dX8_stays_75 rfl (lv_at hl20 2 rfl) ?_
  have hF111 := (show F107 58 = F96 58 by rw [eF107]; exact va_up_ne _ _ (by decide)).trans hF101
  refine r_get S hK hP107 58 (by decide) hF111 (C := RX8) (T := TX8) (N := 23) hiX8 rfl 4 (by decide) (am_at in_wsX8_stays_0 0 rfl) (v := .ref (ad 62)) rfl dX8_stays_76 ?_
  refine lv_iconst (v := (nI 1)) S.1 S.2.1 dX8_stays_79 (by decide +kernel) ?_
  refine lv_dup2_11 S.1 S.2.1 dX8_stays_80 rfl rfl ?_
  refine r_iald S hK hP107 62 (by decide) hF107 (vp_in_nI (show 1 < 7 by omega) (by omega)) dX8_stays_81 ?_
  refine lv_topi (fun v113 e113 => ?_)
  have m114 : ((AB ad F107) 62 (rl (nI 1))) = v113 := (ab_cg rfl rfl).trans ((AB_g hF107).trans e113.symm)
  refine lv_iconst (v := (nI 1)) S.1 S.2.1 dX8_stays_82 (by decide +kernel) ?_
  refine lv_iadd S.1 S.2.1 dX8_stays_83 ?_
  refine lv_topi (fun v115 e115 => ?_)
  have m116 : (((AB ad F107) 62 (rl (nI 1))) + (nI 1)) = v115 := cg2 (fun (x : Int32) (y : Int32) => x + y) m114 (Eq.refl ((nI 1) : Int32)) e115
  refine r_iast S hI hK hP107 hS107 62 (by decide) hF107 (vp_in_nI (show 1 < 7 by omega) (by omega)) dX8_stays_84 (fun F117 H117 locs117 eF117 hP117 hS117 => ?_)
  have hW117 := hW107.up eF117 (ok_I (show (62, 7) ∈ rLI by decide) (okI_up hg107 (by rw [nI_clamp (by omega)]; exact to_S (okS_o (by decide) (by decide) (by decide)))))
  have hFr117 := hFr107.up eF117 (by simp <;> first | omega | (simp only [isC, isJ] at *; omega))
  have hE119 : M = m_X8_stays_118 (AB ad F117) (nI b18) (nI b10) := hE109.trans ((show m_X8_stays_108 (AB ad F107) (nI b18) (nI b10) = m_X8_stays_118 (st (AB ad F107) 62 (rl (nI 1)) (((AB ad F107) 62 (rl (nI 1))) + (nI 1))) (nI b18) (nI b10) from rfl).trans (congr (congr (congrArg (m_X8_stays_118) ((st_cg rfl (congrArg rl rfl) m116).trans (AB_ast hF107 eF117).symm)) (Eq.refl ((nI b18) : Int32))) (Eq.refl ((nI b10) : Int32))))
  obtain ⟨gg117, eg117⟩ : ∃ g9, g9 = upd gg107 (nI 1).toNatClampNeg v115 := ⟨_, rfl⟩
  have hF117 : F117 62 = .inl (cA 0, 7, .inl gg117) := by rw [eF117, eg117]; exact va_up_self _ _ _
  have hg117 : ∀ j, j < 7 → rPr 62 j (gg117 j) := by rw [eg117]; exact pr_up hg107 (by rw [nI_clamp (by omega)]; exact to_S (okS_o (by decide) (by decide) (by decide)))
  have he120 : gg117 0 = nI b10 := by rw [eg117, pk_un (by rw [nI_clamp (by omega)]; omega)]; exact he110
  refine lv_iload_n S.1 S.2.1 dX8_stays_85 rfl (lv_at hl20 0 rfl) ?_
  refine lv_if_eq (tgt := 101) S.1 S.2.1 dX8_stays_86 (by decide) (fun c121 => absurd c121 c89) (fun c121 => ?_)
  have k122 := ci_ne (nI_toInt (n := b18) (Nat.lt_of_le_of_lt hb18 (by decide))) z_ti c121
  refine lv_aload_n S.1 S.2.1 dX8_stays_89 rfl (lv_at hl20 2 rfl) ?_
  have hF123 := (show F117 58 = F107 58 by rw [eF117]; exact va_up_ne _ _ (by decide)).trans hF111
  refine r_get S hK hP117 58 (by decide) hF123 (C := RX8) (T := TX8) (N := 23) hiX8 rfl 2 (by decide) (am_at in_wsX8_stays_0 1 rfl) (v := .ref (ad 60)) rfl dX8_stays_90 ?_
  refine lv_bipush (v := (nI 20)) S.1 S.2.1 dX8_stays_93 (by decide +kernel) ?_
  refine lv_iload_n S.1 S.2.1 dX8_stays_95 rfl (lv_at hl20 1 rfl) ?_
  refine lv_iadd S.1 S.2.1 dX8_stays_96 ?_
  refine lv_topi (fun v124 e124 => ?_)
  obtain rfl : v124 = nI (20 + b10) := e124.trans (nI_add _ _)
  have m125 : ((nI 20) + (nI b10)) = (nI (20 + b10)) := cg2 (fun (x : Int32) (y : Int32) => x + y) (Eq.refl ((nI 20) : Int32)) (Eq.refl ((nI b10) : Int32)) e124
  have hF126 := (show F79 60 = F 60 by rw [eF79]; exact va_up_ne _ _ (by decide)).trans hF4
  have hF127 := (show F96 60 = F79 60 by rw [eF96]; exact va_up_ne _ _ (by decide)).trans hF126
  have hF128 := (show F107 60 = F96 60 by rw [eF107]; exact va_up_ne _ _ (by decide)).trans hF127
  have hF129 := (show F117 60 = F107 60 by rw [eF117]; exact va_up_ne _ _ (by decide)).trans hF128
  refine r_iald S hK hP117 60 (by decide) hF129 (vp_in_nI (show 20 + b10 < 52 by omega) (by omega)) dX8_stays_97 ?_
  refine lv_topi (fun v131 e131 => ?_)
  have m132 : ((AB ad F117) 60 (rl ((nI 20) + (nI b10)))) = v131 := (ab_cg rfl m125).trans ((AB_g hF129).trans e131.symm)
  refine lv_goto (tgt := 102) S.1 S.2.1 dX8_stays_98 (by decide) ?_
  have hE133 : M = (v131, AB ad F117) := hE119.trans ((show m_X8_stays_118 (AB ad F117) (nI b18) (nI b10) = (((AB ad F117) 60 (rl ((nI 20) + (nI b10)))), (AB ad F117)) from rfl).trans (congrArg (fun q => (q, AB ad F117)) m132))
  exact hret 102 _ _ _ _ _ dX8_stays_102 rfl hP117 hS117 ⟨hW117, hFr117, ⟨trivial, hM.symm.trans hE133⟩⟩
noncomputable def m_X8_goesTo_17 (σ : SS) (a0 : Int32) : SS :=
  σ
noncomputable def m_X8_goesTo_8 (σ : SS) (a0 : Int32) : SS :=
  m_X8_goesTo_17 (st σ 62 (rl (nI 1)) ((σ 62 (rl (nI 1))) + (nI 1))) a0
noncomputable def m_X8_goesTo_4 (σ : SS) (a0 : Int32) : SS :=
  m_X8_goesTo_8 (st σ 62 (rl (nI 2)) (nI 0)) a0
noncomputable def m_X8_goesTo (σ : SS) (a0 : Int32) : SS :=
  m_X8_goesTo_4 (st σ 62 (rl (nI 0)) a0) a0
set_option maxHeartbeats 4000000 in
set_option maxRecDepth 100000 in
theorem c_X8_goesTo (l : Launch) (D : va_G) (cA ad : Nat → Nat) (t : Nat) (hI : rI ad) (F : Nat → va_E) (hW : WT cA ad F) (t1 : Nat) (ht1 : t1 ≤ 7) : MV l D cA ad t yX8_goesTo wsX8_goesTo { frames := 0, cells := 0, slots := 0, locals := 0 } [.ref (ad 58), .int (nI t1)] F (fun F' => WT cA ad F' ∧ rFr [62] F F' ∧ ((True) ∧ m_X8_goesTo (AB ad F) (nI t1) = AB ad F')) := by
  refine en_V rfl (by decide +kernel) (Nat.le_of_ble_eq_true rfl) ?_
  intro p e s m args below meth c ls0 Q S hK hZ hP hS hl0 hret
  have hl0 : lv_has ls0 2 [(0, .ref (ad 58)), (1, .int (nI t1))] := hl0
  have hFr : rFr [62] F F := rFr.rf
  have hiX8 : ∀ w ∈ u_ws RX8 TX8 23, w ∈ wsX8_goesTo := in_wsX8_goesTo_1
  obtain ⟨M, hM⟩ : ∃ M, M = m_X8_goesTo (AB ad F) (nI t1) := ⟨_, rfl⟩
  refine lv_aload_n S.1 S.2.1 dX8_goesTo_0 rfl (lv_at hl0 0 rfl) ?_
  obtain ⟨ty1, kn1, no1, en1, at1, sa1, sd1, wr1, pl1, va1, hF1, hb1_1, hb1_2, hb1_3, hb1_4, hb1_5, hb1_6⟩ := wt_m hW
  refine r_get S hK hP 58 (by decide) hF1 (C := RX8) (T := TX8) (N := 23) hiX8 rfl 4 (by decide) (am_at in_wsX8_goesTo_0 0 rfl) (v := .ref (ad 62)) rfl dX8_goesTo_1 ?_
  refine lv_iconst (v := (nI 0)) S.1 S.2.1 dX8_goesTo_4 (by decide +kernel) ?_
  refine lv_iload_n S.1 S.2.1 dX8_goesTo_5 rfl (lv_at hl0 1 rfl) ?_
  obtain ⟨g2, hF2, hg2⟩ := wt_I hW (show (62, 7) ∈ rLI by decide)
  refine r_iast S hI hK hP hS 62 (by decide) hF2 (vp_in_nI (show 0 < 7 by omega) (by omega)) dX8_goesTo_6 (fun F3 H3 locs3 eF3 hP3 hS3 => ?_)
  have hW3 := hW.up eF3 (ok_I (show (62, 7) ∈ rLI by decide) (okI_up hg2 (by rw [nI_clamp (by omega)]; exact to_S (okS_0 ⟨t1, by omega, rfl⟩))))
  have hFr3 := hFr.up eF3 (by simp <;> first | omega | (simp only [isC, isJ] at *; omega))
  have hE5 : M = m_X8_goesTo_4 (AB ad F3) (nI t1) := hM.trans ((show m_X8_goesTo (AB ad F) (nI t1) = m_X8_goesTo_4 (st (AB ad F) 62 (rl (nI 0)) (nI t1)) (nI t1) from rfl).trans (congr (congrArg (m_X8_goesTo_4) ((st_cg rfl (congrArg rl rfl) rfl).trans (AB_ast hF2 eF3).symm)) (Eq.refl ((nI t1) : Int32))))
  obtain ⟨gg3, eg3⟩ : ∃ g9, g9 = upd g2 (nI 0).toNatClampNeg (nI t1) := ⟨_, rfl⟩
  have hF3 : F3 62 = .inl (cA 0, 7, .inl gg3) := by rw [eF3, eg3]; exact va_up_self _ _ _
  have hg3 : ∀ j, j < 7 → rPr 62 j (gg3 j) := by rw [eg3]; exact pr_up hg2 (by rw [nI_clamp (by omega)]; exact to_S (okS_0 ⟨t1, by omega, rfl⟩))
  refine lv_aload_n S.1 S.2.1 dX8_goesTo_7 rfl (lv_at hl0 0 rfl) ?_
  have hF6 := (show F3 58 = F 58 by rw [eF3]; exact va_up_ne _ _ (by decide)).trans hF1
  refine r_get S hK hP3 58 (by decide) hF6 (C := RX8) (T := TX8) (N := 23) hiX8 rfl 4 (by decide) (am_at in_wsX8_goesTo_0 0 rfl) (v := .ref (ad 62)) rfl dX8_goesTo_8 ?_
  refine lv_iconst (v := (nI 2)) S.1 S.2.1 dX8_goesTo_11 (by decide +kernel) ?_
  refine lv_iconst (v := (nI 0)) S.1 S.2.1 dX8_goesTo_12 (by decide +kernel) ?_
  refine r_iast S hI hK hP3 hS3 62 (by decide) hF3 (vp_in_nI (show 2 < 7 by omega) (by omega)) dX8_goesTo_13 (fun F7 H7 locs7 eF7 hP7 hS7 => ?_)
  have hW7 := hW3.up eF7 (ok_I (show (62, 7) ∈ rLI by decide) (okI_up hg3 (by rw [nI_clamp (by omega)]; exact to_S (okS_z _))))
  have hFr7 := hFr3.up eF7 (by simp <;> first | omega | (simp only [isC, isJ] at *; omega))
  have hE9 : M = m_X8_goesTo_8 (AB ad F7) (nI t1) := hE5.trans ((show m_X8_goesTo_4 (AB ad F3) (nI t1) = m_X8_goesTo_8 (st (AB ad F3) 62 (rl (nI 2)) (nI 0)) (nI t1) from rfl).trans (congr (congrArg (m_X8_goesTo_8) ((st_cg rfl (congrArg rl rfl) rfl).trans (AB_ast hF3 eF7).symm)) (Eq.refl ((nI t1) : Int32))))
  obtain ⟨gg7, eg7⟩ : ∃ g9, g9 = upd gg3 (nI 2).toNatClampNeg (nI 0) := ⟨_, rfl⟩
  have hF7 : F7 62 = .inl (cA 0, 7, .inl gg7) := by rw [eF7, eg7]; exact va_up_self _ _ _
  have hg7 : ∀ j, j < 7 → rPr 62 j (gg7 j) := by rw [eg7]; exact pr_up hg3 (by rw [nI_clamp (by omega)]; exact to_S (okS_z _))
  refine lv_aload_n S.1 S.2.1 dX8_goesTo_14 rfl (lv_at hl0 0 rfl) ?_
  have hF10 := (show F7 58 = F3 58 by rw [eF7]; exact va_up_ne _ _ (by decide)).trans hF6
  refine r_get S hK hP7 58 (by decide) hF10 (C := RX8) (T := TX8) (N := 23) hiX8 rfl 4 (by decide) (am_at in_wsX8_goesTo_0 0 rfl) (v := .ref (ad 62)) rfl dX8_goesTo_15 ?_
  refine lv_iconst (v := (nI 1)) S.1 S.2.1 dX8_goesTo_18 (by decide +kernel) ?_
  refine lv_dup2_11 S.1 S.2.1 dX8_goesTo_19 rfl rfl ?_
  refine r_iald S hK hP7 62 (by decide) hF7 (vp_in_nI (show 1 < 7 by omega) (by omega)) dX8_goesTo_20 ?_
  refine lv_topi (fun v12 e12 => ?_)
  have m13 : ((AB ad F7) 62 (rl (nI 1))) = v12 := (ab_cg rfl rfl).trans ((AB_g hF7).trans e12.symm)
  refine lv_iconst (v := (nI 1)) S.1 S.2.1 dX8_goesTo_21 (by decide +kernel) ?_
  refine lv_iadd S.1 S.2.1 dX8_goesTo_22 ?_
  refine lv_topi (fun v14 e14 => ?_)
  have m15 : (((AB ad F7) 62 (rl (nI 1))) + (nI 1)) = v14 := cg2 (fun (x : Int32) (y : Int32) => x + y) m13 (Eq.refl ((nI 1) : Int32)) e14
  refine r_iast S hI hK hP7 hS7 62 (by decide) hF7 (vp_in_nI (show 1 < 7 by omega) (by omega)) dX8_goesTo_23 (fun F16 H16 locs16 eF16 hP16 hS16 => ?_)
  have hW16 := hW7.up eF16 (ok_I (show (62, 7) ∈ rLI by decide) (okI_up hg7 (by rw [nI_clamp (by omega)]; exact to_S (okS_o (by decide) (by decide) (by decide)))))
  have hFr16 := hFr7.up eF16 (by simp <;> first | omega | (simp only [isC, isJ] at *; omega))
  have hE18 : M = m_X8_goesTo_17 (AB ad F16) (nI t1) := hE9.trans ((show m_X8_goesTo_8 (AB ad F7) (nI t1) = m_X8_goesTo_17 (st (AB ad F7) 62 (rl (nI 1)) (((AB ad F7) 62 (rl (nI 1))) + (nI 1))) (nI t1) from rfl).trans (congr (congrArg (m_X8_goesTo_17) ((st_cg rfl (congrArg rl rfl) m15).trans (AB_ast hF7 eF16).symm)) (Eq.refl ((nI t1) : Int32))))
  obtain ⟨gg16, eg16⟩ : ∃ g9, g9 = upd gg7 (nI 1).toNatClampNeg v14 := ⟨_, rfl⟩
  have hF16 : F16 62 = .inl (cA 0, 7, .inl gg16) := by rw [eF16, eg16]; exact va_up_self _ _ _
  have hg16 : ∀ j, j < 7 → rPr 62 j (gg16 j) := by rw [eg16]; exact pr_up hg7 (by rw [nI_clamp (by omega)]; exact to_S (okS_o (by decide) (by decide) (by decide)))
  have hE19 : M = AB ad F16 := hE18.trans ((show m_X8_goesTo_17 (AB ad F16) (nI t1) = (AB ad F16) from rfl).trans rfl)
  exact hret 24 _ _ _ _ dX8_goesTo_24 hP16 hS16 ⟨hW16, hFr16, ⟨trivial, hM.symm.trans hE19⟩⟩
noncomputable def m_X8_stay_40 (σ : SS) (a0 : Int32) : Int32 × SS :=
  (a0, σ)
noncomputable def m_X8_stay_32 (σ : SS) : Int32 × SS :=
  m_X8_stay_40 ((m_X8_stays σ)).2 ((m_X8_stays σ)).1
noncomputable def m_X8_stay (σ : SS) : Int32 × SS :=
  if (m_X8_goesOn σ) = (0 : Int32) then
    (((-1000000003) : Int32), σ)
  else
    if (m_X8_mayStay σ) = (0 : Int32) then
      (((-1000000003) : Int32), σ)
    else
      if (σ 62 (rl (nI 1))) ≤ (nI 9000) then
        m_X8_stay_32 (m_X8_keeps σ)
      else
        (((-1000000004) : Int32), σ)
set_option maxHeartbeats 4000000 in
set_option maxRecDepth 100000 in
theorem c_X8_stay (l : Launch) (D : va_G) (cA ad : Nat → Nat) (t : Nat) (hI : rI ad) (F : Nat → va_E) (hW : WT cA ad F) : MI l D cA ad t yX8_stay wsX8_stay { frames := 2, cells := 0, slots := 0, locals := 44 } [.ref (ad 58)] F (fun r F' => WT cA ad F' ∧ rFr [58, 62, 63] F F' ∧ ((fN (F' 58) 1 = fN (F 58) 1) ∧ m_X8_stay (AB ad F) = (r, AB ad F'))) := by
  refine en_I rfl (by decide +kernel) (Nat.le_of_ble_eq_true rfl) ?_
  intro p e s m args below meth c ls0 Q S hK hZ hP hS hl0 hret
  have hl0 : lv_has ls0 1 [(0, .ref (ad 58))] := hl0
  have hFr : rFr [58, 62, 63] F F := rFr.rf
  have hiX8 : ∀ w ∈ u_ws RX8 TX8 23, w ∈ wsX8_stay := in_wsX8_stay_2
  obtain ⟨M, hM⟩ : ∃ M, M = m_X8_stay (AB ad F) := ⟨_, rfl⟩
  obtain ⟨ty1, kn1, no1, en1, at1, sa1, sd1, wr1, pl1, va1, hF1, hb1_1, hb1_2, hb1_3, hb1_4, hb1_5, hb1_6⟩ := wt_m hW
  have hA2 := fN_of (k := 14) (a := at1) hF1 rfl (Nat.lt_of_le_of_lt hb1_5 (by decide))
  have hL2 := fN_of (k := 1) (a := ty1) hF1 rfl (Nat.lt_of_le_of_lt hb1_1 (by decide))
  refine lv_aload_n S.1 S.2.1 dX8_stay_0 rfl (lv_at hl0 0 rfl) ?_
  refine r_cVp (As := []) (rest := []) S hK hZ hP hS hl0.1 58 (by decide) hF1 (C := RX8) rfl (c_X8_goesOn l D cA ad t hI F hW ) (cwV 0 S.2.2.2.2 gX8_stay_X8_goesOn rfl rfl rfl (by decide +kernel) ⟨Nat.le_of_ble_eq_true rfl, Nat.le_of_ble_eq_true rfl⟩) rfl rfl (Nat.le_of_ble_eq_true rfl) ⟨Nat.zero_le _, Nat.zero_le _⟩ dX8_stay_1 (fun r3 hr3 => ?_)
  obtain ⟨hr3, hm3⟩ := hr3
  obtain ⟨b4, hb4, rfl⟩ := hr3
  have m5 : (m_X8_goesOn (AB ad F)) = (nI b4) := (Eq.refl (m_X8_goesOn (AB ad F))).trans hm3
  refine lv_if_eq (tgt := 14) S.1 S.2.1 dX8_stay_4 (by decide) (fun c6 => ?_) (fun c6 => ?_)
  · skip
    have k7 := ci_eq (nI_toInt (n := b4) (Nat.lt_of_le_of_lt hb4 (by decide))) z_ti c6
    refine lv_ldc (v := (-1000000003)) S.1 S.2.1 S.2.2.2.1 (S.2.2.2.2 (.constant RX8 139 (-1000000003)) (am_at in_wsX8_stay_0 0 rfl)) dX8_stay_14 ?_
    have hA8 := fN_of (k := 14) (a := at1) hF1 rfl (Nat.lt_of_le_of_lt hb1_5 (by decide))
    have hL8 := fN_of (k := 1) (a := ty1) hF1 rfl (Nat.lt_of_le_of_lt hb1_1 (by decide))
    have hE9 : M = ((-1000000003), AB ad F) := hM.trans ((show m_X8_stay (AB ad F) = (((-1000000003) : Int32), (AB ad F)) from by unfold m_X8_stay; rw [if_pos (eq_cg m5 rfl c6)]).trans (congrArg (fun q => (q, AB ad F)) rfl))
    exact hret 16 _ _ _ _ _ dX8_stay_16 rfl hP hS ⟨hW, hFr, ⟨by omega, hM.symm.trans hE9⟩⟩
  have k10 := ci_ne (nI_toInt (n := b4) (Nat.lt_of_le_of_lt hb4 (by decide))) z_ti c6
  refine lv_aload_n S.1 S.2.1 dX8_stay_7 rfl (lv_at hl0 0 rfl) ?_
  refine r_cVp (As := []) (rest := []) S hK hZ hP hS hl0.1 58 (by decide) hF1 (C := RX8) rfl (c_X8_mayStay l D cA ad t hI F hW ) (cwV 0 S.2.2.2.2 gX8_stay_X8_mayStay rfl rfl rfl (by decide +kernel) ⟨Nat.le_of_ble_eq_true rfl, Nat.le_of_ble_eq_true rfl⟩) rfl rfl (Nat.le_of_ble_eq_true rfl) ⟨Nat.zero_le _, Nat.zero_le _⟩ dX8_stay_8 (fun r11 hr11 => ?_)
  obtain ⟨hr11, hm11⟩ := hr11
  obtain ⟨⟨b12, hb12, rfl⟩, hx12⟩ := hr11
  obtain ⟨g13, hF13, hg13⟩ := wt_I hW (show (62, 7) ∈ rLI by decide)
  obtain ⟨b14, hb14, he14⟩ := (pr_S (hg13 2 (by decide))).2.1 rfl
  have hN15 := aN_of (j := 2) hF13 he14 (by omega)
  obtain ⟨g16, hF16, hg16⟩ := wt_I hW (show (60, 52) ∈ rLI by decide)
  obtain ⟨b17, hb17, he17⟩ := (pr_T (by decide) (hg16 0 (by decide))).1 rfl
  have hN18 := aN_of (j := 0) hF16 he17 (by omega)
  have hy12 : b12 ≠ 0 → b14 < b17 := fun q => by have h9 := hx12 (nI_ne0 (by omega) (by omega)); omega
  have m19 : (m_X8_mayStay (AB ad F)) = (nI b12) := (Eq.refl (m_X8_mayStay (AB ad F))).trans hm11
  refine lv_if_ne (tgt := 17) S.1 S.2.1 dX8_stay_11 (by decide) (fun c20 => ?_) (fun c20 => ?_)
  · skip
    have k21 := ci_ne (nI_toInt (n := b12) (Nat.lt_of_le_of_lt hb12 (by decide))) z_ti c20
    refine lv_aload_n S.1 S.2.1 dX8_stay_17 rfl (lv_at hl0 0 rfl) ?_
    refine r_get S hK hP 58 (by decide) hF1 (C := RX8) (T := TX8) (N := 23) hiX8 rfl 4 (by decide) (am_at in_wsX8_stay_0 1 rfl) (v := .ref (ad 62)) rfl dX8_stay_18 ?_
    refine lv_iconst (v := (nI 1)) S.1 S.2.1 dX8_stay_21 (by decide +kernel) ?_
    refine r_iald S hK hP 62 (by decide) hF13 (vp_in_nI (show 1 < 7 by omega) (by omega)) dX8_stay_22 ?_
    refine lv_topi (fun v23 e23 => ?_)
    have m24 : ((AB ad F) 62 (rl (nI 1))) = v23 := (ab_cg rfl rfl).trans ((AB_g hF13).trans e23.symm)
    refine lv_sipush (v := (nI 9000)) S.1 S.2.1 dX8_stay_23 (by decide +kernel) ?_
    refine lv_icmp_le (tgt := 32) S.1 S.2.1 dX8_stay_26 (by decide) (fun c25 => ?_) (fun c25 => ?_)
    · skip
      have k26 := ci_le rfl (nI_toInt (n := 9000) (by decide)) c25
      refine lv_aload_n S.1 S.2.1 dX8_stay_32 rfl (lv_at hl0 0 rfl) ?_
      have hA27 := fN_of (k := 14) (a := at1) hF1 rfl (Nat.lt_of_le_of_lt hb1_5 (by decide))
      have hL27 := fN_of (k := 1) (a := ty1) hF1 rfl (Nat.lt_of_le_of_lt hb1_1 (by decide))
      refine r_cVv (As := []) (rest := []) S hK hZ hP hS hl0.1 58 (by decide) hF1 (C := RX8) rfl (c_X8_keeps l D cA ad t hI F hW ) (cwV 0 S.2.2.2.2 gX8_stay_X8_keeps rfl rfl rfl (by decide +kernel) ⟨Nat.le_of_ble_eq_true rfl, Nat.le_of_ble_eq_true rfl⟩) rfl rfl (Nat.le_of_ble_eq_true rfl) ⟨Nat.zero_le _, Nat.zero_le _⟩ dX8_stay_33 (fun F28 H28 locs28 hr28 hP28 hS28 => ?_)
      obtain ⟨hW28, hFc28, hr28⟩ := hr28
      obtain ⟨hr28, hm28⟩ := hr28
      have hFr28 := hFr.tr hFc28 (by simp <;> first | omega | (simp only [isC, isJ] at *; omega))
      obtain ⟨ty30, kn30, no30, en30, at30, sa30, sd30, wr30, pl30, va30, hF30, hb30_1, hb30_2, hb30_3, hb30_4, hb30_5, hb30_6⟩ := wt_m hW28
      have hA31 := fN_of (k := 14) (a := at30) hF30 rfl (Nat.lt_of_le_of_lt hb30_5 (by decide))
      have hL31 := fN_of (k := 1) (a := ty30) hF30 rfl (Nat.lt_of_le_of_lt hb30_1 (by decide))
      have hE33 : M = m_X8_stay_32 (AB ad F28) := hM.trans ((show m_X8_stay (AB ad F) = m_X8_stay_32 (m_X8_keeps (AB ad F)) from by unfold m_X8_stay; rw [if_neg (neq_cg m5 rfl c6), if_neg (neq_cg m19 rfl c20), if_pos (le_cg m24 rfl c25)]).trans (congrArg (m_X8_stay_32) ((Eq.refl (m_X8_keeps (AB ad F))).trans hm28)))
      refine lv_aload_n S.1 S.2.1 dX8_stay_36 rfl (lv_at hl0 0 rfl) ?_
      have hF35 := (hFc28 62 (by decide)).trans hF13
      have hN36 := aN_of (j := 2) hF35 he14 (by omega)
      have hF37 := (hFc28 60 (by decide)).trans hF16
      have hN38 := aN_of (j := 0) hF37 he17 (by omega)
      refine r_cVi (As := []) (rest := []) S hK hZ hP28 hS28 hl0.1 58 (by decide) hF30 (C := RX8) rfl (c_X8_stays l D cA ad t hI F28 hW28 (by omega)) (cwV 0 S.2.2.2.2 gX8_stay_X8_stays rfl rfl rfl (by decide +kernel) ⟨Nat.le_of_ble_eq_true rfl, Nat.le_of_ble_eq_true rfl⟩) rfl rfl (Nat.le_of_ble_eq_true rfl) ⟨Nat.zero_le _, Nat.zero_le _⟩ dX8_stay_37 (fun r34 F34 H34 locs34 hr34 hP34 hS34 => ?_)
      obtain ⟨hW34, hFc34, hr34⟩ := hr34
      obtain ⟨hr34, hm34⟩ := hr34
      have hFr34 := hFr28.tr hFc34 (by simp <;> first | omega | (simp only [isC, isJ] at *; omega))
      have mc39 : (m_X8_stays (AB ad F28)) = (r34, AB ad F34) := (Eq.refl (m_X8_stays (AB ad F28))).trans hm34
      have hE41 : M = m_X8_stay_40 (AB ad F34) r34 := hE33.trans ((show m_X8_stay_32 (AB ad F28) = m_X8_stay_40 ((m_X8_stays (AB ad F28))).2 ((m_X8_stays (AB ad F28))).1 from rfl).trans (congr (congrArg (m_X8_stay_40) (congrArg Prod.snd mc39)) (congrArg Prod.fst mc39)))
      have hF42 := (hFc34 58 (by decide)).trans hF30
      have hA43 := fN_of (k := 14) (a := at30) hF42 rfl (Nat.lt_of_le_of_lt hb30_5 (by decide))
      have hL43 := fN_of (k := 1) (a := ty30) hF42 rfl (Nat.lt_of_le_of_lt hb30_1 (by decide))
      have hE44 : M = (r34, AB ad F34) := hE41.trans ((show m_X8_stay_40 (AB ad F34) r34 = (r34, (AB ad F34)) from rfl).trans (congrArg (fun q => (q, AB ad F34)) rfl))
      exact hret 40 _ _ _ _ _ dX8_stay_40 rfl hP34 hS34 ⟨hW34, hFr34, ⟨by omega, hM.symm.trans hE44⟩⟩
    have k45 := ci_nle rfl (nI_toInt (n := 9000) (by decide)) c25
    refine lv_ldc (v := (-1000000004)) S.1 S.2.1 S.2.2.2.1 (S.2.2.2.2 (.constant RX8 63 (-1000000004)) (am_at in_wsX8_stay_0 2 rfl)) dX8_stay_29 ?_
    have hA46 := fN_of (k := 14) (a := at1) hF1 rfl (Nat.lt_of_le_of_lt hb1_5 (by decide))
    have hL46 := fN_of (k := 1) (a := ty1) hF1 rfl (Nat.lt_of_le_of_lt hb1_1 (by decide))
    have hE47 : M = ((-1000000004), AB ad F) := hM.trans ((show m_X8_stay (AB ad F) = (((-1000000004) : Int32), (AB ad F)) from by unfold m_X8_stay; rw [if_neg (neq_cg m5 rfl c6), if_neg (neq_cg m19 rfl c20), if_neg (nle_cg m24 rfl c25)]).trans (congrArg (fun q => (q, AB ad F)) rfl))
    exact hret 31 _ _ _ _ _ dX8_stay_31 rfl hP hS ⟨hW, hFr, ⟨by omega, hM.symm.trans hE47⟩⟩
  have k48 := ci_eq (nI_toInt (n := b12) (Nat.lt_of_le_of_lt hb12 (by decide))) z_ti c20
  refine lv_ldc (v := (-1000000003)) S.1 S.2.1 S.2.2.2.1 (S.2.2.2.2 (.constant RX8 139 (-1000000003)) (am_at in_wsX8_stay_0 0 rfl)) dX8_stay_14 ?_
  have hA49 := fN_of (k := 14) (a := at1) hF1 rfl (Nat.lt_of_le_of_lt hb1_5 (by decide))
  have hL49 := fN_of (k := 1) (a := ty1) hF1 rfl (Nat.lt_of_le_of_lt hb1_1 (by decide))
  have hE50 : M = ((-1000000003), AB ad F) := hM.trans ((show m_X8_stay (AB ad F) = (((-1000000003) : Int32), (AB ad F)) from by unfold m_X8_stay; rw [if_neg (neq_cg m5 rfl c6), if_pos (eq_cg m19 rfl c20)]).trans (congrArg (fun q => (q, AB ad F)) rfl))
  exact hret 16 _ _ _ _ _ dX8_stay_16 rfl hP hS ⟨hW, hFr, ⟨by omega, hM.symm.trans hE50⟩⟩
noncomputable def m_X8_walk_46 (σ : SS) (a0 : Int32) : Int32 × SS :=
  ((σ 62 (rl (nI 1))), σ)
noncomputable def m_X8_walk_43 (σ : SS) (a0 : Int32) : Int32 × SS :=
  m_X8_walk_46 (m_X8_goesTo σ a0) a0
noncomputable def m_X8_walk (σ : SS) (a0 : Int32) : Int32 × SS :=
  if (m_X8_isTown σ a0) = (0 : Int32) then
    (((-1000000001) : Int32), σ)
  else
    if (m_X8_goesOn σ) = (0 : Int32) then
      (((-1000000003) : Int32), σ)
    else
      if (((m_X8_walks σ (σ 62 (rl (nI 0))) (σ 62 (rl (nI 5)))) >>> (a0 &&& 31)) &&& (nI 1)) = (0 : Int32) then
        (((-1000000003) : Int32), σ)
      else
        if (σ 62 (rl (nI 1))) ≤ (nI 9000) then
          m_X8_walk_43 (m_X8_keeps σ) a0
        else
          (((-1000000004) : Int32), σ)
set_option maxHeartbeats 4000000 in
set_option maxRecDepth 100000 in
theorem c_X8_walk (l : Launch) (D : va_G) (cA ad : Nat → Nat) (t : Nat) (hI : rI ad) (F : Nat → va_E) (hW : WT cA ad F) (p1 : Int32) : MI l D cA ad t yX8_walk wsX8_walk { frames := 2, cells := 0, slots := 0, locals := 48 } [.ref (ad 58), .int p1] F (fun r F' => WT cA ad F' ∧ rFr [58, 62, 63] F F' ∧ ((fN (F' 58) 1 = fN (F 58) 1) ∧ m_X8_walk (AB ad F) p1 = (r, AB ad F'))) := by
  refine en_I rfl (by decide +kernel) (Nat.le_of_ble_eq_true rfl) ?_
  intro p e s m args below meth c ls0 Q S hK hZ hP hS hl0 hret
  have hl0 : lv_has ls0 2 [(0, .ref (ad 58)), (1, .int p1)] := hl0
  have hFr : rFr [58, 62, 63] F F := rFr.rf
  have hiX8 : ∀ w ∈ u_ws RX8 TX8 23, w ∈ wsX8_walk := in_wsX8_walk_2
  obtain ⟨M, hM⟩ : ∃ M, M = m_X8_walk (AB ad F) p1 := ⟨_, rfl⟩
  obtain ⟨ty1, kn1, no1, en1, at1, sa1, sd1, wr1, pl1, va1, hF1, hb1_1, hb1_2, hb1_3, hb1_4, hb1_5, hb1_6⟩ := wt_m hW
  have hA2 := fN_of (k := 14) (a := at1) hF1 rfl (Nat.lt_of_le_of_lt hb1_5 (by decide))
  have hL2 := fN_of (k := 1) (a := ty1) hF1 rfl (Nat.lt_of_le_of_lt hb1_1 (by decide))
  refine lv_aload_n S.1 S.2.1 dX8_walk_0 rfl (lv_at hl0 0 rfl) ?_
  refine lv_iload_n S.1 S.2.1 dX8_walk_1 rfl (lv_at hl0 1 rfl) ?_
  refine r_cVp (As := [.int p1]) (rest := []) S hK hZ hP hS hl0.1 58 (by decide) hF1 (C := RX8) rfl (c_X8_isTown l D cA ad t hI F hW p1) (cwV 1 S.2.2.2.2 gX8_walk_X8_isTown rfl rfl rfl (by decide +kernel) ⟨Nat.le_of_ble_eq_true rfl, Nat.le_of_ble_eq_true rfl⟩) rfl rfl (Nat.le_of_ble_eq_true rfl) ⟨Nat.zero_le _, Nat.zero_le _⟩ dX8_walk_2 (fun r3 hr3 => ?_)
  obtain ⟨hr3, hm3⟩ := hr3
  obtain ⟨⟨b4, hb4, rfl⟩, hx4⟩ := hr3
  have hx4 : b4 ≠ 0 → 0 ≤ p1.toInt ∧ p1.toInt ≤ _ := fun q => hx4 (nI_ne0 (by omega) (by omega))
  have m5 : (m_X8_isTown (AB ad F) p1) = (nI b4) := (congr (Eq.refl (m_X8_isTown (AB ad F))) (Eq.refl (p1 : Int32))).trans hm3
  refine lv_if_ne (tgt := 11) S.1 S.2.1 dX8_walk_5 (by decide) (fun c6 => ?_) (fun c6 => ?_)
  · skip
    have k7 := ci_ne (nI_toInt (n := b4) (Nat.lt_of_le_of_lt hb4 (by decide))) z_ti c6
    obtain ⟨j8, hj8, rfl⟩ := nI_of_le (x := p1) (B := 7) (by omega) (by omega)
    have kj8 := nI_toInt (n := j8) (Nat.lt_of_le_of_lt hj8 (by decide))
    refine lv_aload_n S.1 S.2.1 dX8_walk_11 rfl (lv_at hl0 0 rfl) ?_
    refine r_cVp (As := []) (rest := []) S hK hZ hP hS hl0.1 58 (by decide) hF1 (C := RX8) rfl (c_X8_goesOn l D cA ad t hI F hW ) (cwV 0 S.2.2.2.2 gX8_walk_X8_goesOn rfl rfl rfl (by decide +kernel) ⟨Nat.le_of_ble_eq_true rfl, Nat.le_of_ble_eq_true rfl⟩) rfl rfl (Nat.le_of_ble_eq_true rfl) ⟨Nat.zero_le _, Nat.zero_le _⟩ dX8_walk_12 (fun r9 hr9 => ?_)
    obtain ⟨hr9, hm9⟩ := hr9
    obtain ⟨b10, hb10, rfl⟩ := hr9
    have m11 : (m_X8_goesOn (AB ad F)) = (nI b10) := (Eq.refl (m_X8_goesOn (AB ad F))).trans hm9
    refine lv_if_eq (tgt := 41) S.1 S.2.1 dX8_walk_15 (by decide) (fun c12 => ?_) (fun c12 => ?_)
    · skip
      have k13 := ci_eq (nI_toInt (n := b10) (Nat.lt_of_le_of_lt hb10 (by decide))) z_ti c12
      refine lv_ldc (v := (-1000000003)) S.1 S.2.1 S.2.2.2.1 (S.2.2.2.2 (.constant RX8 139 (-1000000003)) (am_at in_wsX8_walk_0 2 rfl)) dX8_walk_41 ?_
      have hA14 := fN_of (k := 14) (a := at1) hF1 rfl (Nat.lt_of_le_of_lt hb1_5 (by decide))
      have hL14 := fN_of (k := 1) (a := ty1) hF1 rfl (Nat.lt_of_le_of_lt hb1_1 (by decide))
      have hE15 : M = ((-1000000003), AB ad F) := hM.trans ((show m_X8_walk (AB ad F) (nI j8) = (((-1000000003) : Int32), (AB ad F)) from by unfold m_X8_walk; rw [if_neg (neq_cg m5 rfl c6), if_pos (eq_cg m11 rfl c12)]).trans (congrArg (fun q => (q, AB ad F)) rfl))
      exact hret 43 _ _ _ _ _ dX8_walk_43 rfl hP hS ⟨hW, hFr, ⟨by omega, hM.symm.trans hE15⟩⟩
    have k16 := ci_ne (nI_toInt (n := b10) (Nat.lt_of_le_of_lt hb10 (by decide))) z_ti c12
    refine lv_aload_n S.1 S.2.1 dX8_walk_18 rfl (lv_at hl0 0 rfl) ?_
    refine lv_aload_n S.1 S.2.1 dX8_walk_19 rfl (lv_at hl0 0 rfl) ?_
    refine r_get S hK hP 58 (by decide) hF1 (C := RX8) (T := TX8) (N := 23) hiX8 rfl 4 (by decide) (am_at in_wsX8_walk_0 1 rfl) (v := .ref (ad 62)) rfl dX8_walk_20 ?_
    refine lv_iconst (v := (nI 0)) S.1 S.2.1 dX8_walk_23 (by decide +kernel) ?_
    obtain ⟨g17, hF17, hg17⟩ := wt_I hW (show (62, 7) ∈ rLI by decide)
    refine r_iald S hK hP 62 (by decide) hF17 (vp_in_nI (show 0 < 7 by omega) (by omega)) dX8_walk_24 ?_
    refine lv_topi (fun v19 e19 => ?_)
    obtain ⟨b20, hb20, he20⟩ := (pr_S (hg17 0 (by decide))).1 rfl
    obtain rfl : v19 = nI b20 := e19.trans he20
    have m21 : ((AB ad F) 62 (rl (nI 0))) = (nI b20) := (ab_cg rfl rfl).trans ((AB_g hF17).trans e19.symm)
    refine lv_aload_n S.1 S.2.1 dX8_walk_25 rfl (lv_at hl0 0 rfl) ?_
    refine r_get S hK hP 58 (by decide) hF1 (C := RX8) (T := TX8) (N := 23) hiX8 rfl 4 (by decide) (am_at in_wsX8_walk_0 1 rfl) (v := .ref (ad 62)) rfl dX8_walk_26 ?_
    refine lv_iconst (v := (nI 5)) S.1 S.2.1 dX8_walk_29 (by decide +kernel) ?_
    refine r_iald S hK hP 62 (by decide) hF17 (vp_in_nI (show 5 < 7 by omega) (by omega)) dX8_walk_30 ?_
    refine lv_topi (fun v23 e23 => ?_)
    have m24 : ((AB ad F) 62 (rl (nI 5))) = v23 := (ab_cg rfl rfl).trans ((AB_g hF17).trans e23.symm)
    refine r_cVp (As := [.int (nI b20), .int v23]) (rest := []) S hK hZ hP hS hl0.1 58 (by decide) hF1 (C := RX8) rfl (c_X8_walks l D cA ad t hI F hW (nI b20) v23) (cwV 2 S.2.2.2.2 gX8_walk_X8_walks rfl rfl rfl (by decide +kernel) ⟨Nat.le_of_ble_eq_true rfl, Nat.le_of_ble_eq_true rfl⟩) rfl rfl (Nat.le_of_ble_eq_true rfl) ⟨Nat.zero_le _, Nat.zero_le _⟩ dX8_walk_31 (fun r25 hr25 => ?_)
    obtain ⟨hr25, hm25⟩ := hr25
    have m26 : (m_X8_walks (AB ad F) ((AB ad F) 62 (rl (nI 0))) ((AB ad F) 62 (rl (nI 5)))) = r25 := (congr (congr (Eq.refl (m_X8_walks (AB ad F))) m21) m24).trans hm25
    refine lv_iload_n S.1 S.2.1 dX8_walk_34 rfl (lv_at hl0 1 rfl) ?_
    refine lv_ishr S.1 S.2.1 dX8_walk_35 ?_
    refine lv_topi (fun v27 e27 => ?_)
    have m28 : ((m_X8_walks (AB ad F) ((AB ad F) 62 (rl (nI 0))) ((AB ad F) 62 (rl (nI 5)))) >>> ((nI j8) &&& 31)) = v27 := cg2 (fun (x : Int32) (y : Int32) => x >>> (y &&& 31)) m26 (Eq.refl ((nI j8) : Int32)) e27
    refine lv_iconst (v := (nI 1)) S.1 S.2.1 dX8_walk_36 (by decide +kernel) ?_
    refine lv_iand S.1 S.2.1 dX8_walk_37 ?_
    refine lv_topi (fun v29 e29 => ?_)
    have m30 : (((m_X8_walks (AB ad F) ((AB ad F) 62 (rl (nI 0))) ((AB ad F) 62 (rl (nI 5)))) >>> ((nI j8) &&& 31)) &&& (nI 1)) = v29 := cg2 (fun (x : Int32) (y : Int32) => x &&& y) m28 (Eq.refl ((nI 1) : Int32)) e29
    refine lv_if_ne (tgt := 44) S.1 S.2.1 dX8_walk_38 (by decide) (fun c31 => ?_) (fun c31 => ?_)
    · skip
      have k32 := ci_ne rfl z_ti c31
      refine lv_aload_n S.1 S.2.1 dX8_walk_44 rfl (lv_at hl0 0 rfl) ?_
      refine r_get S hK hP 58 (by decide) hF1 (C := RX8) (T := TX8) (N := 23) hiX8 rfl 4 (by decide) (am_at in_wsX8_walk_0 1 rfl) (v := .ref (ad 62)) rfl dX8_walk_45 ?_
      refine lv_iconst (v := (nI 1)) S.1 S.2.1 dX8_walk_48 (by decide +kernel) ?_
      refine r_iald S hK hP 62 (by decide) hF17 (vp_in_nI (show 1 < 7 by omega) (by omega)) dX8_walk_49 ?_
      refine lv_topi (fun v34 e34 => ?_)
      have m35 : ((AB ad F) 62 (rl (nI 1))) = v34 := (ab_cg rfl rfl).trans ((AB_g hF17).trans e34.symm)
      refine lv_sipush (v := (nI 9000)) S.1 S.2.1 dX8_walk_50 (by decide +kernel) ?_
      refine lv_icmp_le (tgt := 59) S.1 S.2.1 dX8_walk_53 (by decide) (fun c36 => ?_) (fun c36 => ?_)
      · skip
        have k37 := ci_le rfl (nI_toInt (n := 9000) (by decide)) c36
        refine lv_aload_n S.1 S.2.1 dX8_walk_59 rfl (lv_at hl0 0 rfl) ?_
        have hA38 := fN_of (k := 14) (a := at1) hF1 rfl (Nat.lt_of_le_of_lt hb1_5 (by decide))
        have hL38 := fN_of (k := 1) (a := ty1) hF1 rfl (Nat.lt_of_le_of_lt hb1_1 (by decide))
        refine r_cVv (As := []) (rest := []) S hK hZ hP hS hl0.1 58 (by decide) hF1 (C := RX8) rfl (c_X8_keeps l D cA ad t hI F hW ) (cwV 0 S.2.2.2.2 gX8_walk_X8_keeps rfl rfl rfl (by decide +kernel) ⟨Nat.le_of_ble_eq_true rfl, Nat.le_of_ble_eq_true rfl⟩) rfl rfl (Nat.le_of_ble_eq_true rfl) ⟨Nat.zero_le _, Nat.zero_le _⟩ dX8_walk_60 (fun F39 H39 locs39 hr39 hP39 hS39 => ?_)
        obtain ⟨hW39, hFc39, hr39⟩ := hr39
        obtain ⟨hr39, hm39⟩ := hr39
        have hFr39 := hFr.tr hFc39 (by simp <;> first | omega | (simp only [isC, isJ] at *; omega))
        obtain ⟨ty41, kn41, no41, en41, at41, sa41, sd41, wr41, pl41, va41, hF41, hb41_1, hb41_2, hb41_3, hb41_4, hb41_5, hb41_6⟩ := wt_m hW39
        have hA42 := fN_of (k := 14) (a := at41) hF41 rfl (Nat.lt_of_le_of_lt hb41_5 (by decide))
        have hL42 := fN_of (k := 1) (a := ty41) hF41 rfl (Nat.lt_of_le_of_lt hb41_1 (by decide))
        have hE44 : M = m_X8_walk_43 (AB ad F39) (nI j8) := hM.trans ((show m_X8_walk (AB ad F) (nI j8) = m_X8_walk_43 (m_X8_keeps (AB ad F)) (nI j8) from by unfold m_X8_walk; rw [if_neg (neq_cg m5 rfl c6), if_neg (neq_cg m11 rfl c12), if_neg (neq_cg m30 rfl c31), if_pos (le_cg m35 rfl c36)]).trans (congr (congrArg (m_X8_walk_43) ((Eq.refl (m_X8_keeps (AB ad F))).trans hm39)) (Eq.refl ((nI j8) : Int32))))
        refine lv_aload_n S.1 S.2.1 dX8_walk_63 rfl (lv_at hl0 0 rfl) ?_
        refine lv_iload_n S.1 S.2.1 dX8_walk_64 rfl (lv_at hl0 1 rfl) ?_
        refine r_cVv (As := [.int (nI j8)]) (rest := []) S hK hZ hP39 hS39 hl0.1 58 (by decide) hF41 (C := RX8) rfl (c_X8_goesTo l D cA ad t hI F39 hW39 (j8) (by omega)) (cwV 1 S.2.2.2.2 gX8_walk_X8_goesTo rfl rfl rfl (by decide +kernel) ⟨Nat.le_of_ble_eq_true rfl, Nat.le_of_ble_eq_true rfl⟩) rfl rfl (Nat.le_of_ble_eq_true rfl) ⟨Nat.zero_le _, Nat.zero_le _⟩ dX8_walk_65 (fun F45 H45 locs45 hr45 hP45 hS45 => ?_)
        obtain ⟨hW45, hFc45, hr45⟩ := hr45
        obtain ⟨hr45, hm45⟩ := hr45
        have hFr45 := hFr39.tr hFc45 (by simp <;> first | omega | (simp only [isC, isJ] at *; omega))
        have hE47 : M = m_X8_walk_46 (AB ad F45) (nI j8) := hE44.trans ((show m_X8_walk_43 (AB ad F39) (nI j8) = m_X8_walk_46 (m_X8_goesTo (AB ad F39) (nI j8)) (nI j8) from rfl).trans (congr (congrArg (m_X8_walk_46) ((congr (Eq.refl (m_X8_goesTo (AB ad F39))) (Eq.refl ((nI j8) : Int32))).trans hm45)) (Eq.refl ((nI j8) : Int32))))
        refine lv_aload_n S.1 S.2.1 dX8_walk_68 rfl (lv_at hl0 0 rfl) ?_
        have hF48 := (hFc45 58 (by decide)).trans hF41
        refine r_get S hK hP45 58 (by decide) hF48 (C := RX8) (T := TX8) (N := 23) hiX8 rfl 4 (by decide) (am_at in_wsX8_walk_0 1 rfl) (v := .ref (ad 62)) rfl dX8_walk_69 ?_
        refine lv_iconst (v := (nI 1)) S.1 S.2.1 dX8_walk_72 (by decide +kernel) ?_
        obtain ⟨g49, hF49, hg49⟩ := wt_I hW45 (show (62, 7) ∈ rLI by decide)
        refine r_iald S hK hP45 62 (by decide) hF49 (vp_in_nI (show 1 < 7 by omega) (by omega)) dX8_walk_73 ?_
        refine lv_topi (fun v51 e51 => ?_)
        have m52 : ((AB ad F45) 62 (rl (nI 1))) = v51 := (ab_cg rfl rfl).trans ((AB_g hF49).trans e51.symm)
        have hA53 := fN_of (k := 14) (a := at41) hF48 rfl (Nat.lt_of_le_of_lt hb41_5 (by decide))
        have hL53 := fN_of (k := 1) (a := ty41) hF48 rfl (Nat.lt_of_le_of_lt hb41_1 (by decide))
        have hE54 : M = (v51, AB ad F45) := hE47.trans ((show m_X8_walk_46 (AB ad F45) (nI j8) = (((AB ad F45) 62 (rl (nI 1))), (AB ad F45)) from rfl).trans (congrArg (fun q => (q, AB ad F45)) m52))
        exact hret 74 _ _ _ _ _ dX8_walk_74 rfl hP45 hS45 ⟨hW45, hFr45, ⟨by omega, hM.symm.trans hE54⟩⟩
      have k55 := ci_nle rfl (nI_toInt (n := 9000) (by decide)) c36
      refine lv_ldc (v := (-1000000004)) S.1 S.2.1 S.2.2.2.1 (S.2.2.2.2 (.constant RX8 63 (-1000000004)) (am_at in_wsX8_walk_0 3 rfl)) dX8_walk_56 ?_
      have hA56 := fN_of (k := 14) (a := at1) hF1 rfl (Nat.lt_of_le_of_lt hb1_5 (by decide))
      have hL56 := fN_of (k := 1) (a := ty1) hF1 rfl (Nat.lt_of_le_of_lt hb1_1 (by decide))
      have hE57 : M = ((-1000000004), AB ad F) := hM.trans ((show m_X8_walk (AB ad F) (nI j8) = (((-1000000004) : Int32), (AB ad F)) from by unfold m_X8_walk; rw [if_neg (neq_cg m5 rfl c6), if_neg (neq_cg m11 rfl c12), if_neg (neq_cg m30 rfl c31), if_neg (nle_cg m35 rfl c36)]).trans (congrArg (fun q => (q, AB ad F)) rfl))
      exact hret 58 _ _ _ _ _ dX8_walk_58 rfl hP hS ⟨hW, hFr, ⟨by omega, hM.symm.trans hE57⟩⟩
    have k58 := ci_eq rfl z_ti c31
    refine lv_ldc (v := (-1000000003)) S.1 S.2.1 S.2.2.2.1 (S.2.2.2.2 (.constant RX8 139 (-1000000003)) (am_at in_wsX8_walk_0 2 rfl)) dX8_walk_41 ?_
    have hA59 := fN_of (k := 14) (a := at1) hF1 rfl (Nat.lt_of_le_of_lt hb1_5 (by decide))
    have hL59 := fN_of (k := 1) (a := ty1) hF1 rfl (Nat.lt_of_le_of_lt hb1_1 (by decide))
    have hE60 : M = ((-1000000003), AB ad F) := hM.trans ((show m_X8_walk (AB ad F) (nI j8) = (((-1000000003) : Int32), (AB ad F)) from by unfold m_X8_walk; rw [if_neg (neq_cg m5 rfl c6), if_neg (neq_cg m11 rfl c12), if_pos (eq_cg m30 rfl c31)]).trans (congrArg (fun q => (q, AB ad F)) rfl))
    exact hret 43 _ _ _ _ _ dX8_walk_43 rfl hP hS ⟨hW, hFr, ⟨by omega, hM.symm.trans hE60⟩⟩
  have k61 := ci_eq (nI_toInt (n := b4) (Nat.lt_of_le_of_lt hb4 (by decide))) z_ti c6
  refine lv_ldc (v := (-1000000001)) S.1 S.2.1 S.2.2.2.1 (S.2.2.2.2 (.constant RX8 126 (-1000000001)) (am_at in_wsX8_walk_0 0 rfl)) dX8_walk_8 ?_
  have hA62 := fN_of (k := 14) (a := at1) hF1 rfl (Nat.lt_of_le_of_lt hb1_5 (by decide))
  have hL62 := fN_of (k := 1) (a := ty1) hF1 rfl (Nat.lt_of_le_of_lt hb1_1 (by decide))
  have hE63 : M = ((-1000000001), AB ad F) := hM.trans ((show m_X8_walk (AB ad F) p1 = (((-1000000001) : Int32), (AB ad F)) from by unfold m_X8_walk; rw [if_pos (eq_cg m5 rfl c6)]).trans (congrArg (fun q => (q, AB ad F)) rfl))
  exact hret 10 _ _ _ _ _ dX8_walk_10 rfl hP hS ⟨hW, hFr, ⟨by omega, hM.symm.trans hE63⟩⟩
noncomputable def m_X8_war_50 (σ : SS) (a0 : Int32) (a1 : Int32) (a2 : Int32) : Int32 × SS :=
  (a0, σ)
noncomputable def m_X8_war_36 (σ : SS) (a0 : Int32) (a1 : Int32) (a2 : Int32) : Int32 × SS :=
  (a0, σ)
noncomputable def m_X8_war_13 (σ : SS) (a0 : Int32) (a1 : Int32) : Int32 × SS :=
  if a1 = (0 : Int32) then
    m_X8_war_36 (st σ 62 (rl (nI 5)) ((σ 62 (rl (nI 5))) &&& (((nI 1) <<< (a0 &&& 31)) ^^^ ((-1) : Int32)))) (((σ 62 (rl (nI 5))) >>> (a0 &&& 31)) &&& (nI 1)) a0 a1
  else
    m_X8_war_50 (st σ 62 (rl (nI 5)) ((σ 62 (rl (nI 5))) ||| ((nI 1) <<< (a0 &&& 31)))) (((σ 62 (rl (nI 5))) >>> (a0 &&& 31)) &&& (nI 1)) a0 a1
noncomputable def m_X8_war (σ : SS) (a0 : Int32) (a1 : Int32) : Int32 × SS :=
  if (m_X8_isRoad σ a0) = (0 : Int32) then
    (((-1000000001) : Int32), σ)
  else
    m_X8_war_13 (m_X8_keeps σ) a0 a1
set_option maxHeartbeats 4000000 in
set_option maxRecDepth 100000 in
theorem c_X8_war (l : Launch) (D : va_G) (cA ad : Nat → Nat) (t : Nat) (hI : rI ad) (F : Nat → va_E) (hW : WT cA ad F) (p1 : Int32) (p2 : Int32) : MI l D cA ad t yX8_war wsX8_war { frames := 2, cells := 0, slots := 0, locals := 43 } [.ref (ad 58), .int p1, .int p2] F (fun r F' => WT cA ad F' ∧ rFr [58, 62, 63] F F' ∧ ((fN (F' 58) 1 = fN (F 58) 1) ∧ m_X8_war (AB ad F) p1 p2 = (r, AB ad F'))) := by
  refine en_I rfl (by decide +kernel) (Nat.le_of_ble_eq_true rfl) ?_
  intro p e s m args below meth c ls0 Q S hK hZ hP hS hl0 hret
  have hl0 : lv_has ls0 4 [(0, .ref (ad 58)), (1, .int p1), (2, .int p2)] := hl0
  have hFr : rFr [58, 62, 63] F F := rFr.rf
  have hiX8 : ∀ w ∈ u_ws RX8 TX8 23, w ∈ wsX8_war := in_wsX8_war_1
  obtain ⟨M, hM⟩ : ∃ M, M = m_X8_war (AB ad F) p1 p2 := ⟨_, rfl⟩
  obtain ⟨ty1, kn1, no1, en1, at1, sa1, sd1, wr1, pl1, va1, hF1, hb1_1, hb1_2, hb1_3, hb1_4, hb1_5, hb1_6⟩ := wt_m hW
  have hA2 := fN_of (k := 14) (a := at1) hF1 rfl (Nat.lt_of_le_of_lt hb1_5 (by decide))
  have hL2 := fN_of (k := 1) (a := ty1) hF1 rfl (Nat.lt_of_le_of_lt hb1_1 (by decide))
  refine lv_aload_n S.1 S.2.1 dX8_war_0 rfl (lv_at hl0 0 rfl) ?_
  refine lv_iload_n S.1 S.2.1 dX8_war_1 rfl (lv_at hl0 1 rfl) ?_
  refine r_cVp (As := [.int p1]) (rest := []) S hK hZ hP hS hl0.1 58 (by decide) hF1 (C := RX8) rfl (c_X8_isRoad l D cA ad t hI F hW p1) (cwV 1 S.2.2.2.2 gX8_war_X8_isRoad rfl rfl rfl (by decide +kernel) ⟨Nat.le_of_ble_eq_true rfl, Nat.le_of_ble_eq_true rfl⟩) rfl rfl (Nat.le_of_ble_eq_true rfl) ⟨Nat.zero_le _, Nat.zero_le _⟩ dX8_war_2 (fun r3 hr3 => ?_)
  obtain ⟨hr3, hm3⟩ := hr3
  obtain ⟨⟨b4, hb4, rfl⟩, hx4⟩ := hr3
  have hx4 : b4 ≠ 0 → 0 ≤ p1.toInt ∧ p1.toInt ≤ _ := fun q => hx4 (nI_ne0 (by omega) (by omega))
  have m5 : (m_X8_isRoad (AB ad F) p1) = (nI b4) := (congr (Eq.refl (m_X8_isRoad (AB ad F))) (Eq.refl (p1 : Int32))).trans hm3
  refine lv_if_ne (tgt := 11) S.1 S.2.1 dX8_war_5 (by decide) (fun c6 => ?_) (fun c6 => ?_)
  · skip
    have k7 := ci_ne (nI_toInt (n := b4) (Nat.lt_of_le_of_lt hb4 (by decide))) z_ti c6
    refine lv_aload_n S.1 S.2.1 dX8_war_11 rfl (lv_at hl0 0 rfl) ?_
    have hA8 := fN_of (k := 14) (a := at1) hF1 rfl (Nat.lt_of_le_of_lt hb1_5 (by decide))
    have hL8 := fN_of (k := 1) (a := ty1) hF1 rfl (Nat.lt_of_le_of_lt hb1_1 (by decide))
    refine r_cVv (As := []) (rest := []) S hK hZ hP hS hl0.1 58 (by decide) hF1 (C := RX8) rfl (c_X8_keeps l D cA ad t hI F hW ) (cwV 0 S.2.2.2.2 gX8_war_X8_keeps rfl rfl rfl (by decide +kernel) ⟨Nat.le_of_ble_eq_true rfl, Nat.le_of_ble_eq_true rfl⟩) rfl rfl (Nat.le_of_ble_eq_true rfl) ⟨Nat.zero_le _, Nat.zero_le _⟩ dX8_war_12 (fun F9 H9 locs9 hr9 hP9 hS9 => ?_)
    obtain ⟨hW9, hFc9, hr9⟩ := hr9
    obtain ⟨hr9, hm9⟩ := hr9
    have hFr9 := hFr.tr hFc9 (by simp <;> first | omega | (simp only [isC, isJ] at *; omega))
    obtain ⟨ty11, kn11, no11, en11, at11, sa11, sd11, wr11, pl11, va11, hF11, hb11_1, hb11_2, hb11_3, hb11_4, hb11_5, hb11_6⟩ := wt_m hW9
    have hA12 := fN_of (k := 14) (a := at11) hF11 rfl (Nat.lt_of_le_of_lt hb11_5 (by decide))
    have hL12 := fN_of (k := 1) (a := ty11) hF11 rfl (Nat.lt_of_le_of_lt hb11_1 (by decide))
    have hE14 : M = m_X8_war_13 (AB ad F9) p1 p2 := hM.trans ((show m_X8_war (AB ad F) p1 p2 = m_X8_war_13 (m_X8_keeps (AB ad F)) p1 p2 from by unfold m_X8_war; rw [if_neg (neq_cg m5 rfl c6)]).trans (congr (congr (congrArg (m_X8_war_13) ((Eq.refl (m_X8_keeps (AB ad F))).trans hm9)) (Eq.refl (p1 : Int32))) (Eq.refl (p2 : Int32))))
    refine lv_aload_n S.1 S.2.1 dX8_war_15 rfl (lv_at hl0 0 rfl) ?_
    refine r_get S hK hP9 58 (by decide) hF11 (C := RX8) (T := TX8) (N := 23) hiX8 rfl 4 (by decide) (am_at in_wsX8_war_0 1 rfl) (v := .ref (ad 62)) rfl dX8_war_16 ?_
    refine lv_iconst (v := (nI 5)) S.1 S.2.1 dX8_war_19 (by decide +kernel) ?_
    obtain ⟨g15, hF15, hg15⟩ := wt_I hW9 (show (62, 7) ∈ rLI by decide)
    refine r_iald S hK hP9 62 (by decide) hF15 (vp_in_nI (show 5 < 7 by omega) (by omega)) dX8_war_20 ?_
    refine lv_topi (fun v17 e17 => ?_)
    have m18 : ((AB ad F9) 62 (rl (nI 5))) = v17 := (ab_cg rfl rfl).trans ((AB_g hF15).trans e17.symm)
    refine lv_iload_n S.1 S.2.1 dX8_war_21 rfl (lv_at hl0 1 rfl) ?_
    refine lv_ishr S.1 S.2.1 dX8_war_22 ?_
    refine lv_topi (fun v19 e19 => ?_)
    have m20 : (((AB ad F9) 62 (rl (nI 5))) >>> (p1 &&& 31)) = v19 := cg2 (fun (x : Int32) (y : Int32) => x >>> (y &&& 31)) m18 (Eq.refl (p1 : Int32)) e19
    refine lv_iconst (v := (nI 1)) S.1 S.2.1 dX8_war_23 (by decide +kernel) ?_
    refine lv_iand S.1 S.2.1 dX8_war_24 ?_
    refine lv_topi (fun v21 e21 => ?_)
    have m22 : ((((AB ad F9) 62 (rl (nI 5))) >>> (p1 &&& 31)) &&& (nI 1)) = v21 := cg2 (fun (x : Int32) (y : Int32) => x &&& y) m20 (Eq.refl ((nI 1) : Int32)) e21
    refine lv_istore_n (lv' := [(3, .int v21), (0, .ref (ad 58)), (1, .int p1), (2, .int p2)]) S.1 S.2.1 dX8_war_25 rfl hl0 (by decide) rfl (fun ls23 hl23 => ?_)
    refine lv_aload_n S.1 S.2.1 dX8_war_26 rfl (lv_at hl23 1 rfl) ?_
    refine r_get S hK hP9 58 (by decide) hF11 (C := RX8) (T := TX8) (N := 23) hiX8 rfl 4 (by decide) (am_at in_wsX8_war_0 1 rfl) (v := .ref (ad 62)) rfl dX8_war_27 ?_
    refine lv_iconst (v := (nI 5)) S.1 S.2.1 dX8_war_30 (by decide +kernel) ?_
    refine lv_iload_n S.1 S.2.1 dX8_war_31 rfl (lv_at hl23 3 rfl) ?_
    refine lv_if_eq (tgt := 48) S.1 S.2.1 dX8_war_32 (by decide) (fun c24 => ?_) (fun c24 => ?_)
    · skip
      have k25 := ci_eq rfl z_ti c24
      refine lv_aload_n S.1 S.2.1 dX8_war_48 rfl (lv_at hl23 1 rfl) ?_
      refine r_get S hK hP9 58 (by decide) hF11 (C := RX8) (T := TX8) (N := 23) hiX8 rfl 4 (by decide) (am_at in_wsX8_war_0 1 rfl) (v := .ref (ad 62)) rfl dX8_war_49 ?_
      refine lv_iconst (v := (nI 5)) S.1 S.2.1 dX8_war_52 (by decide +kernel) ?_
      refine r_iald S hK hP9 62 (by decide) hF15 (vp_in_nI (show 5 < 7 by omega) (by omega)) dX8_war_53 ?_
      refine lv_topi (fun v27 e27 => ?_)
      have m28 : ((AB ad F9) 62 (rl (nI 5))) = v27 := (ab_cg rfl rfl).trans ((AB_g hF15).trans e27.symm)
      refine lv_iconst (v := (nI 1)) S.1 S.2.1 dX8_war_54 (by decide +kernel) ?_
      refine lv_iload_n S.1 S.2.1 dX8_war_55 rfl (lv_at hl23 2 rfl) ?_
      refine lv_ishl S.1 S.2.1 dX8_war_56 ?_
      refine lv_topi (fun v29 e29 => ?_)
      have m30 : ((nI 1) <<< (p1 &&& 31)) = v29 := cg2 (fun (x : Int32) (y : Int32) => x <<< (y &&& 31)) (Eq.refl ((nI 1) : Int32)) (Eq.refl (p1 : Int32)) e29
      refine lv_iconst (v := (-1)) S.1 S.2.1 dX8_war_57 (by decide +kernel) ?_
      refine lv_ixor S.1 S.2.1 dX8_war_58 ?_
      refine lv_topi (fun v31 e31 => ?_)
      have m32 : (((nI 1) <<< (p1 &&& 31)) ^^^ ((-1) : Int32)) = v31 := cg2 (fun (x : Int32) (y : Int32) => x ^^^ y) m30 (Eq.refl ((-1) : Int32)) e31
      refine lv_iand S.1 S.2.1 dX8_war_59 ?_
      refine lv_topi (fun v33 e33 => ?_)
      have m34 : (((AB ad F9) 62 (rl (nI 5))) &&& (((nI 1) <<< (p1 &&& 31)) ^^^ ((-1) : Int32))) = v33 := cg2 (fun (x : Int32) (y : Int32) => x &&& y) m28 m32 e33
      refine r_iast S hI hK hP9 hS9 62 (by decide) hF15 (vp_in_nI (show 5 < 7 by omega) (by omega)) dX8_war_60 (fun F35 H35 locs35 eF35 hP35 hS35 => ?_)
      have hW35 := hW9.up eF35 (ok_I (show (62, 7) ∈ rLI by decide) (okI_up hg15 (by rw [nI_clamp (by omega)]; exact to_S (okS_o (by decide) (by decide) (by decide)))))
      have hFr35 := hFr9.up eF35 (by simp <;> first | omega | (simp only [isC, isJ] at *; omega))
      have hE37 : M = m_X8_war_36 (AB ad F35) v21 p1 p2 := hE14.trans ((show m_X8_war_13 (AB ad F9) p1 p2 = m_X8_war_36 (st (AB ad F9) 62 (rl (nI 5)) (((AB ad F9) 62 (rl (nI 5))) &&& (((nI 1) <<< (p1 &&& 31)) ^^^ ((-1) : Int32)))) ((((AB ad F9) 62 (rl (nI 5))) >>> (p1 &&& 31)) &&& (nI 1)) p1 p2 from by unfold m_X8_war_13; rw [if_pos (eq_cg rfl rfl c24)]).trans (congr (congr (congr (congrArg (m_X8_war_36) ((st_cg rfl (congrArg rl rfl) m34).trans (AB_ast hF15 eF35).symm)) m22) (Eq.refl (p1 : Int32))) (Eq.refl (p2 : Int32))))
      obtain ⟨gg35, eg35⟩ : ∃ g9, g9 = upd g15 (nI 5).toNatClampNeg v33 := ⟨_, rfl⟩
      have hF35 : F35 62 = .inl (cA 0, 7, .inl gg35) := by rw [eF35, eg35]; exact va_up_self _ _ _
      have hg35 : ∀ j, j < 7 → rPr 62 j (gg35 j) := by rw [eg35]; exact pr_up hg15 (by rw [nI_clamp (by omega)]; exact to_S (okS_o (by decide) (by decide) (by decide)))
      refine lv_iload_n S.1 S.2.1 dX8_war_61 rfl (lv_at hl23 0 rfl) ?_
      have hF38 := (show F35 58 = F9 58 by rw [eF35]; exact va_up_ne _ _ (by decide)).trans hF11
      have hA39 := fN_of (k := 14) (a := at11) hF38 rfl (Nat.lt_of_le_of_lt hb11_5 (by decide))
      have hL39 := fN_of (k := 1) (a := ty11) hF38 rfl (Nat.lt_of_le_of_lt hb11_1 (by decide))
      have hE40 : M = (v21, AB ad F35) := hE37.trans ((show m_X8_war_36 (AB ad F35) v21 p1 p2 = (v21, (AB ad F35)) from rfl).trans (congrArg (fun q => (q, AB ad F35)) rfl))
      exact hret 62 _ _ _ _ _ dX8_war_62 rfl hP35 hS35 ⟨hW35, hFr35, ⟨by omega, hM.symm.trans hE40⟩⟩
    have k41 := ci_ne rfl z_ti c24
    refine lv_aload_n S.1 S.2.1 dX8_war_35 rfl (lv_at hl23 1 rfl) ?_
    refine r_get S hK hP9 58 (by decide) hF11 (C := RX8) (T := TX8) (N := 23) hiX8 rfl 4 (by decide) (am_at in_wsX8_war_0 1 rfl) (v := .ref (ad 62)) rfl dX8_war_36 ?_
    refine lv_iconst (v := (nI 5)) S.1 S.2.1 dX8_war_39 (by decide +kernel) ?_
    refine r_iald S hK hP9 62 (by decide) hF15 (vp_in_nI (show 5 < 7 by omega) (by omega)) dX8_war_40 ?_
    refine lv_topi (fun v43 e43 => ?_)
    have m44 : ((AB ad F9) 62 (rl (nI 5))) = v43 := (ab_cg rfl rfl).trans ((AB_g hF15).trans e43.symm)
    refine lv_iconst (v := (nI 1)) S.1 S.2.1 dX8_war_41 (by decide +kernel) ?_
    refine lv_iload_n S.1 S.2.1 dX8_war_42 rfl (lv_at hl23 2 rfl) ?_
    refine lv_ishl S.1 S.2.1 dX8_war_43 ?_
    refine lv_topi (fun v45 e45 => ?_)
    have m46 : ((nI 1) <<< (p1 &&& 31)) = v45 := cg2 (fun (x : Int32) (y : Int32) => x <<< (y &&& 31)) (Eq.refl ((nI 1) : Int32)) (Eq.refl (p1 : Int32)) e45
    refine lv_ior S.1 S.2.1 dX8_war_44 ?_
    refine lv_topi (fun v47 e47 => ?_)
    have m48 : (((AB ad F9) 62 (rl (nI 5))) ||| ((nI 1) <<< (p1 &&& 31))) = v47 := cg2 (fun (x : Int32) (y : Int32) => x ||| y) m44 m46 e47
    refine lv_goto (tgt := 60) S.1 S.2.1 dX8_war_45 (by decide) ?_
    refine r_iast S hI hK hP9 hS9 62 (by decide) hF15 (vp_in_nI (show 5 < 7 by omega) (by omega)) dX8_war_60 (fun F49 H49 locs49 eF49 hP49 hS49 => ?_)
    have hW49 := hW9.up eF49 (ok_I (show (62, 7) ∈ rLI by decide) (okI_up hg15 (by rw [nI_clamp (by omega)]; exact to_S (okS_o (by decide) (by decide) (by decide)))))
    have hFr49 := hFr9.up eF49 (by simp <;> first | omega | (simp only [isC, isJ] at *; omega))
    have hE51 : M = m_X8_war_50 (AB ad F49) v21 p1 p2 := hE14.trans ((show m_X8_war_13 (AB ad F9) p1 p2 = m_X8_war_50 (st (AB ad F9) 62 (rl (nI 5)) (((AB ad F9) 62 (rl (nI 5))) ||| ((nI 1) <<< (p1 &&& 31)))) ((((AB ad F9) 62 (rl (nI 5))) >>> (p1 &&& 31)) &&& (nI 1)) p1 p2 from by unfold m_X8_war_13; rw [if_neg (neq_cg rfl rfl c24)]).trans (congr (congr (congr (congrArg (m_X8_war_50) ((st_cg rfl (congrArg rl rfl) m48).trans (AB_ast hF15 eF49).symm)) m22) (Eq.refl (p1 : Int32))) (Eq.refl (p2 : Int32))))
    obtain ⟨gg49, eg49⟩ : ∃ g9, g9 = upd g15 (nI 5).toNatClampNeg v47 := ⟨_, rfl⟩
    have hF49 : F49 62 = .inl (cA 0, 7, .inl gg49) := by rw [eF49, eg49]; exact va_up_self _ _ _
    have hg49 : ∀ j, j < 7 → rPr 62 j (gg49 j) := by rw [eg49]; exact pr_up hg15 (by rw [nI_clamp (by omega)]; exact to_S (okS_o (by decide) (by decide) (by decide)))
    refine lv_iload_n S.1 S.2.1 dX8_war_61 rfl (lv_at hl23 0 rfl) ?_
    have hF52 := (show F49 58 = F9 58 by rw [eF49]; exact va_up_ne _ _ (by decide)).trans hF11
    have hA53 := fN_of (k := 14) (a := at11) hF52 rfl (Nat.lt_of_le_of_lt hb11_5 (by decide))
    have hL53 := fN_of (k := 1) (a := ty11) hF52 rfl (Nat.lt_of_le_of_lt hb11_1 (by decide))
    have hE54 : M = (v21, AB ad F49) := hE51.trans ((show m_X8_war_50 (AB ad F49) v21 p1 p2 = (v21, (AB ad F49)) from rfl).trans (congrArg (fun q => (q, AB ad F49)) rfl))
    exact hret 62 _ _ _ _ _ dX8_war_62 rfl hP49 hS49 ⟨hW49, hFr49, ⟨by omega, hM.symm.trans hE54⟩⟩
  have k55 := ci_eq (nI_toInt (n := b4) (Nat.lt_of_le_of_lt hb4 (by decide))) z_ti c6
  refine lv_ldc (v := (-1000000001)) S.1 S.2.1 S.2.2.2.1 (S.2.2.2.2 (.constant RX8 126 (-1000000001)) (am_at in_wsX8_war_0 0 rfl)) dX8_war_8 ?_
  have hA56 := fN_of (k := 14) (a := at1) hF1 rfl (Nat.lt_of_le_of_lt hb1_5 (by decide))
  have hL56 := fN_of (k := 1) (a := ty1) hF1 rfl (Nat.lt_of_le_of_lt hb1_1 (by decide))
  have hE57 : M = ((-1000000001), AB ad F) := hM.trans ((show m_X8_war (AB ad F) p1 p2 = (((-1000000001) : Int32), (AB ad F)) from by unfold m_X8_war; rw [if_pos (eq_cg m5 rfl c6)]).trans (congrArg (fun q => (q, AB ad F)) rfl))
  exact hret 10 _ _ _ _ _ dX8_war_10 rfl hP hS ⟨hW, hFr, ⟨by omega, hM.symm.trans hE57⟩⟩
noncomputable def m_X8_home_26 (σ : SS) : Int32 × SS :=
  ((σ 62 (rl (nI 3))), σ)
noncomputable def m_X8_home_22 (σ : SS) : Int32 × SS :=
  m_X8_home_26 (st σ 62 (rl (nI 6)) (nI 1))
noncomputable def m_X8_home (σ : SS) : Int32 × SS :=
  if (m_X8_goesOn σ) = (0 : Int32) then
    (((-1000000003) : Int32), σ)
  else
    if (nI 36) ≤ (σ 62 (rl (nI 1))) then
      m_X8_home_22 (m_X8_keeps σ)
    else
      (((-1000000003) : Int32), σ)
set_option maxHeartbeats 4000000 in
set_option maxRecDepth 100000 in
theorem c_X8_home (l : Launch) (D : va_G) (cA ad : Nat → Nat) (t : Nat) (hI : rI ad) (F : Nat → va_E) (hW : WT cA ad F) : MI l D cA ad t yX8_home wsX8_home { frames := 1, cells := 0, slots := 0, locals := 21 } [.ref (ad 58)] F (fun r F' => WT cA ad F' ∧ rFr [58, 62, 63] F F' ∧ ((fN (F' 58) 1 = fN (F 58) 1) ∧ m_X8_home (AB ad F) = (r, AB ad F'))) := by
  refine en_I rfl (by decide +kernel) (Nat.le_of_ble_eq_true rfl) ?_
  intro p e s m args below meth c ls0 Q S hK hZ hP hS hl0 hret
  have hl0 : lv_has ls0 1 [(0, .ref (ad 58))] := hl0
  have hFr : rFr [58, 62, 63] F F := rFr.rf
  have hiX8 : ∀ w ∈ u_ws RX8 TX8 23, w ∈ wsX8_home := in_wsX8_home_1
  obtain ⟨M, hM⟩ : ∃ M, M = m_X8_home (AB ad F) := ⟨_, rfl⟩
  obtain ⟨ty1, kn1, no1, en1, at1, sa1, sd1, wr1, pl1, va1, hF1, hb1_1, hb1_2, hb1_3, hb1_4, hb1_5, hb1_6⟩ := wt_m hW
  have hA2 := fN_of (k := 14) (a := at1) hF1 rfl (Nat.lt_of_le_of_lt hb1_5 (by decide))
  have hL2 := fN_of (k := 1) (a := ty1) hF1 rfl (Nat.lt_of_le_of_lt hb1_1 (by decide))
  refine lv_aload_n S.1 S.2.1 dX8_home_0 rfl (lv_at hl0 0 rfl) ?_
  refine r_cVp (As := []) (rest := []) S hK hZ hP hS hl0.1 58 (by decide) hF1 (C := RX8) rfl (c_X8_goesOn l D cA ad t hI F hW ) (cwV 0 S.2.2.2.2 gX8_home_X8_goesOn rfl rfl rfl (by decide +kernel) ⟨Nat.le_of_ble_eq_true rfl, Nat.le_of_ble_eq_true rfl⟩) rfl rfl (Nat.le_of_ble_eq_true rfl) ⟨Nat.zero_le _, Nat.zero_le _⟩ dX8_home_1 (fun r3 hr3 => ?_)
  obtain ⟨hr3, hm3⟩ := hr3
  obtain ⟨b4, hb4, rfl⟩ := hr3
  have m5 : (m_X8_goesOn (AB ad F)) = (nI b4) := (Eq.refl (m_X8_goesOn (AB ad F))).trans hm3
  refine lv_if_eq (tgt := 18) S.1 S.2.1 dX8_home_4 (by decide) (fun c6 => ?_) (fun c6 => ?_)
  · skip
    have k7 := ci_eq (nI_toInt (n := b4) (Nat.lt_of_le_of_lt hb4 (by decide))) z_ti c6
    refine lv_ldc (v := (-1000000003)) S.1 S.2.1 S.2.2.2.1 (S.2.2.2.2 (.constant RX8 139 (-1000000003)) (am_at in_wsX8_home_0 1 rfl)) dX8_home_18 ?_
    have hA8 := fN_of (k := 14) (a := at1) hF1 rfl (Nat.lt_of_le_of_lt hb1_5 (by decide))
    have hL8 := fN_of (k := 1) (a := ty1) hF1 rfl (Nat.lt_of_le_of_lt hb1_1 (by decide))
    have hE9 : M = ((-1000000003), AB ad F) := hM.trans ((show m_X8_home (AB ad F) = (((-1000000003) : Int32), (AB ad F)) from by unfold m_X8_home; rw [if_pos (eq_cg m5 rfl c6)]).trans (congrArg (fun q => (q, AB ad F)) rfl))
    exact hret 20 _ _ _ _ _ dX8_home_20 rfl hP hS ⟨hW, hFr, ⟨by omega, hM.symm.trans hE9⟩⟩
  have k10 := ci_ne (nI_toInt (n := b4) (Nat.lt_of_le_of_lt hb4 (by decide))) z_ti c6
  refine lv_aload_n S.1 S.2.1 dX8_home_7 rfl (lv_at hl0 0 rfl) ?_
  refine r_get S hK hP 58 (by decide) hF1 (C := RX8) (T := TX8) (N := 23) hiX8 rfl 4 (by decide) (am_at in_wsX8_home_0 0 rfl) (v := .ref (ad 62)) rfl dX8_home_8 ?_
  refine lv_iconst (v := (nI 1)) S.1 S.2.1 dX8_home_11 (by decide +kernel) ?_
  obtain ⟨g11, hF11, hg11⟩ := wt_I hW (show (62, 7) ∈ rLI by decide)
  refine r_iald S hK hP 62 (by decide) hF11 (vp_in_nI (show 1 < 7 by omega) (by omega)) dX8_home_12 ?_
  refine lv_topi (fun v13 e13 => ?_)
  have m14 : ((AB ad F) 62 (rl (nI 1))) = v13 := (ab_cg rfl rfl).trans ((AB_g hF11).trans e13.symm)
  refine lv_bipush (v := (nI 36)) S.1 S.2.1 dX8_home_13 (by decide +kernel) ?_
  refine lv_icmp_ge (tgt := 21) S.1 S.2.1 dX8_home_15 (by decide) (fun c15 => ?_) (fun c15 => ?_)
  · skip
    have k16 := ci_le (nI_toInt (n := 36) (by decide)) rfl c15
    refine lv_aload_n S.1 S.2.1 dX8_home_21 rfl (lv_at hl0 0 rfl) ?_
    have hA17 := fN_of (k := 14) (a := at1) hF1 rfl (Nat.lt_of_le_of_lt hb1_5 (by decide))
    have hL17 := fN_of (k := 1) (a := ty1) hF1 rfl (Nat.lt_of_le_of_lt hb1_1 (by decide))
    refine r_cVv (As := []) (rest := []) S hK hZ hP hS hl0.1 58 (by decide) hF1 (C := RX8) rfl (c_X8_keeps l D cA ad t hI F hW ) (cwV 0 S.2.2.2.2 gX8_home_X8_keeps rfl rfl rfl (by decide +kernel) ⟨Nat.le_of_ble_eq_true rfl, Nat.le_of_ble_eq_true rfl⟩) rfl rfl (Nat.le_of_ble_eq_true rfl) ⟨Nat.zero_le _, Nat.zero_le _⟩ dX8_home_22 (fun F18 H18 locs18 hr18 hP18 hS18 => ?_)
    obtain ⟨hW18, hFc18, hr18⟩ := hr18
    obtain ⟨hr18, hm18⟩ := hr18
    have hFr18 := hFr.tr hFc18 (by simp <;> first | omega | (simp only [isC, isJ] at *; omega))
    obtain ⟨ty20, kn20, no20, en20, at20, sa20, sd20, wr20, pl20, va20, hF20, hb20_1, hb20_2, hb20_3, hb20_4, hb20_5, hb20_6⟩ := wt_m hW18
    have hA21 := fN_of (k := 14) (a := at20) hF20 rfl (Nat.lt_of_le_of_lt hb20_5 (by decide))
    have hL21 := fN_of (k := 1) (a := ty20) hF20 rfl (Nat.lt_of_le_of_lt hb20_1 (by decide))
    have hE23 : M = m_X8_home_22 (AB ad F18) := hM.trans ((show m_X8_home (AB ad F) = m_X8_home_22 (m_X8_keeps (AB ad F)) from by unfold m_X8_home; rw [if_neg (neq_cg m5 rfl c6), if_pos (le_cg rfl m14 c15)]).trans (congrArg (m_X8_home_22) ((Eq.refl (m_X8_keeps (AB ad F))).trans hm18)))
    refine lv_aload_n S.1 S.2.1 dX8_home_25 rfl (lv_at hl0 0 rfl) ?_
    refine r_get S hK hP18 58 (by decide) hF20 (C := RX8) (T := TX8) (N := 23) hiX8 rfl 4 (by decide) (am_at in_wsX8_home_0 0 rfl) (v := .ref (ad 62)) rfl dX8_home_26 ?_
    refine lv_bipush (v := (nI 6)) S.1 S.2.1 dX8_home_29 (by decide +kernel) ?_
    refine lv_iconst (v := (nI 1)) S.1 S.2.1 dX8_home_31 (by decide +kernel) ?_
    have hF24 := (hFc18 62 (by decide)).trans hF11
    refine r_iast S hI hK hP18 hS18 62 (by decide) hF24 (vp_in_nI (show 6 < 7 by omega) (by omega)) dX8_home_32 (fun F25 H25 locs25 eF25 hP25 hS25 => ?_)
    have hW25 := hW18.up eF25 (ok_I (show (62, 7) ∈ rLI by decide) (okI_up hg11 (by rw [nI_clamp (by omega)]; exact to_S (okS_o (by decide) (by decide) (by decide)))))
    have hFr25 := hFr18.up eF25 (by simp <;> first | omega | (simp only [isC, isJ] at *; omega))
    have hE27 : M = m_X8_home_26 (AB ad F25) := hE23.trans ((show m_X8_home_22 (AB ad F18) = m_X8_home_26 (st (AB ad F18) 62 (rl (nI 6)) (nI 1)) from rfl).trans (congrArg (m_X8_home_26) ((st_cg rfl (congrArg rl rfl) rfl).trans (AB_ast hF24 eF25).symm)))
    obtain ⟨gg25, eg25⟩ : ∃ g9, g9 = upd g11 (nI 6).toNatClampNeg (nI 1) := ⟨_, rfl⟩
    have hF25 : F25 62 = .inl (cA 0, 7, .inl gg25) := by rw [eF25, eg25]; exact va_up_self _ _ _
    have hg25 : ∀ j, j < 7 → rPr 62 j (gg25 j) := by rw [eg25]; exact pr_up hg11 (by rw [nI_clamp (by omega)]; exact to_S (okS_o (by decide) (by decide) (by decide)))
    refine lv_aload_n S.1 S.2.1 dX8_home_33 rfl (lv_at hl0 0 rfl) ?_
    have hF28 := (show F25 58 = F18 58 by rw [eF25]; exact va_up_ne _ _ (by decide)).trans hF20
    refine r_get S hK hP25 58 (by decide) hF28 (C := RX8) (T := TX8) (N := 23) hiX8 rfl 4 (by decide) (am_at in_wsX8_home_0 0 rfl) (v := .ref (ad 62)) rfl dX8_home_34 ?_
    refine lv_iconst (v := (nI 3)) S.1 S.2.1 dX8_home_37 (by decide +kernel) ?_
    refine r_iald S hK hP25 62 (by decide) hF25 (vp_in_nI (show 3 < 7 by omega) (by omega)) dX8_home_38 ?_
    refine lv_topi (fun v30 e30 => ?_)
    have m31 : ((AB ad F25) 62 (rl (nI 3))) = v30 := (ab_cg rfl rfl).trans ((AB_g hF25).trans e30.symm)
    have hA32 := fN_of (k := 14) (a := at20) hF28 rfl (Nat.lt_of_le_of_lt hb20_5 (by decide))
    have hL32 := fN_of (k := 1) (a := ty20) hF28 rfl (Nat.lt_of_le_of_lt hb20_1 (by decide))
    have hE33 : M = (v30, AB ad F25) := hE27.trans ((show m_X8_home_26 (AB ad F25) = (((AB ad F25) 62 (rl (nI 3))), (AB ad F25)) from rfl).trans (congrArg (fun q => (q, AB ad F25)) m31))
    exact hret 39 _ _ _ _ _ dX8_home_39 rfl hP25 hS25 ⟨hW25, hFr25, ⟨by omega, hM.symm.trans hE33⟩⟩
  have k34 := ci_nle (nI_toInt (n := 36) (by decide)) rfl c15
  refine lv_ldc (v := (-1000000003)) S.1 S.2.1 S.2.2.2.1 (S.2.2.2.2 (.constant RX8 139 (-1000000003)) (am_at in_wsX8_home_0 1 rfl)) dX8_home_18 ?_
  have hA35 := fN_of (k := 14) (a := at1) hF1 rfl (Nat.lt_of_le_of_lt hb1_5 (by decide))
  have hL35 := fN_of (k := 1) (a := ty1) hF1 rfl (Nat.lt_of_le_of_lt hb1_1 (by decide))
  have hE36 : M = ((-1000000003), AB ad F) := hM.trans ((show m_X8_home (AB ad F) = (((-1000000003) : Int32), (AB ad F)) from by unfold m_X8_home; rw [if_neg (neq_cg m5 rfl c6), if_neg (nle_cg rfl m14 c15)]).trans (congrArg (fun q => (q, AB ad F)) rfl))
  exact hret 20 _ _ _ _ _ dX8_home_20 rfl hP hS ⟨hW, hFr, ⟨by omega, hM.symm.trans hE36⟩⟩
noncomputable def m_X8_draw_16 (σ : SS) (a0 : Int64) (a1 : Int32) : Int32 × SS :=
  ((irm ((a0 / ((65536) : Int64)).toInt32) a1), σ)
noncomputable def m_X8_draw (σ : SS) (a0 : Int32) : Int32 × SS :=
  m_X8_draw_16 (st σ 58 9 ((lrm ((((σ 58 9).toInt64) * ((1103515245) : Int64)) + ((12345) : Int64)) ((2147483648) : Int64)).toInt32)) (lrm ((((σ 58 9).toInt64) * ((1103515245) : Int64)) + ((12345) : Int64)) ((2147483648) : Int64)) a0
set_option maxHeartbeats 4000000 in
set_option maxRecDepth 100000 in
theorem c_X8_draw (l : Launch) (D : va_G) (cA ad : Nat → Nat) (t : Nat) (hI : rI ad) (F : Nat → va_E) (hW : WT cA ad F) (p1 : Int32) (hn : ¬ p1 = 0) : MI l D cA ad t yX8_draw wsX8_draw { frames := 0, cells := 0, slots := 0, locals := 0 } [.ref (ad 58), .int p1] F (fun r F' => WT cA ad F' ∧ rFr [58] F F' ∧ ((fN (F' 58) 1 = fN (F 58) 1) ∧ m_X8_draw (AB ad F) p1 = (r, AB ad F'))) := by
  refine en_I rfl (by decide +kernel) (Nat.le_of_ble_eq_true rfl) ?_
  intro p e s m args below meth c ls0 Q S hK hZ hP hS hl0 hret
  have hl0 : lv_has ls0 4 [(0, .ref (ad 58)), (1, .int p1)] := hl0
  have hFr : rFr [58] F F := rFr.rf
  have hiX8 : ∀ w ∈ u_ws RX8 TX8 23, w ∈ wsX8_draw := in_wsX8_draw_1
  obtain ⟨M, hM⟩ : ∃ M, M = m_X8_draw (AB ad F) p1 := ⟨_, rfl⟩
  obtain ⟨ty1, kn1, no1, en1, at1, sa1, sd1, wr1, pl1, va1, hF1, hb1_1, hb1_2, hb1_3, hb1_4, hb1_5, hb1_6⟩ := wt_m hW
  have hA2 := fN_of (k := 14) (a := at1) hF1 rfl (Nat.lt_of_le_of_lt hb1_5 (by decide))
  have hL2 := fN_of (k := 1) (a := ty1) hF1 rfl (Nat.lt_of_le_of_lt hb1_1 (by decide))
  refine lv_aload_n S.1 S.2.1 dX8_draw_0 rfl (lv_at hl0 0 rfl) ?_
  refine r_get S hK hP 58 (by decide) hF1 (C := RX8) (T := TX8) (N := 23) hiX8 rfl 9 (by decide) (am_at in_wsX8_draw_0 0 rfl) (v := .int sd1) rfl dX8_draw_1 ?_
  have m3 : ((AB ad F) 58 9) = sd1 := AB_f hF1 rfl
  refine lv_i2l S.1 S.2.1 dX8_draw_4 rfl ?_
  refine lv_topl (fun v4 e4 => ?_)
  have m5 : (((AB ad F) 58 9).toInt64) = v4 := cg1 (fun x : Int32 => x.toInt64) m3 e4
  refine lv_ldc2 (v := 1103515245) S.1 S.2.1 S.2.2.2.1 (S.2.2.2.2 (.constantLong RX8 156 (1103515245)) (am_at in_wsX8_draw_0 1 rfl)) dX8_draw_5 ?_
  refine lv_lmul S.1 S.2.1 dX8_draw_8 ?_
  refine lv_topl (fun v6 e6 => ?_)
  have m7 : ((((AB ad F) 58 9).toInt64) * ((1103515245) : Int64)) = v6 := cg2 (fun (x : Int64) (y : Int64) => x * y) m5 (Eq.refl ((1103515245) : Int64)) e6
  refine lv_ldc2 (v := 12345) S.1 S.2.1 S.2.2.2.1 (S.2.2.2.2 (.constantLong RX8 158 (12345)) (am_at in_wsX8_draw_0 2 rfl)) dX8_draw_9 ?_
  refine lv_ladd S.1 S.2.1 dX8_draw_12 ?_
  refine lv_topl (fun v8 e8 => ?_)
  have m9 : (((((AB ad F) 58 9).toInt64) * ((1103515245) : Int64)) + ((12345) : Int64)) = v8 := cg2 (fun (x : Int64) (y : Int64) => x + y) m7 (Eq.refl ((12345) : Int64)) e8
  refine lv_ldc2 (v := 2147483648) S.1 S.2.1 S.2.2.2.1 (S.2.2.2.2 (.constantLong RX8 160 (2147483648)) (am_at in_wsX8_draw_0 3 rfl)) dX8_draw_13 ?_
  refine lv_lrem S.1 S.2.1 dX8_draw_16 (by decide +kernel) ?_
  refine lv_topl (fun v10 e10 => ?_)
  have m11 : (lrm (((((AB ad F) 58 9).toInt64) * ((1103515245) : Int64)) + ((12345) : Int64)) ((2147483648) : Int64)) = v10 := cg2 (fun (x : Int64) (y : Int64) => lrm x y) m9 (Eq.refl ((2147483648) : Int64)) e10
  refine lv_lstore_n (lv' := [(2, .long v10), (0, .ref (ad 58)), (1, .int p1)]) S.1 S.2.1 dX8_draw_17 rfl hl0 (by decide) rfl (fun ls12 hl12 => ?_)
  refine lv_aload_n S.1 S.2.1 dX8_draw_18 rfl (lv_at hl12 1 rfl) ?_
  refine lv_lload_n S.1 S.2.1 dX8_draw_19 rfl (lv_at hl12 0 rfl) ?_
  refine lv_l2i S.1 S.2.1 dX8_draw_20 rfl ?_
  refine lv_topi (fun v13 e13 => ?_)
  have m14 : ((lrm (((((AB ad F) 58 9).toInt64) * ((1103515245) : Int64)) + ((12345) : Int64)) ((2147483648) : Int64)).toInt32) = v13 := cg1 (fun x : Int64 => x.toInt32) m11 e13
  refine r_put S hI hK hP hS 58 (by decide) hF1 (C := RX8) (T := TX8) (N := 23) hiX8 tyX8_ok nmX8 rfl 9 (by decide) (am_at in_wsX8_draw_0 0 rfl) rfl rfl rfl (Nat.le_of_ble_eq_true rfl) dX8_draw_21 (fun F15 H15 locs15 eF15 hP15 hS15 => ?_)
  have hF15 : F15 58 = .inr (8, [.ref (ad 59), .int (nI ty1), .ref (ad 60), .ref (ad 61), .ref (ad 62), .ref (ad 63), .int (nI kn1), .ref (ad 64), .ref (ad 65), .int v13, .ref (ad 66), .int (nI no1), .ref (ad 67), .int (nI en1), .int (nI at1), .int wr1, .int pl1, .int va1, .int (nI sa1), .ref (ad 68), .ref (ad 69), .ref (ad 70), .ref (ad 71)]) := by rw [eF15]; exact va_up_self _ _ _
  have hW15 := hW.up eF15 (ok_m ⟨ty1, kn1, no1, en1, at1, sa1, v13, wr1, pl1, va1, rfl, by omega, by omega, by omega, by omega, by omega, by omega⟩)
  have hFr15 := hFr.up eF15 (by simp <;> first | omega | (simp only [isC, isJ] at *; omega))
  have hE17 : M = m_X8_draw_16 (AB ad F15) v10 p1 := hM.trans ((show m_X8_draw (AB ad F) p1 = m_X8_draw_16 (st (AB ad F) 58 9 ((lrm (((((AB ad F) 58 9).toInt64) * ((1103515245) : Int64)) + ((12345) : Int64)) ((2147483648) : Int64)).toInt32)) (lrm (((((AB ad F) 58 9).toInt64) * ((1103515245) : Int64)) + ((12345) : Int64)) ((2147483648) : Int64)) p1 from rfl).trans (congr (congr (congrArg (m_X8_draw_16) ((st_cg rfl rfl m14).trans (AB_put hF1 (Nat.le_of_ble_eq_true rfl) eF15).symm)) m11) (Eq.refl (p1 : Int32))))
  refine lv_lload_n S.1 S.2.1 dX8_draw_24 rfl (lv_at hl12 0 rfl) ?_
  refine lv_ldc2 (v := 65536) S.1 S.2.1 S.2.2.2.1 (S.2.2.2.2 (.constantLong RX8 162 (65536)) (am_at in_wsX8_draw_0 4 rfl)) dX8_draw_25 ?_
  refine lv_ldiv S.1 S.2.1 dX8_draw_28 (by decide +kernel) ?_
  refine lv_topl (fun v18 e18 => ?_)
  have m19 : (v10 / ((65536) : Int64)) = v18 := cg2 (fun (x : Int64) (y : Int64) => x / y) (Eq.refl (v10 : Int64)) (Eq.refl ((65536) : Int64)) e18
  refine lv_l2i S.1 S.2.1 dX8_draw_29 rfl ?_
  refine lv_topi (fun v20 e20 => ?_)
  have m21 : ((v10 / ((65536) : Int64)).toInt32) = v20 := cg1 (fun x : Int64 => x.toInt32) m19 e20
  refine lv_iload_n S.1 S.2.1 dX8_draw_30 rfl (lv_at hl12 2 rfl) ?_
  refine lv_irem S.1 S.2.1 dX8_draw_31 hn ?_
  refine lv_topi (fun v22 e22 => ?_)
  have m23 : (irm ((v10 / ((65536) : Int64)).toInt32) p1) = v22 := cg2 (fun (x : Int32) (y : Int32) => irm x y) m21 (Eq.refl (p1 : Int32)) e22
  have hA24 := fN_of (k := 14) (a := at1) hF15 rfl (Nat.lt_of_le_of_lt hb1_5 (by decide))
  have hL24 := fN_of (k := 1) (a := ty1) hF15 rfl (Nat.lt_of_le_of_lt hb1_1 (by decide))
  have hE25 : M = (v22, AB ad F15) := hE17.trans ((show m_X8_draw_16 (AB ad F15) v10 p1 = ((irm ((v10 / ((65536) : Int64)).toInt32) p1), (AB ad F15)) from rfl).trans (congrArg (fun q => (q, AB ad F15)) m23))
  exact hret 32 _ _ _ _ _ dX8_draw_32 rfl hP15 hS15 ⟨hW15, hFr15, ⟨by omega, hM.symm.trans hE25⟩⟩
noncomputable def m_X8_least_L5_3_b (k0 : SS → Int32 → Int32 → Int32 → Int32) (σ : SS) (a0 : Int32) (a1 : Int32) (a2 : Int32) : Int32 :=
  if a0 < (0 : Int32) then
    a1
  else
    if ((a2 >>> (a0 &&& 31)) &&& (nI 1)) = (nI 1) then
      k0 σ (a0 + Int32.ofInt (-1)) a0 a2
    else
      k0 σ (a0 + Int32.ofInt (-1)) a1 a2
noncomputable def m_X8_least_L5_3 : Nat → SS → Int32 → Int32 → Int32 → Int32
  | 0 => fun σ _ _ _ => 0
  | n + 1 => m_X8_least_L5_3_b (m_X8_least_L5_3 n)
noncomputable def m_X8_least (σ : SS) (a0 : Int32) : Int32 :=
  m_X8_least_L5_3 2000 σ (nI 7) ((-1) : Int32) a0
set_option maxHeartbeats 4000000 in
set_option maxRecDepth 100000 in
theorem c_X8_least (l : Launch) (D : va_G) (cA ad : Nat → Nat) (t : Nat) (hI : rI ad) (F : Nat → va_E) (hW : WT cA ad F) (p1 : Int32) : MP l D cA ad t yX8_least wsX8_least { frames := 0, cells := 0, slots := 0, locals := 0 } [.int p1] F (fun r => (-1 ≤ r.toInt ∧ r.toInt ≤ 7) ∧ m_X8_least (AB ad F) p1 = r) := by
  refine en_P rfl (by decide +kernel) (Nat.le_of_ble_eq_true rfl) ?_
  intro p e s m args below meth c ls0 Q S hK hZ hP hS hl0 hret
  have hl0 : lv_has ls0 3 [(0, .int p1)] := hl0
  obtain ⟨M, hM⟩ : ∃ M, M = m_X8_least (AB ad F) p1 := ⟨_, rfl⟩
  refine lv_iconst (v := (-1)) S.1 S.2.1 dX8_least_0 (by decide +kernel) ?_
  refine lv_istore_n (lv' := [(1, .int (-1)), (0, .int p1)]) S.1 S.2.1 dX8_least_1 rfl hl0 (by decide) rfl (fun ls1 hl1 => ?_)
  refine lv_bipush (v := (nI 7)) S.1 S.2.1 dX8_least_2 (by decide +kernel) ?_
  refine lv_istore_n (lv' := [(2, .int (nI 7)), (1, .int (-1)), (0, .int p1)]) S.1 S.2.1 dX8_least_4 rfl hl1 (by decide) rfl (fun ls2 hl2 => ?_)
  have lp3 : ∀ (n3 : Nat) (x3_2 : Int32) (x3_1 : Int32), -1 ≤ x3_2.toInt → x3_2.toInt ≤ 7 → -1 ≤ x3_1.toInt ∧ x3_1.toInt ≤ 7 → (x3_2.toInt + 1).toNat < n3 → M = m_X8_least_L5_3 n3 (AB ad F) x3_2 x3_1 p1 → ∀ (ls : Array Slot), lv_has ls 3 [(2, .int x3_2), (1, .int x3_1), (0, .int p1)] → W p l e { frames := 0, cells := 0, slots := 0, locals := 0 } s m args below meth c s.heap [] 0 0 Q (F0 m 5 ls []) := by
    intro n3
    induction n3 with
    | zero =>
      intro x3_2 x3_1 iv3_0 iv3_1 ix3_f hm3 hEl3 ls3 hl3
      exact absurd hm3 (Nat.not_lt_zero _)
    | succ n3 ih3 =>
      intro x3_2 x3_1 iv3_0 iv3_1 ix3_f hm3 hEl3 ls3 hl3
      have hE4 : M = m_X8_least_L5_3_b (m_X8_least_L5_3 n3) (AB ad F) x3_2 x3_1 p1 := hEl3
      refine lv_iload_n S.1 S.2.1 dX8_least_5 rfl (lv_at hl3 0 rfl) ?_
      refine lv_if_lt (tgt := 30) S.1 S.2.1 dX8_least_6 (by decide) (fun c5 => ?_) (fun c5 => ?_)
      · skip
        have k6 := ci_lt rfl z_ti c5
        refine lv_iload_n S.1 S.2.1 dX8_least_30 rfl (lv_at hl3 1 rfl) ?_
        have hE7 : M = x3_1 := hE4.trans ((show m_X8_least_L5_3_b (m_X8_least_L5_3 n3) (AB ad F) x3_2 x3_1 p1 = x3_1 from by unfold m_X8_least_L5_3_b; rw [if_pos (lt_cg rfl rfl c5)]).trans rfl)
        exact hret 31 _ _ dX8_least_31 rfl (⟨by omega, hM.symm.trans hE7⟩)
      have k8 := ci_nlt rfl z_ti c5
      obtain ⟨j9, hj9, rfl⟩ := nI_of_le (x := x3_2) (B := 7) (by omega) (by omega)
      have kj9 := nI_toInt (n := j9) (Nat.lt_of_le_of_lt hj9 (by decide))
      refine lv_iload_n S.1 S.2.1 dX8_least_9 rfl (lv_at hl3 2 rfl) ?_
      refine lv_iload_n S.1 S.2.1 dX8_least_10 rfl (lv_at hl3 0 rfl) ?_
      refine lv_ishr S.1 S.2.1 dX8_least_11 ?_
      refine lv_topi (fun v10 e10 => ?_)
      have m11 : (p1 >>> ((nI j9) &&& 31)) = v10 := cg2 (fun (x : Int32) (y : Int32) => x >>> (y &&& 31)) (Eq.refl (p1 : Int32)) (Eq.refl ((nI j9) : Int32)) e10
      refine lv_iconst (v := (nI 1)) S.1 S.2.1 dX8_least_12 (by decide +kernel) ?_
      refine lv_iand S.1 S.2.1 dX8_least_13 ?_
      refine lv_topi (fun v12 e12 => ?_)
      have m13 : ((p1 >>> ((nI j9) &&& 31)) &&& (nI 1)) = v12 := cg2 (fun (x : Int32) (y : Int32) => x &&& y) m11 (Eq.refl ((nI 1) : Int32)) e12
      refine lv_iconst (v := (nI 1)) S.1 S.2.1 dX8_least_14 (by decide +kernel) ?_
      refine lv_icmp_ne (tgt := 22) S.1 S.2.1 dX8_least_15 (by decide) (fun c14 => ?_) (fun c14 => ?_)
      · skip
        have k15 := ci_ne rfl (nI_toInt (n := 1) (by decide)) c14
        refine lv_iload_n S.1 S.2.1 dX8_least_22 rfl (lv_at hl3 1 rfl) ?_
        refine lv_istore_n (lv' := [(1, .int x3_1), (2, .int (nI j9)), (0, .int p1)]) S.1 S.2.1 dX8_least_23 rfl hl3 (by decide) rfl (fun ls16 hl16 => ?_)
        obtain ⟨v17, e17⟩ : ∃ y : Int32, y = (nI j9) + Int32.ofInt (-1) := ⟨_, rfl⟩
        have kd17 : v17.toInt = ((j9 : Nat) : Int) - 1 := by rw [e17]; exact nI_dec (by omega)
        have m18 : ((nI j9) + Int32.ofInt (-1)) = v17 := (congrArg (fun q : Int32 => q + Int32.ofInt (-1)) rfl).trans e17.symm
        refine lv_iinc (v := v17) (lv' := [(2, .int v17), (1, .int x3_1), (0, .int p1)]) S.1 S.2.1 dX8_least_24 hl16 (k := 1) rfl e17.symm (by decide) rfl (fun ls17 hl17 => ?_)
        refine lv_goto (tgt := 5) S.1 S.2.1 dX8_least_27 (by decide) ?_
        have ta19 : (x3_1 : Int32).toInt = x3_1.toInt := rfl
        have hE20 : M = (m_X8_least_L5_3 n3) (AB ad F) v17 x3_1 p1 := hE4.trans ((show m_X8_least_L5_3_b (m_X8_least_L5_3 n3) (AB ad F) (nI j9) x3_1 p1 = (m_X8_least_L5_3 n3) (AB ad F) ((nI j9) + Int32.ofInt (-1)) x3_1 p1 from by unfold m_X8_least_L5_3_b; rw [if_neg (nlt_cg rfl rfl c5), if_neg (neq_cg m13 rfl c14)]).trans (congr (congr (congr (congrArg ((m_X8_least_L5_3 n3)) (rfl : AB ad F = AB ad F)) m18) (Eq.refl (x3_1 : Int32))) (Eq.refl (p1 : Int32))))
        exact ih3 (v17) (x3_1) (by omega) (by omega) (by omega) (by omega) hE20 ls17 (lv_sub hl17 [0, 1, 2] rfl)
      have k21 := ci_eq rfl (nI_toInt (n := 1) (by decide)) c14
      refine lv_iload_n S.1 S.2.1 dX8_least_18 rfl (lv_at hl3 0 rfl) ?_
      refine lv_goto (tgt := 23) S.1 S.2.1 dX8_least_19 (by decide) ?_
      refine lv_istore_n (lv' := [(1, .int (nI j9)), (2, .int (nI j9)), (0, .int p1)]) S.1 S.2.1 dX8_least_23 rfl hl3 (by decide) rfl (fun ls22 hl22 => ?_)
      obtain ⟨v23, e23⟩ : ∃ y : Int32, y = (nI j9) + Int32.ofInt (-1) := ⟨_, rfl⟩
      have kd23 : v23.toInt = ((j9 : Nat) : Int) - 1 := by rw [e23]; exact nI_dec (by omega)
      have m24 : ((nI j9) + Int32.ofInt (-1)) = v23 := (congrArg (fun q : Int32 => q + Int32.ofInt (-1)) rfl).trans e23.symm
      refine lv_iinc (v := v23) (lv' := [(2, .int v23), (1, .int (nI j9)), (0, .int p1)]) S.1 S.2.1 dX8_least_24 hl22 (k := 1) rfl e23.symm (by decide) rfl (fun ls23 hl23 => ?_)
      refine lv_goto (tgt := 5) S.1 S.2.1 dX8_least_27 (by decide) ?_
      have ta25 : ((nI j9) : Int32).toInt = ((j9 : Nat) : Int) := (nI_toInt (n := j9) (Nat.lt_of_le_of_lt hj9 (by decide)))
      have hE26 : M = (m_X8_least_L5_3 n3) (AB ad F) v23 (nI j9) p1 := hE4.trans ((show m_X8_least_L5_3_b (m_X8_least_L5_3 n3) (AB ad F) (nI j9) x3_1 p1 = (m_X8_least_L5_3 n3) (AB ad F) ((nI j9) + Int32.ofInt (-1)) (nI j9) p1 from by unfold m_X8_least_L5_3_b; rw [if_neg (nlt_cg rfl rfl c5), if_pos (eq_cg m13 rfl c14)]).trans (congr (congr (congr (congrArg ((m_X8_least_L5_3 n3)) (rfl : AB ad F = AB ad F)) m24) (Eq.refl ((nI j9) : Int32))) (Eq.refl (p1 : Int32))))
      exact ih3 (v23) ((nI j9)) (by omega) (by omega) (by omega) (by omega) hE26 ls23 (lv_sub hl23 [0, 1, 2] rfl)
  have kt27 := nI_toInt (n := 7) (by decide)
  have ta28 : ((-1) : Int32).toInt = (-1 : Int) := (show ((-1) : Int32).toInt = -1 by decide +kernel)
  have hE29 : M = m_X8_least_L5_3 2000 (AB ad F) (nI 7) (-1) p1 := hM.trans ((show m_X8_least (AB ad F) p1 = m_X8_least_L5_3 2000 (AB ad F) (nI 7) ((-1) : Int32) p1 from rfl).trans (congr (congr (congr (congrArg (m_X8_least_L5_3 2000) (rfl : AB ad F = AB ad F)) (Eq.refl ((nI 7) : Int32))) (Eq.refl ((-1) : Int32))) (Eq.refl (p1 : Int32))))
  exact lp3 2000 ((nI 7)) ((-1)) (by omega) (by omega) (by omega) (by omega) hE29 ls2 (lv_sub hl2 [0, 1, 2] rfl)
noncomputable def m_X8_drifts_349 (σ : SS) (a0 : Int32) (a1 : Int32) : SS :=
  σ
noncomputable def m_X8_drifts_324 (σ : SS) (a0 : Int32) : SS :=
  σ
noncomputable def m_X8_drifts_283 (σ : SS) (a0 : Int32) : SS :=
  σ
noncomputable def m_X8_drifts_256 (σ : SS) (a0 : Int32) : SS :=
  if a0 = (0 : Int32) then
    if (m_X8_mayStay σ) = (0 : Int32) then
      if (m_X8_least σ (m_X8_walks σ (σ 62 (rl (nI 0))) (σ 62 (rl (nI 5))))) = ((-1) : Int32) then
        σ
      else
        m_X8_drifts_324 (m_X8_goesTo σ (m_X8_least σ (m_X8_walks σ (σ 62 (rl (nI 0))) (σ 62 (rl (nI 5)))))) (m_X8_least σ (m_X8_walks σ (σ 62 (rl (nI 0))) (σ 62 (rl (nI 5)))))
    else
      m_X8_drifts_349 ((m_X8_stays σ)).2 (m_X8_least σ (m_X8_walks σ (σ 62 (rl (nI 0))) (σ 62 (rl (nI 5))))) ((m_X8_stays σ)).1
  else
    if (m_X8_least σ (m_X8_walks σ (σ 62 (rl (nI 0))) (σ 62 (rl (nI 5))))) = ((-1) : Int32) then
      σ
    else
      m_X8_drifts_283 (m_X8_goesTo σ (m_X8_least σ (m_X8_walks σ (σ 62 (rl (nI 0))) (σ 62 (rl (nI 5)))))) (m_X8_least σ (m_X8_walks σ (σ 62 (rl (nI 0))) (σ 62 (rl (nI 5)))))
noncomputable def m_X8_drifts_247 (σ : SS) : SS :=
  m_X8_drifts_256 ((m_X8_draw σ (nI 2))).2 ((m_X8_draw σ (nI 2))).1
noncomputable def m_X8_drifts_239 (σ : SS) (a0 : Int32) (a1 : Int32) : SS :=
  m_X8_drifts_247 (st σ 62 (rl (nI 5)) (a0 ^^^ ((nI 1) <<< (a1 &&& 31))))
noncomputable def m_X8_drifts_220 (σ : SS) (a0 : Int32) (a1 : Int32) : SS :=
  σ
noncomputable def m_X8_drifts_195 (σ : SS) (a0 : Int32) : SS :=
  σ
noncomputable def m_X8_drifts_156 (σ : SS) (a0 : Int32) : SS :=
  σ
noncomputable def m_X8_drifts_129 (σ : SS) (a0 : Int32) : SS :=
  if a0 = (0 : Int32) then
    if (m_X8_mayStay σ) = (0 : Int32) then
      if (m_X8_least σ (m_X8_walks σ (σ 62 (rl (nI 0))) (σ 62 (rl (nI 5))))) = ((-1) : Int32) then
        σ
      else
        m_X8_drifts_195 (m_X8_goesTo σ (m_X8_least σ (m_X8_walks σ (σ 62 (rl (nI 0))) (σ 62 (rl (nI 5)))))) (m_X8_least σ (m_X8_walks σ (σ 62 (rl (nI 0))) (σ 62 (rl (nI 5)))))
    else
      m_X8_drifts_220 ((m_X8_stays σ)).2 (m_X8_least σ (m_X8_walks σ (σ 62 (rl (nI 0))) (σ 62 (rl (nI 5))))) ((m_X8_stays σ)).1
  else
    if (m_X8_least σ (m_X8_walks σ (σ 62 (rl (nI 0))) (σ 62 (rl (nI 5))))) = ((-1) : Int32) then
      σ
    else
      m_X8_drifts_156 (m_X8_goesTo σ (m_X8_least σ (m_X8_walks σ (σ 62 (rl (nI 0))) (σ 62 (rl (nI 5)))))) (m_X8_least σ (m_X8_walks σ (σ 62 (rl (nI 0))) (σ 62 (rl (nI 5)))))
noncomputable def m_X8_drifts_110 (σ : SS) (a0 : Int32) (a1 : Int32) : SS :=
  σ
noncomputable def m_X8_drifts_85 (σ : SS) (a0 : Int32) : SS :=
  σ
noncomputable def m_X8_drifts_46 (σ : SS) (a0 : Int32) : SS :=
  σ
noncomputable def m_X8_drifts_19 (σ : SS) (a0 : Int32) : SS :=
  if a0 = (0 : Int32) then
    if (m_X8_mayStay σ) = (0 : Int32) then
      if (m_X8_least σ (m_X8_walks σ (σ 62 (rl (nI 0))) (σ 62 (rl (nI 5))))) = ((-1) : Int32) then
        σ
      else
        m_X8_drifts_85 (m_X8_goesTo σ (m_X8_least σ (m_X8_walks σ (σ 62 (rl (nI 0))) (σ 62 (rl (nI 5)))))) (m_X8_least σ (m_X8_walks σ (σ 62 (rl (nI 0))) (σ 62 (rl (nI 5)))))
    else
      m_X8_drifts_110 ((m_X8_stays σ)).2 (m_X8_least σ (m_X8_walks σ (σ 62 (rl (nI 0))) (σ 62 (rl (nI 5))))) ((m_X8_stays σ)).1
  else
    if (m_X8_least σ (m_X8_walks σ (σ 62 (rl (nI 0))) (σ 62 (rl (nI 5))))) = ((-1) : Int32) then
      σ
    else
      m_X8_drifts_46 (m_X8_goesTo σ (m_X8_least σ (m_X8_walks σ (σ 62 (rl (nI 0))) (σ 62 (rl (nI 5)))))) (m_X8_least σ (m_X8_walks σ (σ 62 (rl (nI 0))) (σ 62 (rl (nI 5)))))
noncomputable def m_X8_drifts_9 (σ : SS) (a0 : Int32) : SS :=
  if a0 = (0 : Int32) then
    if (σ 60 (rl (nI 3))) ≤ (0 : Int32) then
      m_X8_drifts_129 ((m_X8_draw σ (nI 2))).2 ((m_X8_draw σ (nI 2))).1
    else
      m_X8_drifts_239 ((m_X8_draw σ (σ 60 (rl (nI 3))))).2 (σ 62 (rl (nI 5))) ((m_X8_draw σ (σ 60 (rl (nI 3))))).1
  else
    m_X8_drifts_19 ((m_X8_draw σ (nI 2))).2 ((m_X8_draw σ (nI 2))).1
noncomputable def m_X8_drifts (σ : SS) : SS :=
  m_X8_drifts_9 ((m_X8_draw σ (nI 4))).2 ((m_X8_draw σ (nI 4))).1
set_option maxHeartbeats 4000000 in
set_option maxRecDepth 100000 in
theorem c_X8_drifts (l : Launch) (D : va_G) (cA ad : Nat → Nat) (t : Nat) (hI : rI ad) (F : Nat → va_E) (hW : WT cA ad F) : MV l D cA ad t yX8_drifts wsX8_drifts { frames := 2, cells := 0, slots := 0, locals := 48 } [.ref (ad 58)] F (fun F' => WT cA ad F' ∧ rFr [58, 62] F F' ∧ ((fN (F' 58) 1 = fN (F 58) 1) ∧ m_X8_drifts (AB ad F) = AB ad F')) := by
  refine en_V rfl (by decide +kernel) (Nat.le_of_ble_eq_true rfl) ?_
  intro p e s m args below meth c ls0 Q S hK hZ hP hS hl0 hret
  have hl0 : lv_has ls0 3 [(0, .ref (ad 58))] := hl0
  have hFr : rFr [58, 62] F F := rFr.rf
  have hiX8 : ∀ w ∈ u_ws RX8 TX8 23, w ∈ wsX8_drifts := in_wsX8_drifts_2
  obtain ⟨M, hM⟩ : ∃ M, M = m_X8_drifts (AB ad F) := ⟨_, rfl⟩
  obtain ⟨ty1, kn1, no1, en1, at1, sa1, sd1, wr1, pl1, va1, hF1, hb1_1, hb1_2, hb1_3, hb1_4, hb1_5, hb1_6⟩ := wt_m hW
  have hA2 := fN_of (k := 14) (a := at1) hF1 rfl (Nat.lt_of_le_of_lt hb1_5 (by decide))
  have hL2 := fN_of (k := 1) (a := ty1) hF1 rfl (Nat.lt_of_le_of_lt hb1_1 (by decide))
  refine lv_aload_n S.1 S.2.1 dX8_drifts_0 rfl (lv_at hl0 0 rfl) ?_
  refine lv_iconst (v := (nI 4)) S.1 S.2.1 dX8_drifts_1 (by decide +kernel) ?_
  have hA3 := fN_of (k := 14) (a := at1) hF1 rfl (Nat.lt_of_le_of_lt hb1_5 (by decide))
  have hL3 := fN_of (k := 1) (a := ty1) hF1 rfl (Nat.lt_of_le_of_lt hb1_1 (by decide))
  refine r_cVi (As := [.int (nI 4)]) (rest := []) S hK hZ hP hS hl0.1 58 (by decide) hF1 (C := RX8) rfl (c_X8_draw l D cA ad t hI F hW (nI 4) (by decide +kernel)) (cwV 1 S.2.2.2.2 gX8_drifts_X8_draw rfl rfl rfl (by decide +kernel) ⟨Nat.le_of_ble_eq_true rfl, Nat.le_of_ble_eq_true rfl⟩) rfl rfl (Nat.le_of_ble_eq_true rfl) ⟨Nat.zero_le _, Nat.zero_le _⟩ dX8_drifts_2 (fun r4 F4 H4 locs4 hr4 hP4 hS4 => ?_)
  obtain ⟨hW4, hFc4, hr4⟩ := hr4
  obtain ⟨hr4, hm4⟩ := hr4
  have hFr4 := hFr.tr hFc4 (by simp <;> first | omega | (simp only [isC, isJ] at *; omega))
  obtain ⟨ty6, kn6, no6, en6, at6, sa6, sd6, wr6, pl6, va6, hF6, hb6_1, hb6_2, hb6_3, hb6_4, hb6_5, hb6_6⟩ := wt_m hW4
  have hA7 := fN_of (k := 14) (a := at6) hF6 rfl (Nat.lt_of_le_of_lt hb6_5 (by decide))
  have hL7 := fN_of (k := 1) (a := ty6) hF6 rfl (Nat.lt_of_le_of_lt hb6_1 (by decide))
  have mc8 : (m_X8_draw (AB ad F) (nI 4)) = (r4, AB ad F4) := (congr (Eq.refl (m_X8_draw (AB ad F))) (Eq.refl ((nI 4) : Int32))).trans hm4
  have hE10 : M = m_X8_drifts_9 (AB ad F4) r4 := hM.trans ((show m_X8_drifts (AB ad F) = m_X8_drifts_9 ((m_X8_draw (AB ad F) (nI 4))).2 ((m_X8_draw (AB ad F) (nI 4))).1 from rfl).trans (congr (congrArg (m_X8_drifts_9) (congrArg Prod.snd mc8)) (congrArg Prod.fst mc8)))
  refine lv_if_ne (tgt := 38) S.1 S.2.1 dX8_drifts_5 (by decide) (fun c11 => ?_) (fun c11 => ?_)
  · skip
    have k12 := ci_ne rfl z_ti c11
    refine lv_aload_n S.1 S.2.1 dX8_drifts_38 rfl (lv_at hl0 0 rfl) ?_
    refine lv_iconst (v := (nI 2)) S.1 S.2.1 dX8_drifts_39 (by decide +kernel) ?_
    have hA13 := fN_of (k := 14) (a := at6) hF6 rfl (Nat.lt_of_le_of_lt hb6_5 (by decide))
    have hL13 := fN_of (k := 1) (a := ty6) hF6 rfl (Nat.lt_of_le_of_lt hb6_1 (by decide))
    refine r_cVi (As := [.int (nI 2)]) (rest := []) S hK hZ hP4 hS4 hl0.1 58 (by decide) hF6 (C := RX8) rfl (c_X8_draw l D cA ad t hI F4 hW4 (nI 2) (by decide +kernel)) (cwV 1 S.2.2.2.2 gX8_drifts_X8_draw rfl rfl rfl (by decide +kernel) ⟨Nat.le_of_ble_eq_true rfl, Nat.le_of_ble_eq_true rfl⟩) rfl rfl (Nat.le_of_ble_eq_true rfl) ⟨Nat.zero_le _, Nat.zero_le _⟩ dX8_drifts_40 (fun r14 F14 H14 locs14 hr14 hP14 hS14 => ?_)
    obtain ⟨hW14, hFc14, hr14⟩ := hr14
    obtain ⟨hr14, hm14⟩ := hr14
    have hFr14 := hFr4.tr hFc14 (by simp <;> first | omega | (simp only [isC, isJ] at *; omega))
    obtain ⟨ty16, kn16, no16, en16, at16, sa16, sd16, wr16, pl16, va16, hF16, hb16_1, hb16_2, hb16_3, hb16_4, hb16_5, hb16_6⟩ := wt_m hW14
    have hA17 := fN_of (k := 14) (a := at16) hF16 rfl (Nat.lt_of_le_of_lt hb16_5 (by decide))
    have hL17 := fN_of (k := 1) (a := ty16) hF16 rfl (Nat.lt_of_le_of_lt hb16_1 (by decide))
    have mc18 : (m_X8_draw (AB ad F4) (nI 2)) = (r14, AB ad F14) := (congr (Eq.refl (m_X8_draw (AB ad F4))) (Eq.refl ((nI 2) : Int32))).trans hm14
    have hE20 : M = m_X8_drifts_19 (AB ad F14) r14 := hE10.trans ((show m_X8_drifts_9 (AB ad F4) r4 = m_X8_drifts_19 ((m_X8_draw (AB ad F4) (nI 2))).2 ((m_X8_draw (AB ad F4) (nI 2))).1 from by unfold m_X8_drifts_9; rw [if_neg (neq_cg rfl rfl c11)]).trans (congr (congrArg (m_X8_drifts_19) (congrArg Prod.snd mc18)) (congrArg Prod.fst mc18)))
    refine lv_if_ne (tgt := 57) S.1 S.2.1 dX8_drifts_43 (by decide) (fun c21 => ?_) (fun c21 => ?_)
    · skip
      have k22 := ci_ne rfl z_ti c21
      refine lv_iconst (v := (nI 0)) S.1 S.2.1 dX8_drifts_57 (by decide +kernel) ?_
      refine lv_istore_n (lv' := [(1, .int (nI 0)), (0, .ref (ad 58))]) S.1 S.2.1 dX8_drifts_58 rfl hl0 (by decide) rfl (fun ls23 hl23 => ?_)
      refine lv_aload_n S.1 S.2.1 dX8_drifts_59 rfl (lv_at hl23 1 rfl) ?_
      refine lv_aload_n S.1 S.2.1 dX8_drifts_60 rfl (lv_at hl23 1 rfl) ?_
      refine r_get S hK hP14 58 (by decide) hF16 (C := RX8) (T := TX8) (N := 23) hiX8 rfl 4 (by decide) (am_at in_wsX8_drifts_0 1 rfl) (v := .ref (ad 62)) rfl dX8_drifts_61 ?_
      refine lv_iconst (v := (nI 0)) S.1 S.2.1 dX8_drifts_64 (by decide +kernel) ?_
      obtain ⟨g24, hF24, hg24⟩ := wt_I hW14 (show (62, 7) ∈ rLI by decide)
      refine r_iald S hK hP14 62 (by decide) hF24 (vp_in_nI (show 0 < 7 by omega) (by omega)) dX8_drifts_65 ?_
      refine lv_topi (fun v26 e26 => ?_)
      obtain ⟨b27, hb27, he27⟩ := (pr_S (hg24 0 (by decide))).1 rfl
      obtain rfl : v26 = nI b27 := e26.trans he27
      have m28 : ((AB ad F14) 62 (rl (nI 0))) = (nI b27) := (ab_cg rfl rfl).trans ((AB_g hF24).trans e26.symm)
      refine lv_aload_n S.1 S.2.1 dX8_drifts_66 rfl (lv_at hl23 1 rfl) ?_
      refine r_get S hK hP14 58 (by decide) hF16 (C := RX8) (T := TX8) (N := 23) hiX8 rfl 4 (by decide) (am_at in_wsX8_drifts_0 1 rfl) (v := .ref (ad 62)) rfl dX8_drifts_67 ?_
      refine lv_iconst (v := (nI 5)) S.1 S.2.1 dX8_drifts_70 (by decide +kernel) ?_
      refine r_iald S hK hP14 62 (by decide) hF24 (vp_in_nI (show 5 < 7 by omega) (by omega)) dX8_drifts_71 ?_
      refine lv_topi (fun v30 e30 => ?_)
      have m31 : ((AB ad F14) 62 (rl (nI 5))) = v30 := (ab_cg rfl rfl).trans ((AB_g hF24).trans e30.symm)
      refine r_cVp (As := [.int (nI b27), .int v30]) (rest := []) S hK hZ hP14 hS14 hl23.1 58 (by decide) hF16 (C := RX8) rfl (c_X8_walks l D cA ad t hI F14 hW14 (nI b27) v30) (cwV 2 S.2.2.2.2 gX8_drifts_X8_walks rfl rfl rfl (by decide +kernel) ⟨Nat.le_of_ble_eq_true rfl, Nat.le_of_ble_eq_true rfl⟩) rfl rfl (Nat.le_of_ble_eq_true rfl) ⟨Nat.zero_le _, Nat.zero_le _⟩ dX8_drifts_72 (fun r32 hr32 => ?_)
      obtain ⟨hr32, hm32⟩ := hr32
      have m33 : (m_X8_walks (AB ad F14) ((AB ad F14) 62 (rl (nI 0))) ((AB ad F14) 62 (rl (nI 5)))) = r32 := (congr (congr (Eq.refl (m_X8_walks (AB ad F14))) m28) m31).trans hm32
      refine r_cSp (As := [.int r32]) (rest := []) S hK hZ hP14 hS14 hl23.1 (c_X8_least l D cA ad t hI F14 hW14 r32) (va_cwS 1 S.2.2.2.2 gX8_drifts_X8_least rfl rfl rfl (by decide +kernel) ⟨Nat.le_of_ble_eq_true rfl, Nat.le_of_ble_eq_true rfl⟩) rfl rfl (Nat.le_of_ble_eq_true rfl) ⟨Nat.zero_le _, Nat.zero_le _⟩ dX8_drifts_75 (fun r34 hr34 => ?_)
      obtain ⟨hr34, hm34⟩ := hr34
      have m35 : (m_X8_least (AB ad F14) (m_X8_walks (AB ad F14) ((AB ad F14) 62 (rl (nI 0))) ((AB ad F14) 62 (rl (nI 5))))) = r34 := (congr (Eq.refl (m_X8_least (AB ad F14))) m33).trans hm34
      refine lv_istore_n (lv' := [(2, .int r34), (1, .int (nI 0)), (0, .ref (ad 58))]) S.1 S.2.1 dX8_drifts_78 rfl hl23 (by decide) rfl (fun ls36 hl36 => ?_)
      refine lv_iload_n S.1 S.2.1 dX8_drifts_79 rfl (lv_at hl36 1 rfl) ?_
      refine lv_if_eq (tgt := 91) S.1 S.2.1 dX8_drifts_80 (by decide) (fun c37 => ?_) (fun c37 => absurd (by decide +kernel) c37)
      have k38 := ci_eq (nI_toInt (n := 0) (by decide)) z_ti c37
      refine lv_iload_n S.1 S.2.1 dX8_drifts_91 rfl (lv_at hl36 0 rfl) ?_
      refine lv_iconst (v := (-1)) S.1 S.2.1 dX8_drifts_92 (by decide +kernel) ?_
      refine lv_icmp_eq (tgt := 101) S.1 S.2.1 dX8_drifts_93 (by decide) (fun c39 => ?_) (fun c39 => ?_)
      · skip
        have k40 := ci_eq rfl (show ((-1) : Int32).toInt = -1 by decide +kernel) c39
        have hA41 := fN_of (k := 14) (a := at16) hF16 rfl (Nat.lt_of_le_of_lt hb16_5 (by decide))
        have hL41 := fN_of (k := 1) (a := ty16) hF16 rfl (Nat.lt_of_le_of_lt hb16_1 (by decide))
        have hE42 : M = AB ad F14 := hE20.trans ((show m_X8_drifts_19 (AB ad F14) r14 = (AB ad F14) from by unfold m_X8_drifts_19; rw [if_neg (neq_cg rfl rfl c21), if_pos (eq_cg m35 rfl c39)]).trans rfl)
        exact hret 101 _ _ _ _ dX8_drifts_101 hP14 hS14 ⟨hW14, hFr14, ⟨by omega, hM.symm.trans hE42⟩⟩
      have k43 := ci_ne rfl (show ((-1) : Int32).toInt = -1 by decide +kernel) c39
      obtain ⟨j44, hj44, rfl⟩ := nI_of_le (x := r34) (B := 7) (by omega) (by omega)
      have kj44 := nI_toInt (n := j44) (Nat.lt_of_le_of_lt hj44 (by decide))
      refine lv_aload_n S.1 S.2.1 dX8_drifts_96 rfl (lv_at hl36 2 rfl) ?_
      refine lv_iload_n S.1 S.2.1 dX8_drifts_97 rfl (lv_at hl36 0 rfl) ?_
      refine r_cVv (As := [.int (nI j44)]) (rest := []) S hK hZ hP14 hS14 hl36.1 58 (by decide) hF16 (C := RX8) rfl (c_X8_goesTo l D cA ad t hI F14 hW14 (j44) (by omega)) (cwV 1 S.2.2.2.2 gX8_drifts_X8_goesTo rfl rfl rfl (by decide +kernel) ⟨Nat.le_of_ble_eq_true rfl, Nat.le_of_ble_eq_true rfl⟩) rfl rfl (Nat.le_of_ble_eq_true rfl) ⟨Nat.zero_le _, Nat.zero_le _⟩ dX8_drifts_98 (fun F45 H45 locs45 hr45 hP45 hS45 => ?_)
      obtain ⟨hW45, hFc45, hr45⟩ := hr45
      obtain ⟨hr45, hm45⟩ := hr45
      have hFr45 := hFr14.tr hFc45 (by simp <;> first | omega | (simp only [isC, isJ] at *; omega))
      have hE47 : M = m_X8_drifts_46 (AB ad F45) (nI j44) := hE20.trans ((show m_X8_drifts_19 (AB ad F14) r14 = m_X8_drifts_46 (m_X8_goesTo (AB ad F14) (m_X8_least (AB ad F14) (m_X8_walks (AB ad F14) ((AB ad F14) 62 (rl (nI 0))) ((AB ad F14) 62 (rl (nI 5)))))) (m_X8_least (AB ad F14) (m_X8_walks (AB ad F14) ((AB ad F14) 62 (rl (nI 0))) ((AB ad F14) 62 (rl (nI 5))))) from by unfold m_X8_drifts_19; rw [if_neg (neq_cg rfl rfl c21), if_neg (neq_cg m35 rfl c39)]).trans (congr (congrArg (m_X8_drifts_46) ((congr (Eq.refl (m_X8_goesTo (AB ad F14))) m35).trans hm45)) m35))
      have hF48 := (hFc45 58 (by decide)).trans hF16
      have hA49 := fN_of (k := 14) (a := at16) hF48 rfl (Nat.lt_of_le_of_lt hb16_5 (by decide))
      have hL49 := fN_of (k := 1) (a := ty16) hF48 rfl (Nat.lt_of_le_of_lt hb16_1 (by decide))
      have hE50 : M = AB ad F45 := hE47.trans ((show m_X8_drifts_46 (AB ad F45) (nI j44) = (AB ad F45) from rfl).trans rfl)
      exact hret 101 _ _ _ _ dX8_drifts_101 hP45 hS45 ⟨hW45, hFr45, ⟨by omega, hM.symm.trans hE50⟩⟩
    have k51 := ci_eq rfl z_ti c21
    refine lv_aload_n S.1 S.2.1 dX8_drifts_46 rfl (lv_at hl0 0 rfl) ?_
    refine r_cVp (As := []) (rest := []) S hK hZ hP14 hS14 hl0.1 58 (by decide) hF16 (C := RX8) rfl (c_X8_mayStay l D cA ad t hI F14 hW14 ) (cwV 0 S.2.2.2.2 gX8_drifts_X8_mayStay rfl rfl rfl (by decide +kernel) ⟨Nat.le_of_ble_eq_true rfl, Nat.le_of_ble_eq_true rfl⟩) rfl rfl (Nat.le_of_ble_eq_true rfl) ⟨Nat.zero_le _, Nat.zero_le _⟩ dX8_drifts_47 (fun r52 hr52 => ?_)
    obtain ⟨hr52, hm52⟩ := hr52
    obtain ⟨⟨b53, hb53, rfl⟩, hx53⟩ := hr52
    obtain ⟨g54, hF54, hg54⟩ := wt_I hW14 (show (62, 7) ∈ rLI by decide)
    obtain ⟨b55, hb55, he55⟩ := (pr_S (hg54 2 (by decide))).2.1 rfl
    have hN56 := aN_of (j := 2) hF54 he55 (by omega)
    obtain ⟨g57, hF57, hg57⟩ := wt_I hW14 (show (60, 52) ∈ rLI by decide)
    obtain ⟨b58, hb58, he58⟩ := (pr_T (by decide) (hg57 0 (by decide))).1 rfl
    have hN59 := aN_of (j := 0) hF57 he58 (by omega)
    have hy53 : b53 ≠ 0 → b55 < b58 := fun q => by have h9 := hx53 (nI_ne0 (by omega) (by omega)); omega
    have m60 : (m_X8_mayStay (AB ad F14)) = (nI b53) := (Eq.refl (m_X8_mayStay (AB ad F14))).trans hm52
    refine lv_if_eq (tgt := 57) S.1 S.2.1 dX8_drifts_50 (by decide) (fun c61 => ?_) (fun c61 => ?_)
    · skip
      have k62 := ci_eq (nI_toInt (n := b53) (Nat.lt_of_le_of_lt hb53 (by decide))) z_ti c61
      refine lv_iconst (v := (nI 0)) S.1 S.2.1 dX8_drifts_57 (by decide +kernel) ?_
      refine lv_istore_n (lv' := [(1, .int (nI 0)), (0, .ref (ad 58))]) S.1 S.2.1 dX8_drifts_58 rfl hl0 (by decide) rfl (fun ls63 hl63 => ?_)
      refine lv_aload_n S.1 S.2.1 dX8_drifts_59 rfl (lv_at hl63 1 rfl) ?_
      refine lv_aload_n S.1 S.2.1 dX8_drifts_60 rfl (lv_at hl63 1 rfl) ?_
      refine r_get S hK hP14 58 (by decide) hF16 (C := RX8) (T := TX8) (N := 23) hiX8 rfl 4 (by decide) (am_at in_wsX8_drifts_0 1 rfl) (v := .ref (ad 62)) rfl dX8_drifts_61 ?_
      refine lv_iconst (v := (nI 0)) S.1 S.2.1 dX8_drifts_64 (by decide +kernel) ?_
      refine r_iald S hK hP14 62 (by decide) hF54 (vp_in_nI (show 0 < 7 by omega) (by omega)) dX8_drifts_65 ?_
      refine lv_topi (fun v65 e65 => ?_)
      obtain ⟨b66, hb66, he66⟩ := (pr_S (hg54 0 (by decide))).1 rfl
      obtain rfl : v65 = nI b66 := e65.trans he66
      have m67 : ((AB ad F14) 62 (rl (nI 0))) = (nI b66) := (ab_cg rfl rfl).trans ((AB_g hF54).trans e65.symm)
      refine lv_aload_n S.1 S.2.1 dX8_drifts_66 rfl (lv_at hl63 1 rfl) ?_
      refine r_get S hK hP14 58 (by decide) hF16 (C := RX8) (T := TX8) (N := 23) hiX8 rfl 4 (by decide) (am_at in_wsX8_drifts_0 1 rfl) (v := .ref (ad 62)) rfl dX8_drifts_67 ?_
      refine lv_iconst (v := (nI 5)) S.1 S.2.1 dX8_drifts_70 (by decide +kernel) ?_
      refine r_iald S hK hP14 62 (by decide) hF54 (vp_in_nI (show 5 < 7 by omega) (by omega)) dX8_drifts_71 ?_
      refine lv_topi (fun v69 e69 => ?_)
      have m70 : ((AB ad F14) 62 (rl (nI 5))) = v69 := (ab_cg rfl rfl).trans ((AB_g hF54).trans e69.symm)
      refine r_cVp (As := [.int (nI b66), .int v69]) (rest := []) S hK hZ hP14 hS14 hl63.1 58 (by decide) hF16 (C := RX8) rfl (c_X8_walks l D cA ad t hI F14 hW14 (nI b66) v69) (cwV 2 S.2.2.2.2 gX8_drifts_X8_walks rfl rfl rfl (by decide +kernel) ⟨Nat.le_of_ble_eq_true rfl, Nat.le_of_ble_eq_true rfl⟩) rfl rfl (Nat.le_of_ble_eq_true rfl) ⟨Nat.zero_le _, Nat.zero_le _⟩ dX8_drifts_72 (fun r71 hr71 => ?_)
      obtain ⟨hr71, hm71⟩ := hr71
      have m72 : (m_X8_walks (AB ad F14) ((AB ad F14) 62 (rl (nI 0))) ((AB ad F14) 62 (rl (nI 5)))) = r71 := (congr (congr (Eq.refl (m_X8_walks (AB ad F14))) m67) m70).trans hm71
      refine r_cSp (As := [.int r71]) (rest := []) S hK hZ hP14 hS14 hl63.1 (c_X8_least l D cA ad t hI F14 hW14 r71) (va_cwS 1 S.2.2.2.2 gX8_drifts_X8_least rfl rfl rfl (by decide +kernel) ⟨Nat.le_of_ble_eq_true rfl, Nat.le_of_ble_eq_true rfl⟩) rfl rfl (Nat.le_of_ble_eq_true rfl) ⟨Nat.zero_le _, Nat.zero_le _⟩ dX8_drifts_75 (fun r73 hr73 => ?_)
      obtain ⟨hr73, hm73⟩ := hr73
      have m74 : (m_X8_least (AB ad F14) (m_X8_walks (AB ad F14) ((AB ad F14) 62 (rl (nI 0))) ((AB ad F14) 62 (rl (nI 5))))) = r73 := (congr (Eq.refl (m_X8_least (AB ad F14))) m72).trans hm73
      refine lv_istore_n (lv' := [(2, .int r73), (1, .int (nI 0)), (0, .ref (ad 58))]) S.1 S.2.1 dX8_drifts_78 rfl hl63 (by decide) rfl (fun ls75 hl75 => ?_)
      refine lv_iload_n S.1 S.2.1 dX8_drifts_79 rfl (lv_at hl75 1 rfl) ?_
      refine lv_if_eq (tgt := 91) S.1 S.2.1 dX8_drifts_80 (by decide) (fun c76 => ?_) (fun c76 => absurd (by decide +kernel) c76)
      have k77 := ci_eq (nI_toInt (n := 0) (by decide)) z_ti c76
      refine lv_iload_n S.1 S.2.1 dX8_drifts_91 rfl (lv_at hl75 0 rfl) ?_
      refine lv_iconst (v := (-1)) S.1 S.2.1 dX8_drifts_92 (by decide +kernel) ?_
      refine lv_icmp_eq (tgt := 101) S.1 S.2.1 dX8_drifts_93 (by decide) (fun c78 => ?_) (fun c78 => ?_)
      · skip
        have k79 := ci_eq rfl (show ((-1) : Int32).toInt = -1 by decide +kernel) c78
        have hA80 := fN_of (k := 14) (a := at16) hF16 rfl (Nat.lt_of_le_of_lt hb16_5 (by decide))
        have hL80 := fN_of (k := 1) (a := ty16) hF16 rfl (Nat.lt_of_le_of_lt hb16_1 (by decide))
        have hE81 : M = AB ad F14 := hE20.trans ((show m_X8_drifts_19 (AB ad F14) r14 = (AB ad F14) from by unfold m_X8_drifts_19; rw [if_pos (eq_cg rfl rfl c21), if_pos (eq_cg m60 rfl c61), if_pos (eq_cg m74 rfl c78)]).trans rfl)
        exact hret 101 _ _ _ _ dX8_drifts_101 hP14 hS14 ⟨hW14, hFr14, ⟨by omega, hM.symm.trans hE81⟩⟩
      have k82 := ci_ne rfl (show ((-1) : Int32).toInt = -1 by decide +kernel) c78
      obtain ⟨j83, hj83, rfl⟩ := nI_of_le (x := r73) (B := 7) (by omega) (by omega)
      have kj83 := nI_toInt (n := j83) (Nat.lt_of_le_of_lt hj83 (by decide))
      refine lv_aload_n S.1 S.2.1 dX8_drifts_96 rfl (lv_at hl75 2 rfl) ?_
      refine lv_iload_n S.1 S.2.1 dX8_drifts_97 rfl (lv_at hl75 0 rfl) ?_
      refine r_cVv (As := [.int (nI j83)]) (rest := []) S hK hZ hP14 hS14 hl75.1 58 (by decide) hF16 (C := RX8) rfl (c_X8_goesTo l D cA ad t hI F14 hW14 (j83) (by omega)) (cwV 1 S.2.2.2.2 gX8_drifts_X8_goesTo rfl rfl rfl (by decide +kernel) ⟨Nat.le_of_ble_eq_true rfl, Nat.le_of_ble_eq_true rfl⟩) rfl rfl (Nat.le_of_ble_eq_true rfl) ⟨Nat.zero_le _, Nat.zero_le _⟩ dX8_drifts_98 (fun F84 H84 locs84 hr84 hP84 hS84 => ?_)
      obtain ⟨hW84, hFc84, hr84⟩ := hr84
      obtain ⟨hr84, hm84⟩ := hr84
      have hFr84 := hFr14.tr hFc84 (by simp <;> first | omega | (simp only [isC, isJ] at *; omega))
      have hE86 : M = m_X8_drifts_85 (AB ad F84) (nI j83) := hE20.trans ((show m_X8_drifts_19 (AB ad F14) r14 = m_X8_drifts_85 (m_X8_goesTo (AB ad F14) (m_X8_least (AB ad F14) (m_X8_walks (AB ad F14) ((AB ad F14) 62 (rl (nI 0))) ((AB ad F14) 62 (rl (nI 5)))))) (m_X8_least (AB ad F14) (m_X8_walks (AB ad F14) ((AB ad F14) 62 (rl (nI 0))) ((AB ad F14) 62 (rl (nI 5))))) from by unfold m_X8_drifts_19; rw [if_pos (eq_cg rfl rfl c21), if_pos (eq_cg m60 rfl c61), if_neg (neq_cg m74 rfl c78)]).trans (congr (congrArg (m_X8_drifts_85) ((congr (Eq.refl (m_X8_goesTo (AB ad F14))) m74).trans hm84)) m74))
      have hF87 := (hFc84 58 (by decide)).trans hF16
      have hA88 := fN_of (k := 14) (a := at16) hF87 rfl (Nat.lt_of_le_of_lt hb16_5 (by decide))
      have hL88 := fN_of (k := 1) (a := ty16) hF87 rfl (Nat.lt_of_le_of_lt hb16_1 (by decide))
      have hE89 : M = AB ad F84 := hE86.trans ((show m_X8_drifts_85 (AB ad F84) (nI j83) = (AB ad F84) from rfl).trans rfl)
      exact hret 101 _ _ _ _ dX8_drifts_101 hP84 hS84 ⟨hW84, hFr84, ⟨by omega, hM.symm.trans hE89⟩⟩
    have k90 := ci_ne (nI_toInt (n := b53) (Nat.lt_of_le_of_lt hb53 (by decide))) z_ti c61
    refine lv_iconst (v := (nI 1)) S.1 S.2.1 dX8_drifts_53 (by decide +kernel) ?_
    refine lv_goto (tgt := 58) S.1 S.2.1 dX8_drifts_54 (by decide) ?_
    refine lv_istore_n (lv' := [(1, .int (nI 1)), (0, .ref (ad 58))]) S.1 S.2.1 dX8_drifts_58 rfl hl0 (by decide) rfl (fun ls91 hl91 => ?_)
    refine lv_aload_n S.1 S.2.1 dX8_drifts_59 rfl (lv_at hl91 1 rfl) ?_
    refine lv_aload_n S.1 S.2.1 dX8_drifts_60 rfl (lv_at hl91 1 rfl) ?_
    refine r_get S hK hP14 58 (by decide) hF16 (C := RX8) (T := TX8) (N := 23) hiX8 rfl 4 (by decide) (am_at in_wsX8_drifts_0 1 rfl) (v := .ref (ad 62)) rfl dX8_drifts_61 ?_
    refine lv_iconst (v := (nI 0)) S.1 S.2.1 dX8_drifts_64 (by decide +kernel) ?_
    refine r_iald S hK hP14 62 (by decide) hF54 (vp_in_nI (show 0 < 7 by omega) (by omega)) dX8_drifts_65 ?_
    refine lv_topi (fun v93 e93 => ?_)
    obtain ⟨b94, hb94, he94⟩ := (pr_S (hg54 0 (by decide))).1 rfl
    obtain rfl : v93 = nI b94 := e93.trans he94
    have m95 : ((AB ad F14) 62 (rl (nI 0))) = (nI b94) := (ab_cg rfl rfl).trans ((AB_g hF54).trans e93.symm)
    refine lv_aload_n S.1 S.2.1 dX8_drifts_66 rfl (lv_at hl91 1 rfl) ?_
    refine r_get S hK hP14 58 (by decide) hF16 (C := RX8) (T := TX8) (N := 23) hiX8 rfl 4 (by decide) (am_at in_wsX8_drifts_0 1 rfl) (v := .ref (ad 62)) rfl dX8_drifts_67 ?_
    refine lv_iconst (v := (nI 5)) S.1 S.2.1 dX8_drifts_70 (by decide +kernel) ?_
    refine r_iald S hK hP14 62 (by decide) hF54 (vp_in_nI (show 5 < 7 by omega) (by omega)) dX8_drifts_71 ?_
    refine lv_topi (fun v97 e97 => ?_)
    have m98 : ((AB ad F14) 62 (rl (nI 5))) = v97 := (ab_cg rfl rfl).trans ((AB_g hF54).trans e97.symm)
    refine r_cVp (As := [.int (nI b94), .int v97]) (rest := []) S hK hZ hP14 hS14 hl91.1 58 (by decide) hF16 (C := RX8) rfl (c_X8_walks l D cA ad t hI F14 hW14 (nI b94) v97) (cwV 2 S.2.2.2.2 gX8_drifts_X8_walks rfl rfl rfl (by decide +kernel) ⟨Nat.le_of_ble_eq_true rfl, Nat.le_of_ble_eq_true rfl⟩) rfl rfl (Nat.le_of_ble_eq_true rfl) ⟨Nat.zero_le _, Nat.zero_le _⟩ dX8_drifts_72 (fun r99 hr99 => ?_)
    obtain ⟨hr99, hm99⟩ := hr99
    have m100 : (m_X8_walks (AB ad F14) ((AB ad F14) 62 (rl (nI 0))) ((AB ad F14) 62 (rl (nI 5)))) = r99 := (congr (congr (Eq.refl (m_X8_walks (AB ad F14))) m95) m98).trans hm99
    refine r_cSp (As := [.int r99]) (rest := []) S hK hZ hP14 hS14 hl91.1 (c_X8_least l D cA ad t hI F14 hW14 r99) (va_cwS 1 S.2.2.2.2 gX8_drifts_X8_least rfl rfl rfl (by decide +kernel) ⟨Nat.le_of_ble_eq_true rfl, Nat.le_of_ble_eq_true rfl⟩) rfl rfl (Nat.le_of_ble_eq_true rfl) ⟨Nat.zero_le _, Nat.zero_le _⟩ dX8_drifts_75 (fun r101 hr101 => ?_)
    obtain ⟨hr101, hm101⟩ := hr101
    have m102 : (m_X8_least (AB ad F14) (m_X8_walks (AB ad F14) ((AB ad F14) 62 (rl (nI 0))) ((AB ad F14) 62 (rl (nI 5))))) = r101 := (congr (Eq.refl (m_X8_least (AB ad F14))) m100).trans hm101
    refine lv_istore_n (lv' := [(2, .int r101), (1, .int (nI 1)), (0, .ref (ad 58))]) S.1 S.2.1 dX8_drifts_78 rfl hl91 (by decide) rfl (fun ls103 hl103 => ?_)
    refine lv_iload_n S.1 S.2.1 dX8_drifts_79 rfl (lv_at hl103 1 rfl) ?_
    refine lv_if_eq (tgt := 91) S.1 S.2.1 dX8_drifts_80 (by decide) (fun c104 => absurd c104 (by decide +kernel)) (fun c104 => ?_)
    have k105 := ci_ne (nI_toInt (n := 1) (by decide)) z_ti c104
    refine lv_aload_n S.1 S.2.1 dX8_drifts_83 rfl (lv_at hl103 2 rfl) ?_
    have hN107 := aN_of (j := 2) hF54 he55 (by omega)
    have hN108 := aN_of (j := 0) hF57 he58 (by omega)
    refine r_cVi (As := []) (rest := []) S hK hZ hP14 hS14 hl103.1 58 (by decide) hF16 (C := RX8) rfl (c_X8_stays l D cA ad t hI F14 hW14 (by omega)) (cwV 0 S.2.2.2.2 gX8_drifts_X8_stays rfl rfl rfl (by decide +kernel) ⟨Nat.le_of_ble_eq_true rfl, Nat.le_of_ble_eq_true rfl⟩) rfl rfl (Nat.le_of_ble_eq_true rfl) ⟨Nat.zero_le _, Nat.zero_le _⟩ dX8_drifts_84 (fun r106 F106 H106 locs106 hr106 hP106 hS106 => ?_)
    obtain ⟨hW106, hFc106, hr106⟩ := hr106
    obtain ⟨hr106, hm106⟩ := hr106
    have hFr106 := hFr14.tr hFc106 (by simp <;> first | omega | (simp only [isC, isJ] at *; omega))
    have mc109 : (m_X8_stays (AB ad F14)) = (r106, AB ad F106) := (Eq.refl (m_X8_stays (AB ad F14))).trans hm106
    have hE111 : M = m_X8_drifts_110 (AB ad F106) r101 r106 := hE20.trans ((show m_X8_drifts_19 (AB ad F14) r14 = m_X8_drifts_110 ((m_X8_stays (AB ad F14))).2 (m_X8_least (AB ad F14) (m_X8_walks (AB ad F14) ((AB ad F14) 62 (rl (nI 0))) ((AB ad F14) 62 (rl (nI 5))))) ((m_X8_stays (AB ad F14))).1 from by unfold m_X8_drifts_19; rw [if_pos (eq_cg rfl rfl c21), if_neg (neq_cg m60 rfl c61)]).trans (congr (congr (congrArg (m_X8_drifts_110) (congrArg Prod.snd mc109)) m102) (congrArg Prod.fst mc109)))
    refine lv_pop S.1 S.2.1 dX8_drifts_87 rfl ?_
    refine lv_goto (tgt := 101) S.1 S.2.1 dX8_drifts_88 (by decide) ?_
    have hF112 := (hFc106 58 (by decide)).trans hF16
    have hA113 := fN_of (k := 14) (a := at16) hF112 rfl (Nat.lt_of_le_of_lt hb16_5 (by decide))
    have hL113 := fN_of (k := 1) (a := ty16) hF112 rfl (Nat.lt_of_le_of_lt hb16_1 (by decide))
    have hE114 : M = AB ad F106 := hE111.trans ((show m_X8_drifts_110 (AB ad F106) r101 r106 = (AB ad F106) from rfl).trans rfl)
    exact hret 101 _ _ _ _ dX8_drifts_101 hP106 hS106 ⟨hW106, hFr106, ⟨by omega, hM.symm.trans hE114⟩⟩
  have k115 := ci_eq rfl z_ti c11
  refine lv_aload_n S.1 S.2.1 dX8_drifts_8 rfl (lv_at hl0 0 rfl) ?_
  refine r_get S hK hP4 58 (by decide) hF6 (C := RX8) (T := TX8) (N := 23) hiX8 rfl 2 (by decide) (am_at in_wsX8_drifts_0 0 rfl) (v := .ref (ad 60)) rfl dX8_drifts_9 ?_
  refine lv_iconst (v := (nI 3)) S.1 S.2.1 dX8_drifts_12 (by decide +kernel) ?_
  obtain ⟨g116, hF116, hg116⟩ := wt_I hW4 (show (60, 52) ∈ rLI by decide)
  refine r_iald S hK hP4 60 (by decide) hF116 (vp_in_nI (show 3 < 52 by omega) (by omega)) dX8_drifts_13 ?_
  refine lv_topi (fun v118 e118 => ?_)
  obtain ⟨b119, hb119, he119⟩ := (pr_T (by decide) (hg116 3 (by decide))).2.2 rfl
  obtain rfl : v118 = nI b119 := e118.trans he119
  have m120 : ((AB ad F4) 60 (rl (nI 3))) = (nI b119) := (ab_cg rfl rfl).trans ((AB_g hF116).trans e118.symm)
  refine lv_if_le (tgt := 38) S.1 S.2.1 dX8_drifts_14 (by decide) (fun c121 => ?_) (fun c121 => ?_)
  · skip
    have k122 := ci_le (nI_toInt (n := b119) (Nat.lt_of_le_of_lt hb119 (by decide))) z_ti c121
    refine lv_aload_n S.1 S.2.1 dX8_drifts_38 rfl (lv_at hl0 0 rfl) ?_
    refine lv_iconst (v := (nI 2)) S.1 S.2.1 dX8_drifts_39 (by decide +kernel) ?_
    have hA123 := fN_of (k := 14) (a := at6) hF6 rfl (Nat.lt_of_le_of_lt hb6_5 (by decide))
    have hL123 := fN_of (k := 1) (a := ty6) hF6 rfl (Nat.lt_of_le_of_lt hb6_1 (by decide))
    refine r_cVi (As := [.int (nI 2)]) (rest := []) S hK hZ hP4 hS4 hl0.1 58 (by decide) hF6 (C := RX8) rfl (c_X8_draw l D cA ad t hI F4 hW4 (nI 2) (by decide +kernel)) (cwV 1 S.2.2.2.2 gX8_drifts_X8_draw rfl rfl rfl (by decide +kernel) ⟨Nat.le_of_ble_eq_true rfl, Nat.le_of_ble_eq_true rfl⟩) rfl rfl (Nat.le_of_ble_eq_true rfl) ⟨Nat.zero_le _, Nat.zero_le _⟩ dX8_drifts_40 (fun r124 F124 H124 locs124 hr124 hP124 hS124 => ?_)
    obtain ⟨hW124, hFc124, hr124⟩ := hr124
    obtain ⟨hr124, hm124⟩ := hr124
    have hFr124 := hFr4.tr hFc124 (by simp <;> first | omega | (simp only [isC, isJ] at *; omega))
    obtain ⟨ty126, kn126, no126, en126, at126, sa126, sd126, wr126, pl126, va126, hF126, hb126_1, hb126_2, hb126_3, hb126_4, hb126_5, hb126_6⟩ := wt_m hW124
    have hA127 := fN_of (k := 14) (a := at126) hF126 rfl (Nat.lt_of_le_of_lt hb126_5 (by decide))
    have hL127 := fN_of (k := 1) (a := ty126) hF126 rfl (Nat.lt_of_le_of_lt hb126_1 (by decide))
    have mc128 : (m_X8_draw (AB ad F4) (nI 2)) = (r124, AB ad F124) := (congr (Eq.refl (m_X8_draw (AB ad F4))) (Eq.refl ((nI 2) : Int32))).trans hm124
    have hE130 : M = m_X8_drifts_129 (AB ad F124) r124 := hE10.trans ((show m_X8_drifts_9 (AB ad F4) r4 = m_X8_drifts_129 ((m_X8_draw (AB ad F4) (nI 2))).2 ((m_X8_draw (AB ad F4) (nI 2))).1 from by unfold m_X8_drifts_9; rw [if_pos (eq_cg rfl rfl c11), if_pos (le_cg m120 rfl c121)]).trans (congr (congrArg (m_X8_drifts_129) (congrArg Prod.snd mc128)) (congrArg Prod.fst mc128)))
    refine lv_if_ne (tgt := 57) S.1 S.2.1 dX8_drifts_43 (by decide) (fun c131 => ?_) (fun c131 => ?_)
    · skip
      have k132 := ci_ne rfl z_ti c131
      refine lv_iconst (v := (nI 0)) S.1 S.2.1 dX8_drifts_57 (by decide +kernel) ?_
      refine lv_istore_n (lv' := [(1, .int (nI 0)), (0, .ref (ad 58))]) S.1 S.2.1 dX8_drifts_58 rfl hl0 (by decide) rfl (fun ls133 hl133 => ?_)
      refine lv_aload_n S.1 S.2.1 dX8_drifts_59 rfl (lv_at hl133 1 rfl) ?_
      refine lv_aload_n S.1 S.2.1 dX8_drifts_60 rfl (lv_at hl133 1 rfl) ?_
      refine r_get S hK hP124 58 (by decide) hF126 (C := RX8) (T := TX8) (N := 23) hiX8 rfl 4 (by decide) (am_at in_wsX8_drifts_0 1 rfl) (v := .ref (ad 62)) rfl dX8_drifts_61 ?_
      refine lv_iconst (v := (nI 0)) S.1 S.2.1 dX8_drifts_64 (by decide +kernel) ?_
      obtain ⟨g134, hF134, hg134⟩ := wt_I hW124 (show (62, 7) ∈ rLI by decide)
      refine r_iald S hK hP124 62 (by decide) hF134 (vp_in_nI (show 0 < 7 by omega) (by omega)) dX8_drifts_65 ?_
      refine lv_topi (fun v136 e136 => ?_)
      obtain ⟨b137, hb137, he137⟩ := (pr_S (hg134 0 (by decide))).1 rfl
      obtain rfl : v136 = nI b137 := e136.trans he137
      have m138 : ((AB ad F124) 62 (rl (nI 0))) = (nI b137) := (ab_cg rfl rfl).trans ((AB_g hF134).trans e136.symm)
      refine lv_aload_n S.1 S.2.1 dX8_drifts_66 rfl (lv_at hl133 1 rfl) ?_
      refine r_get S hK hP124 58 (by decide) hF126 (C := RX8) (T := TX8) (N := 23) hiX8 rfl 4 (by decide) (am_at in_wsX8_drifts_0 1 rfl) (v := .ref (ad 62)) rfl dX8_drifts_67 ?_
      refine lv_iconst (v := (nI 5)) S.1 S.2.1 dX8_drifts_70 (by decide +kernel) ?_
      refine r_iald S hK hP124 62 (by decide) hF134 (vp_in_nI (show 5 < 7 by omega) (by omega)) dX8_drifts_71 ?_
      refine lv_topi (fun v140 e140 => ?_)
      have m141 : ((AB ad F124) 62 (rl (nI 5))) = v140 := (ab_cg rfl rfl).trans ((AB_g hF134).trans e140.symm)
      refine r_cVp (As := [.int (nI b137), .int v140]) (rest := []) S hK hZ hP124 hS124 hl133.1 58 (by decide) hF126 (C := RX8) rfl (c_X8_walks l D cA ad t hI F124 hW124 (nI b137) v140) (cwV 2 S.2.2.2.2 gX8_drifts_X8_walks rfl rfl rfl (by decide +kernel) ⟨Nat.le_of_ble_eq_true rfl, Nat.le_of_ble_eq_true rfl⟩) rfl rfl (Nat.le_of_ble_eq_true rfl) ⟨Nat.zero_le _, Nat.zero_le _⟩ dX8_drifts_72 (fun r142 hr142 => ?_)
      obtain ⟨hr142, hm142⟩ := hr142
      have m143 : (m_X8_walks (AB ad F124) ((AB ad F124) 62 (rl (nI 0))) ((AB ad F124) 62 (rl (nI 5)))) = r142 := (congr (congr (Eq.refl (m_X8_walks (AB ad F124))) m138) m141).trans hm142
      refine r_cSp (As := [.int r142]) (rest := []) S hK hZ hP124 hS124 hl133.1 (c_X8_least l D cA ad t hI F124 hW124 r142) (va_cwS 1 S.2.2.2.2 gX8_drifts_X8_least rfl rfl rfl (by decide +kernel) ⟨Nat.le_of_ble_eq_true rfl, Nat.le_of_ble_eq_true rfl⟩) rfl rfl (Nat.le_of_ble_eq_true rfl) ⟨Nat.zero_le _, Nat.zero_le _⟩ dX8_drifts_75 (fun r144 hr144 => ?_)
      obtain ⟨hr144, hm144⟩ := hr144
      have m145 : (m_X8_least (AB ad F124) (m_X8_walks (AB ad F124) ((AB ad F124) 62 (rl (nI 0))) ((AB ad F124) 62 (rl (nI 5))))) = r144 := (congr (Eq.refl (m_X8_least (AB ad F124))) m143).trans hm144
      refine lv_istore_n (lv' := [(2, .int r144), (1, .int (nI 0)), (0, .ref (ad 58))]) S.1 S.2.1 dX8_drifts_78 rfl hl133 (by decide) rfl (fun ls146 hl146 => ?_)
      refine lv_iload_n S.1 S.2.1 dX8_drifts_79 rfl (lv_at hl146 1 rfl) ?_
      refine lv_if_eq (tgt := 91) S.1 S.2.1 dX8_drifts_80 (by decide) (fun c147 => ?_) (fun c147 => absurd (by decide +kernel) c147)
      have k148 := ci_eq (nI_toInt (n := 0) (by decide)) z_ti c147
      refine lv_iload_n S.1 S.2.1 dX8_drifts_91 rfl (lv_at hl146 0 rfl) ?_
      refine lv_iconst (v := (-1)) S.1 S.2.1 dX8_drifts_92 (by decide +kernel) ?_
      refine lv_icmp_eq (tgt := 101) S.1 S.2.1 dX8_drifts_93 (by decide) (fun c149 => ?_) (fun c149 => ?_)
      · skip
        have k150 := ci_eq rfl (show ((-1) : Int32).toInt = -1 by decide +kernel) c149
        have hA151 := fN_of (k := 14) (a := at126) hF126 rfl (Nat.lt_of_le_of_lt hb126_5 (by decide))
        have hL151 := fN_of (k := 1) (a := ty126) hF126 rfl (Nat.lt_of_le_of_lt hb126_1 (by decide))
        have hE152 : M = AB ad F124 := hE130.trans ((show m_X8_drifts_129 (AB ad F124) r124 = (AB ad F124) from by unfold m_X8_drifts_129; rw [if_neg (neq_cg rfl rfl c131), if_pos (eq_cg m145 rfl c149)]).trans rfl)
        exact hret 101 _ _ _ _ dX8_drifts_101 hP124 hS124 ⟨hW124, hFr124, ⟨by omega, hM.symm.trans hE152⟩⟩
      have k153 := ci_ne rfl (show ((-1) : Int32).toInt = -1 by decide +kernel) c149
      obtain ⟨j154, hj154, rfl⟩ := nI_of_le (x := r144) (B := 7) (by omega) (by omega)
      have kj154 := nI_toInt (n := j154) (Nat.lt_of_le_of_lt hj154 (by decide))
      refine lv_aload_n S.1 S.2.1 dX8_drifts_96 rfl (lv_at hl146 2 rfl) ?_
      refine lv_iload_n S.1 S.2.1 dX8_drifts_97 rfl (lv_at hl146 0 rfl) ?_
      refine r_cVv (As := [.int (nI j154)]) (rest := []) S hK hZ hP124 hS124 hl146.1 58 (by decide) hF126 (C := RX8) rfl (c_X8_goesTo l D cA ad t hI F124 hW124 (j154) (by omega)) (cwV 1 S.2.2.2.2 gX8_drifts_X8_goesTo rfl rfl rfl (by decide +kernel) ⟨Nat.le_of_ble_eq_true rfl, Nat.le_of_ble_eq_true rfl⟩) rfl rfl (Nat.le_of_ble_eq_true rfl) ⟨Nat.zero_le _, Nat.zero_le _⟩ dX8_drifts_98 (fun F155 H155 locs155 hr155 hP155 hS155 => ?_)
      obtain ⟨hW155, hFc155, hr155⟩ := hr155
      obtain ⟨hr155, hm155⟩ := hr155
      have hFr155 := hFr124.tr hFc155 (by simp <;> first | omega | (simp only [isC, isJ] at *; omega))
      have hE157 : M = m_X8_drifts_156 (AB ad F155) (nI j154) := hE130.trans ((show m_X8_drifts_129 (AB ad F124) r124 = m_X8_drifts_156 (m_X8_goesTo (AB ad F124) (m_X8_least (AB ad F124) (m_X8_walks (AB ad F124) ((AB ad F124) 62 (rl (nI 0))) ((AB ad F124) 62 (rl (nI 5)))))) (m_X8_least (AB ad F124) (m_X8_walks (AB ad F124) ((AB ad F124) 62 (rl (nI 0))) ((AB ad F124) 62 (rl (nI 5))))) from by unfold m_X8_drifts_129; rw [if_neg (neq_cg rfl rfl c131), if_neg (neq_cg m145 rfl c149)]).trans (congr (congrArg (m_X8_drifts_156) ((congr (Eq.refl (m_X8_goesTo (AB ad F124))) m145).trans hm155)) m145))
      have hF158 := (hFc155 58 (by decide)).trans hF126
      have hA159 := fN_of (k := 14) (a := at126) hF158 rfl (Nat.lt_of_le_of_lt hb126_5 (by decide))
      have hL159 := fN_of (k := 1) (a := ty126) hF158 rfl (Nat.lt_of_le_of_lt hb126_1 (by decide))
      have hE160 : M = AB ad F155 := hE157.trans ((show m_X8_drifts_156 (AB ad F155) (nI j154) = (AB ad F155) from rfl).trans rfl)
      exact hret 101 _ _ _ _ dX8_drifts_101 hP155 hS155 ⟨hW155, hFr155, ⟨by omega, hM.symm.trans hE160⟩⟩
    have k161 := ci_eq rfl z_ti c131
    refine lv_aload_n S.1 S.2.1 dX8_drifts_46 rfl (lv_at hl0 0 rfl) ?_
    refine r_cVp (As := []) (rest := []) S hK hZ hP124 hS124 hl0.1 58 (by decide) hF126 (C := RX8) rfl (c_X8_mayStay l D cA ad t hI F124 hW124 ) (cwV 0 S.2.2.2.2 gX8_drifts_X8_mayStay rfl rfl rfl (by decide +kernel) ⟨Nat.le_of_ble_eq_true rfl, Nat.le_of_ble_eq_true rfl⟩) rfl rfl (Nat.le_of_ble_eq_true rfl) ⟨Nat.zero_le _, Nat.zero_le _⟩ dX8_drifts_47 (fun r162 hr162 => ?_)
    obtain ⟨hr162, hm162⟩ := hr162
    obtain ⟨⟨b163, hb163, rfl⟩, hx163⟩ := hr162
    obtain ⟨g164, hF164, hg164⟩ := wt_I hW124 (show (62, 7) ∈ rLI by decide)
    obtain ⟨b165, hb165, he165⟩ := (pr_S (hg164 2 (by decide))).2.1 rfl
    have hN166 := aN_of (j := 2) hF164 he165 (by omega)
    have hF167 := (hFc124 60 (by decide)).trans hF116
    obtain ⟨b168, hb168, he168⟩ := (pr_T (by decide) (hg116 0 (by decide))).1 rfl
    have hN169 := aN_of (j := 0) hF167 he168 (by omega)
    have hy163 : b163 ≠ 0 → b165 < b168 := fun q => by have h9 := hx163 (nI_ne0 (by omega) (by omega)); omega
    have m170 : (m_X8_mayStay (AB ad F124)) = (nI b163) := (Eq.refl (m_X8_mayStay (AB ad F124))).trans hm162
    refine lv_if_eq (tgt := 57) S.1 S.2.1 dX8_drifts_50 (by decide) (fun c171 => ?_) (fun c171 => ?_)
    · skip
      have k172 := ci_eq (nI_toInt (n := b163) (Nat.lt_of_le_of_lt hb163 (by decide))) z_ti c171
      refine lv_iconst (v := (nI 0)) S.1 S.2.1 dX8_drifts_57 (by decide +kernel) ?_
      refine lv_istore_n (lv' := [(1, .int (nI 0)), (0, .ref (ad 58))]) S.1 S.2.1 dX8_drifts_58 rfl hl0 (by decide) rfl (fun ls173 hl173 => ?_)
      refine lv_aload_n S.1 S.2.1 dX8_drifts_59 rfl (lv_at hl173 1 rfl) ?_
      refine lv_aload_n S.1 S.2.1 dX8_drifts_60 rfl (lv_at hl173 1 rfl) ?_
      refine r_get S hK hP124 58 (by decide) hF126 (C := RX8) (T := TX8) (N := 23) hiX8 rfl 4 (by decide) (am_at in_wsX8_drifts_0 1 rfl) (v := .ref (ad 62)) rfl dX8_drifts_61 ?_
      refine lv_iconst (v := (nI 0)) S.1 S.2.1 dX8_drifts_64 (by decide +kernel) ?_
      refine r_iald S hK hP124 62 (by decide) hF164 (vp_in_nI (show 0 < 7 by omega) (by omega)) dX8_drifts_65 ?_
      refine lv_topi (fun v175 e175 => ?_)
      obtain ⟨b176, hb176, he176⟩ := (pr_S (hg164 0 (by decide))).1 rfl
      obtain rfl : v175 = nI b176 := e175.trans he176
      have m177 : ((AB ad F124) 62 (rl (nI 0))) = (nI b176) := (ab_cg rfl rfl).trans ((AB_g hF164).trans e175.symm)
      refine lv_aload_n S.1 S.2.1 dX8_drifts_66 rfl (lv_at hl173 1 rfl) ?_
      refine r_get S hK hP124 58 (by decide) hF126 (C := RX8) (T := TX8) (N := 23) hiX8 rfl 4 (by decide) (am_at in_wsX8_drifts_0 1 rfl) (v := .ref (ad 62)) rfl dX8_drifts_67 ?_
      refine lv_iconst (v := (nI 5)) S.1 S.2.1 dX8_drifts_70 (by decide +kernel) ?_
      refine r_iald S hK hP124 62 (by decide) hF164 (vp_in_nI (show 5 < 7 by omega) (by omega)) dX8_drifts_71 ?_
      refine lv_topi (fun v179 e179 => ?_)
      have m180 : ((AB ad F124) 62 (rl (nI 5))) = v179 := (ab_cg rfl rfl).trans ((AB_g hF164).trans e179.symm)
      refine r_cVp (As := [.int (nI b176), .int v179]) (rest := []) S hK hZ hP124 hS124 hl173.1 58 (by decide) hF126 (C := RX8) rfl (c_X8_walks l D cA ad t hI F124 hW124 (nI b176) v179) (cwV 2 S.2.2.2.2 gX8_drifts_X8_walks rfl rfl rfl (by decide +kernel) ⟨Nat.le_of_ble_eq_true rfl, Nat.le_of_ble_eq_true rfl⟩) rfl rfl (Nat.le_of_ble_eq_true rfl) ⟨Nat.zero_le _, Nat.zero_le _⟩ dX8_drifts_72 (fun r181 hr181 => ?_)
      obtain ⟨hr181, hm181⟩ := hr181
      have m182 : (m_X8_walks (AB ad F124) ((AB ad F124) 62 (rl (nI 0))) ((AB ad F124) 62 (rl (nI 5)))) = r181 := (congr (congr (Eq.refl (m_X8_walks (AB ad F124))) m177) m180).trans hm181
      refine r_cSp (As := [.int r181]) (rest := []) S hK hZ hP124 hS124 hl173.1 (c_X8_least l D cA ad t hI F124 hW124 r181) (va_cwS 1 S.2.2.2.2 gX8_drifts_X8_least rfl rfl rfl (by decide +kernel) ⟨Nat.le_of_ble_eq_true rfl, Nat.le_of_ble_eq_true rfl⟩) rfl rfl (Nat.le_of_ble_eq_true rfl) ⟨Nat.zero_le _, Nat.zero_le _⟩ dX8_drifts_75 (fun r183 hr183 => ?_)
      obtain ⟨hr183, hm183⟩ := hr183
      have m184 : (m_X8_least (AB ad F124) (m_X8_walks (AB ad F124) ((AB ad F124) 62 (rl (nI 0))) ((AB ad F124) 62 (rl (nI 5))))) = r183 := (congr (Eq.refl (m_X8_least (AB ad F124))) m182).trans hm183
      refine lv_istore_n (lv' := [(2, .int r183), (1, .int (nI 0)), (0, .ref (ad 58))]) S.1 S.2.1 dX8_drifts_78 rfl hl173 (by decide) rfl (fun ls185 hl185 => ?_)
      refine lv_iload_n S.1 S.2.1 dX8_drifts_79 rfl (lv_at hl185 1 rfl) ?_
      refine lv_if_eq (tgt := 91) S.1 S.2.1 dX8_drifts_80 (by decide) (fun c186 => ?_) (fun c186 => absurd (by decide +kernel) c186)
      have k187 := ci_eq (nI_toInt (n := 0) (by decide)) z_ti c186
      refine lv_iload_n S.1 S.2.1 dX8_drifts_91 rfl (lv_at hl185 0 rfl) ?_
      refine lv_iconst (v := (-1)) S.1 S.2.1 dX8_drifts_92 (by decide +kernel) ?_
      refine lv_icmp_eq (tgt := 101) S.1 S.2.1 dX8_drifts_93 (by decide) (fun c188 => ?_) (fun c188 => ?_)
      · skip
        have k189 := ci_eq rfl (show ((-1) : Int32).toInt = -1 by decide +kernel) c188
        have hA190 := fN_of (k := 14) (a := at126) hF126 rfl (Nat.lt_of_le_of_lt hb126_5 (by decide))
        have hL190 := fN_of (k := 1) (a := ty126) hF126 rfl (Nat.lt_of_le_of_lt hb126_1 (by decide))
        have hE191 : M = AB ad F124 := hE130.trans ((show m_X8_drifts_129 (AB ad F124) r124 = (AB ad F124) from by unfold m_X8_drifts_129; rw [if_pos (eq_cg rfl rfl c131), if_pos (eq_cg m170 rfl c171), if_pos (eq_cg m184 rfl c188)]).trans rfl)
        exact hret 101 _ _ _ _ dX8_drifts_101 hP124 hS124 ⟨hW124, hFr124, ⟨by omega, hM.symm.trans hE191⟩⟩
      have k192 := ci_ne rfl (show ((-1) : Int32).toInt = -1 by decide +kernel) c188
      obtain ⟨j193, hj193, rfl⟩ := nI_of_le (x := r183) (B := 7) (by omega) (by omega)
      have kj193 := nI_toInt (n := j193) (Nat.lt_of_le_of_lt hj193 (by decide))
      refine lv_aload_n S.1 S.2.1 dX8_drifts_96 rfl (lv_at hl185 2 rfl) ?_
      refine lv_iload_n S.1 S.2.1 dX8_drifts_97 rfl (lv_at hl185 0 rfl) ?_
      refine r_cVv (As := [.int (nI j193)]) (rest := []) S hK hZ hP124 hS124 hl185.1 58 (by decide) hF126 (C := RX8) rfl (c_X8_goesTo l D cA ad t hI F124 hW124 (j193) (by omega)) (cwV 1 S.2.2.2.2 gX8_drifts_X8_goesTo rfl rfl rfl (by decide +kernel) ⟨Nat.le_of_ble_eq_true rfl, Nat.le_of_ble_eq_true rfl⟩) rfl rfl (Nat.le_of_ble_eq_true rfl) ⟨Nat.zero_le _, Nat.zero_le _⟩ dX8_drifts_98 (fun F194 H194 locs194 hr194 hP194 hS194 => ?_)
      obtain ⟨hW194, hFc194, hr194⟩ := hr194
      obtain ⟨hr194, hm194⟩ := hr194
      have hFr194 := hFr124.tr hFc194 (by simp <;> first | omega | (simp only [isC, isJ] at *; omega))
      have hE196 : M = m_X8_drifts_195 (AB ad F194) (nI j193) := hE130.trans ((show m_X8_drifts_129 (AB ad F124) r124 = m_X8_drifts_195 (m_X8_goesTo (AB ad F124) (m_X8_least (AB ad F124) (m_X8_walks (AB ad F124) ((AB ad F124) 62 (rl (nI 0))) ((AB ad F124) 62 (rl (nI 5)))))) (m_X8_least (AB ad F124) (m_X8_walks (AB ad F124) ((AB ad F124) 62 (rl (nI 0))) ((AB ad F124) 62 (rl (nI 5))))) from by unfold m_X8_drifts_129; rw [if_pos (eq_cg rfl rfl c131), if_pos (eq_cg m170 rfl c171), if_neg (neq_cg m184 rfl c188)]).trans (congr (congrArg (m_X8_drifts_195) ((congr (Eq.refl (m_X8_goesTo (AB ad F124))) m184).trans hm194)) m184))
      have hF197 := (hFc194 58 (by decide)).trans hF126
      have hA198 := fN_of (k := 14) (a := at126) hF197 rfl (Nat.lt_of_le_of_lt hb126_5 (by decide))
      have hL198 := fN_of (k := 1) (a := ty126) hF197 rfl (Nat.lt_of_le_of_lt hb126_1 (by decide))
      have hE199 : M = AB ad F194 := hE196.trans ((show m_X8_drifts_195 (AB ad F194) (nI j193) = (AB ad F194) from rfl).trans rfl)
      exact hret 101 _ _ _ _ dX8_drifts_101 hP194 hS194 ⟨hW194, hFr194, ⟨by omega, hM.symm.trans hE199⟩⟩
    have k200 := ci_ne (nI_toInt (n := b163) (Nat.lt_of_le_of_lt hb163 (by decide))) z_ti c171
    refine lv_iconst (v := (nI 1)) S.1 S.2.1 dX8_drifts_53 (by decide +kernel) ?_
    refine lv_goto (tgt := 58) S.1 S.2.1 dX8_drifts_54 (by decide) ?_
    refine lv_istore_n (lv' := [(1, .int (nI 1)), (0, .ref (ad 58))]) S.1 S.2.1 dX8_drifts_58 rfl hl0 (by decide) rfl (fun ls201 hl201 => ?_)
    refine lv_aload_n S.1 S.2.1 dX8_drifts_59 rfl (lv_at hl201 1 rfl) ?_
    refine lv_aload_n S.1 S.2.1 dX8_drifts_60 rfl (lv_at hl201 1 rfl) ?_
    refine r_get S hK hP124 58 (by decide) hF126 (C := RX8) (T := TX8) (N := 23) hiX8 rfl 4 (by decide) (am_at in_wsX8_drifts_0 1 rfl) (v := .ref (ad 62)) rfl dX8_drifts_61 ?_
    refine lv_iconst (v := (nI 0)) S.1 S.2.1 dX8_drifts_64 (by decide +kernel) ?_
    refine r_iald S hK hP124 62 (by decide) hF164 (vp_in_nI (show 0 < 7 by omega) (by omega)) dX8_drifts_65 ?_
    refine lv_topi (fun v203 e203 => ?_)
    obtain ⟨b204, hb204, he204⟩ := (pr_S (hg164 0 (by decide))).1 rfl
    obtain rfl : v203 = nI b204 := e203.trans he204
    have m205 : ((AB ad F124) 62 (rl (nI 0))) = (nI b204) := (ab_cg rfl rfl).trans ((AB_g hF164).trans e203.symm)
    refine lv_aload_n S.1 S.2.1 dX8_drifts_66 rfl (lv_at hl201 1 rfl) ?_
    refine r_get S hK hP124 58 (by decide) hF126 (C := RX8) (T := TX8) (N := 23) hiX8 rfl 4 (by decide) (am_at in_wsX8_drifts_0 1 rfl) (v := .ref (ad 62)) rfl dX8_drifts_67 ?_
    refine lv_iconst (v := (nI 5)) S.1 S.2.1 dX8_drifts_70 (by decide +kernel) ?_
    refine r_iald S hK hP124 62 (by decide) hF164 (vp_in_nI (show 5 < 7 by omega) (by omega)) dX8_drifts_71 ?_
    refine lv_topi (fun v207 e207 => ?_)
    have m208 : ((AB ad F124) 62 (rl (nI 5))) = v207 := (ab_cg rfl rfl).trans ((AB_g hF164).trans e207.symm)
    refine r_cVp (As := [.int (nI b204), .int v207]) (rest := []) S hK hZ hP124 hS124 hl201.1 58 (by decide) hF126 (C := RX8) rfl (c_X8_walks l D cA ad t hI F124 hW124 (nI b204) v207) (cwV 2 S.2.2.2.2 gX8_drifts_X8_walks rfl rfl rfl (by decide +kernel) ⟨Nat.le_of_ble_eq_true rfl, Nat.le_of_ble_eq_true rfl⟩) rfl rfl (Nat.le_of_ble_eq_true rfl) ⟨Nat.zero_le _, Nat.zero_le _⟩ dX8_drifts_72 (fun r209 hr209 => ?_)
    obtain ⟨hr209, hm209⟩ := hr209
    have m210 : (m_X8_walks (AB ad F124) ((AB ad F124) 62 (rl (nI 0))) ((AB ad F124) 62 (rl (nI 5)))) = r209 := (congr (congr (Eq.refl (m_X8_walks (AB ad F124))) m205) m208).trans hm209
    refine r_cSp (As := [.int r209]) (rest := []) S hK hZ hP124 hS124 hl201.1 (c_X8_least l D cA ad t hI F124 hW124 r209) (va_cwS 1 S.2.2.2.2 gX8_drifts_X8_least rfl rfl rfl (by decide +kernel) ⟨Nat.le_of_ble_eq_true rfl, Nat.le_of_ble_eq_true rfl⟩) rfl rfl (Nat.le_of_ble_eq_true rfl) ⟨Nat.zero_le _, Nat.zero_le _⟩ dX8_drifts_75 (fun r211 hr211 => ?_)
    obtain ⟨hr211, hm211⟩ := hr211
    have m212 : (m_X8_least (AB ad F124) (m_X8_walks (AB ad F124) ((AB ad F124) 62 (rl (nI 0))) ((AB ad F124) 62 (rl (nI 5))))) = r211 := (congr (Eq.refl (m_X8_least (AB ad F124))) m210).trans hm211
    refine lv_istore_n (lv' := [(2, .int r211), (1, .int (nI 1)), (0, .ref (ad 58))]) S.1 S.2.1 dX8_drifts_78 rfl hl201 (by decide) rfl (fun ls213 hl213 => ?_)
    refine lv_iload_n S.1 S.2.1 dX8_drifts_79 rfl (lv_at hl213 1 rfl) ?_
    refine lv_if_eq (tgt := 91) S.1 S.2.1 dX8_drifts_80 (by decide) (fun c214 => absurd c214 (by decide +kernel)) (fun c214 => ?_)
    have k215 := ci_ne (nI_toInt (n := 1) (by decide)) z_ti c214
    refine lv_aload_n S.1 S.2.1 dX8_drifts_83 rfl (lv_at hl213 2 rfl) ?_
    have hN217 := aN_of (j := 2) hF164 he165 (by omega)
    have hN218 := aN_of (j := 0) hF167 he168 (by omega)
    refine r_cVi (As := []) (rest := []) S hK hZ hP124 hS124 hl213.1 58 (by decide) hF126 (C := RX8) rfl (c_X8_stays l D cA ad t hI F124 hW124 (by omega)) (cwV 0 S.2.2.2.2 gX8_drifts_X8_stays rfl rfl rfl (by decide +kernel) ⟨Nat.le_of_ble_eq_true rfl, Nat.le_of_ble_eq_true rfl⟩) rfl rfl (Nat.le_of_ble_eq_true rfl) ⟨Nat.zero_le _, Nat.zero_le _⟩ dX8_drifts_84 (fun r216 F216 H216 locs216 hr216 hP216 hS216 => ?_)
    obtain ⟨hW216, hFc216, hr216⟩ := hr216
    obtain ⟨hr216, hm216⟩ := hr216
    have hFr216 := hFr124.tr hFc216 (by simp <;> first | omega | (simp only [isC, isJ] at *; omega))
    have mc219 : (m_X8_stays (AB ad F124)) = (r216, AB ad F216) := (Eq.refl (m_X8_stays (AB ad F124))).trans hm216
    have hE221 : M = m_X8_drifts_220 (AB ad F216) r211 r216 := hE130.trans ((show m_X8_drifts_129 (AB ad F124) r124 = m_X8_drifts_220 ((m_X8_stays (AB ad F124))).2 (m_X8_least (AB ad F124) (m_X8_walks (AB ad F124) ((AB ad F124) 62 (rl (nI 0))) ((AB ad F124) 62 (rl (nI 5))))) ((m_X8_stays (AB ad F124))).1 from by unfold m_X8_drifts_129; rw [if_pos (eq_cg rfl rfl c131), if_neg (neq_cg m170 rfl c171)]).trans (congr (congr (congrArg (m_X8_drifts_220) (congrArg Prod.snd mc219)) m212) (congrArg Prod.fst mc219)))
    refine lv_pop S.1 S.2.1 dX8_drifts_87 rfl ?_
    refine lv_goto (tgt := 101) S.1 S.2.1 dX8_drifts_88 (by decide) ?_
    have hF222 := (hFc216 58 (by decide)).trans hF126
    have hA223 := fN_of (k := 14) (a := at126) hF222 rfl (Nat.lt_of_le_of_lt hb126_5 (by decide))
    have hL223 := fN_of (k := 1) (a := ty126) hF222 rfl (Nat.lt_of_le_of_lt hb126_1 (by decide))
    have hE224 : M = AB ad F216 := hE221.trans ((show m_X8_drifts_220 (AB ad F216) r211 r216 = (AB ad F216) from rfl).trans rfl)
    exact hret 101 _ _ _ _ dX8_drifts_101 hP216 hS216 ⟨hW216, hFr216, ⟨by omega, hM.symm.trans hE224⟩⟩
  have k225 := ci_nle (nI_toInt (n := b119) (Nat.lt_of_le_of_lt hb119 (by decide))) z_ti c121
  refine lv_aload_n S.1 S.2.1 dX8_drifts_17 rfl (lv_at hl0 0 rfl) ?_
  refine r_get S hK hP4 58 (by decide) hF6 (C := RX8) (T := TX8) (N := 23) hiX8 rfl 4 (by decide) (am_at in_wsX8_drifts_0 1 rfl) (v := .ref (ad 62)) rfl dX8_drifts_18 ?_
  refine lv_iconst (v := (nI 5)) S.1 S.2.1 dX8_drifts_21 (by decide +kernel) ?_
  refine lv_dup2_11 S.1 S.2.1 dX8_drifts_22 rfl rfl ?_
  obtain ⟨g226, hF226, hg226⟩ := wt_I hW4 (show (62, 7) ∈ rLI by decide)
  refine r_iald S hK hP4 62 (by decide) hF226 (vp_in_nI (show 5 < 7 by omega) (by omega)) dX8_drifts_23 ?_
  refine lv_topi (fun v228 e228 => ?_)
  have m229 : ((AB ad F4) 62 (rl (nI 5))) = v228 := (ab_cg rfl rfl).trans ((AB_g hF226).trans e228.symm)
  refine lv_iconst (v := (nI 1)) S.1 S.2.1 dX8_drifts_24 (by decide +kernel) ?_
  refine lv_aload_n S.1 S.2.1 dX8_drifts_25 rfl (lv_at hl0 0 rfl) ?_
  refine lv_aload_n S.1 S.2.1 dX8_drifts_26 rfl (lv_at hl0 0 rfl) ?_
  refine r_get S hK hP4 58 (by decide) hF6 (C := RX8) (T := TX8) (N := 23) hiX8 rfl 2 (by decide) (am_at in_wsX8_drifts_0 0 rfl) (v := .ref (ad 60)) rfl dX8_drifts_27 ?_
  refine lv_iconst (v := (nI 3)) S.1 S.2.1 dX8_drifts_30 (by decide +kernel) ?_
  refine r_iald S hK hP4 60 (by decide) hF116 (vp_in_nI (show 3 < 52 by omega) (by omega)) dX8_drifts_31 ?_
  refine lv_topi (fun v231 e231 => ?_)
  obtain rfl : v231 = nI b119 := e231.trans he119
  have m232 : ((AB ad F4) 60 (rl (nI 3))) = (nI b119) := (ab_cg rfl rfl).trans ((AB_g hF116).trans e231.symm)
  have hA233 := fN_of (k := 14) (a := at6) hF6 rfl (Nat.lt_of_le_of_lt hb6_5 (by decide))
  have hL233 := fN_of (k := 1) (a := ty6) hF6 rfl (Nat.lt_of_le_of_lt hb6_1 (by decide))
  refine r_cVi (As := [.int (nI b119)]) (rest := [.int (nI 1), .int v228, .int (nI 5), .ref (ad 62)]) S hK hZ hP4 hS4 hl0.1 58 (by decide) hF6 (C := RX8) rfl (c_X8_draw l D cA ad t hI F4 hW4 (nI b119) (nI_ne0 (by omega) (by omega))) (cwV 1 S.2.2.2.2 gX8_drifts_X8_draw rfl rfl rfl (by decide +kernel) ⟨Nat.le_of_ble_eq_true rfl, Nat.le_of_ble_eq_true rfl⟩) rfl rfl (Nat.le_of_ble_eq_true rfl) ⟨Nat.zero_le _, Nat.zero_le _⟩ dX8_drifts_32 (fun r234 F234 H234 locs234 hr234 hP234 hS234 => ?_)
  obtain ⟨hW234, hFc234, hr234⟩ := hr234
  obtain ⟨hr234, hm234⟩ := hr234
  have hFr234 := hFr4.tr hFc234 (by simp <;> first | omega | (simp only [isC, isJ] at *; omega))
  obtain ⟨ty236, kn236, no236, en236, at236, sa236, sd236, wr236, pl236, va236, hF236, hb236_1, hb236_2, hb236_3, hb236_4, hb236_5, hb236_6⟩ := wt_m hW234
  have hA237 := fN_of (k := 14) (a := at236) hF236 rfl (Nat.lt_of_le_of_lt hb236_5 (by decide))
  have hL237 := fN_of (k := 1) (a := ty236) hF236 rfl (Nat.lt_of_le_of_lt hb236_1 (by decide))
  have mc238 : (m_X8_draw (AB ad F4) ((AB ad F4) 60 (rl (nI 3)))) = (r234, AB ad F234) := (congr (Eq.refl (m_X8_draw (AB ad F4))) m232).trans hm234
  have hE240 : M = m_X8_drifts_239 (AB ad F234) v228 r234 := hE10.trans ((show m_X8_drifts_9 (AB ad F4) r4 = m_X8_drifts_239 ((m_X8_draw (AB ad F4) ((AB ad F4) 60 (rl (nI 3))))).2 ((AB ad F4) 62 (rl (nI 5))) ((m_X8_draw (AB ad F4) ((AB ad F4) 60 (rl (nI 3))))).1 from by unfold m_X8_drifts_9; rw [if_pos (eq_cg rfl rfl c11), if_neg (nle_cg m120 rfl c121)]).trans (congr (congr (congrArg (m_X8_drifts_239) (congrArg Prod.snd mc238)) m229) (congrArg Prod.fst mc238)))
  refine lv_ishl S.1 S.2.1 dX8_drifts_35 ?_
  refine lv_topi (fun v241 e241 => ?_)
  have m242 : ((nI 1) <<< (r234 &&& 31)) = v241 := cg2 (fun (x : Int32) (y : Int32) => x <<< (y &&& 31)) (Eq.refl ((nI 1) : Int32)) (Eq.refl (r234 : Int32)) e241
  refine lv_ixor S.1 S.2.1 dX8_drifts_36 ?_
  refine lv_topi (fun v243 e243 => ?_)
  have m244 : (v228 ^^^ ((nI 1) <<< (r234 &&& 31))) = v243 := cg2 (fun (x : Int32) (y : Int32) => x ^^^ y) (Eq.refl (v228 : Int32)) m242 e243
  have hF245 := (hFc234 62 (by decide)).trans hF226
  refine r_iast S hI hK hP234 hS234 62 (by decide) hF245 (vp_in_nI (show 5 < 7 by omega) (by omega)) dX8_drifts_37 (fun F246 H246 locs246 eF246 hP246 hS246 => ?_)
  have hW246 := hW234.up eF246 (ok_I (show (62, 7) ∈ rLI by decide) (okI_up hg226 (by rw [nI_clamp (by omega)]; exact to_S (okS_o (by decide) (by decide) (by decide)))))
  have hFr246 := hFr234.up eF246 (by simp <;> first | omega | (simp only [isC, isJ] at *; omega))
  have hE248 : M = m_X8_drifts_247 (AB ad F246) := hE240.trans ((show m_X8_drifts_239 (AB ad F234) v228 r234 = m_X8_drifts_247 (st (AB ad F234) 62 (rl (nI 5)) (v228 ^^^ ((nI 1) <<< (r234 &&& 31)))) from rfl).trans (congrArg (m_X8_drifts_247) ((st_cg rfl (congrArg rl rfl) m244).trans (AB_ast hF245 eF246).symm)))
  obtain ⟨gg246, eg246⟩ : ∃ g9, g9 = upd g226 (nI 5).toNatClampNeg v243 := ⟨_, rfl⟩
  have hF246 : F246 62 = .inl (cA 0, 7, .inl gg246) := by rw [eF246, eg246]; exact va_up_self _ _ _
  have hg246 : ∀ j, j < 7 → rPr 62 j (gg246 j) := by rw [eg246]; exact pr_up hg226 (by rw [nI_clamp (by omega)]; exact to_S (okS_o (by decide) (by decide) (by decide)))
  refine lv_aload_n S.1 S.2.1 dX8_drifts_38 rfl (lv_at hl0 0 rfl) ?_
  refine lv_iconst (v := (nI 2)) S.1 S.2.1 dX8_drifts_39 (by decide +kernel) ?_
  have hF249 := (show F246 58 = F234 58 by rw [eF246]; exact va_up_ne _ _ (by decide)).trans hF236
  have hA250 := fN_of (k := 14) (a := at236) hF249 rfl (Nat.lt_of_le_of_lt hb236_5 (by decide))
  have hL250 := fN_of (k := 1) (a := ty236) hF249 rfl (Nat.lt_of_le_of_lt hb236_1 (by decide))
  refine r_cVi (As := [.int (nI 2)]) (rest := []) S hK hZ hP246 hS246 hl0.1 58 (by decide) hF249 (C := RX8) rfl (c_X8_draw l D cA ad t hI F246 hW246 (nI 2) (by decide +kernel)) (cwV 1 S.2.2.2.2 gX8_drifts_X8_draw rfl rfl rfl (by decide +kernel) ⟨Nat.le_of_ble_eq_true rfl, Nat.le_of_ble_eq_true rfl⟩) rfl rfl (Nat.le_of_ble_eq_true rfl) ⟨Nat.zero_le _, Nat.zero_le _⟩ dX8_drifts_40 (fun r251 F251 H251 locs251 hr251 hP251 hS251 => ?_)
  obtain ⟨hW251, hFc251, hr251⟩ := hr251
  obtain ⟨hr251, hm251⟩ := hr251
  have hFr251 := hFr246.tr hFc251 (by simp <;> first | omega | (simp only [isC, isJ] at *; omega))
  obtain ⟨ty253, kn253, no253, en253, at253, sa253, sd253, wr253, pl253, va253, hF253, hb253_1, hb253_2, hb253_3, hb253_4, hb253_5, hb253_6⟩ := wt_m hW251
  have hA254 := fN_of (k := 14) (a := at253) hF253 rfl (Nat.lt_of_le_of_lt hb253_5 (by decide))
  have hL254 := fN_of (k := 1) (a := ty253) hF253 rfl (Nat.lt_of_le_of_lt hb253_1 (by decide))
  have mc255 : (m_X8_draw (AB ad F246) (nI 2)) = (r251, AB ad F251) := (congr (Eq.refl (m_X8_draw (AB ad F246))) (Eq.refl ((nI 2) : Int32))).trans hm251
  have hE257 : M = m_X8_drifts_256 (AB ad F251) r251 := hE248.trans ((show m_X8_drifts_247 (AB ad F246) = m_X8_drifts_256 ((m_X8_draw (AB ad F246) (nI 2))).2 ((m_X8_draw (AB ad F246) (nI 2))).1 from rfl).trans (congr (congrArg (m_X8_drifts_256) (congrArg Prod.snd mc255)) (congrArg Prod.fst mc255)))
  refine lv_if_ne (tgt := 57) S.1 S.2.1 dX8_drifts_43 (by decide) (fun c258 => ?_) (fun c258 => ?_)
  · skip
    have k259 := ci_ne rfl z_ti c258
    refine lv_iconst (v := (nI 0)) S.1 S.2.1 dX8_drifts_57 (by decide +kernel) ?_
    refine lv_istore_n (lv' := [(1, .int (nI 0)), (0, .ref (ad 58))]) S.1 S.2.1 dX8_drifts_58 rfl hl0 (by decide) rfl (fun ls260 hl260 => ?_)
    refine lv_aload_n S.1 S.2.1 dX8_drifts_59 rfl (lv_at hl260 1 rfl) ?_
    refine lv_aload_n S.1 S.2.1 dX8_drifts_60 rfl (lv_at hl260 1 rfl) ?_
    refine r_get S hK hP251 58 (by decide) hF253 (C := RX8) (T := TX8) (N := 23) hiX8 rfl 4 (by decide) (am_at in_wsX8_drifts_0 1 rfl) (v := .ref (ad 62)) rfl dX8_drifts_61 ?_
    refine lv_iconst (v := (nI 0)) S.1 S.2.1 dX8_drifts_64 (by decide +kernel) ?_
    have hF261 := (hFc251 62 (by decide)).trans hF246
    refine r_iald S hK hP251 62 (by decide) hF261 (vp_in_nI (show 0 < 7 by omega) (by omega)) dX8_drifts_65 ?_
    refine lv_topi (fun v263 e263 => ?_)
    obtain ⟨b264, hb264, he264⟩ := (pr_S (hg246 0 (by decide))).1 rfl
    obtain rfl : v263 = nI b264 := e263.trans he264
    have m265 : ((AB ad F251) 62 (rl (nI 0))) = (nI b264) := (ab_cg rfl rfl).trans ((AB_g hF261).trans e263.symm)
    refine lv_aload_n S.1 S.2.1 dX8_drifts_66 rfl (lv_at hl260 1 rfl) ?_
    refine r_get S hK hP251 58 (by decide) hF253 (C := RX8) (T := TX8) (N := 23) hiX8 rfl 4 (by decide) (am_at in_wsX8_drifts_0 1 rfl) (v := .ref (ad 62)) rfl dX8_drifts_67 ?_
    refine lv_iconst (v := (nI 5)) S.1 S.2.1 dX8_drifts_70 (by decide +kernel) ?_
    refine r_iald S hK hP251 62 (by decide) hF261 (vp_in_nI (show 5 < 7 by omega) (by omega)) dX8_drifts_71 ?_
    refine lv_topi (fun v267 e267 => ?_)
    have m268 : ((AB ad F251) 62 (rl (nI 5))) = v267 := (ab_cg rfl rfl).trans ((AB_g hF261).trans e267.symm)
    refine r_cVp (As := [.int (nI b264), .int v267]) (rest := []) S hK hZ hP251 hS251 hl260.1 58 (by decide) hF253 (C := RX8) rfl (c_X8_walks l D cA ad t hI F251 hW251 (nI b264) v267) (cwV 2 S.2.2.2.2 gX8_drifts_X8_walks rfl rfl rfl (by decide +kernel) ⟨Nat.le_of_ble_eq_true rfl, Nat.le_of_ble_eq_true rfl⟩) rfl rfl (Nat.le_of_ble_eq_true rfl) ⟨Nat.zero_le _, Nat.zero_le _⟩ dX8_drifts_72 (fun r269 hr269 => ?_)
    obtain ⟨hr269, hm269⟩ := hr269
    have m270 : (m_X8_walks (AB ad F251) ((AB ad F251) 62 (rl (nI 0))) ((AB ad F251) 62 (rl (nI 5)))) = r269 := (congr (congr (Eq.refl (m_X8_walks (AB ad F251))) m265) m268).trans hm269
    refine r_cSp (As := [.int r269]) (rest := []) S hK hZ hP251 hS251 hl260.1 (c_X8_least l D cA ad t hI F251 hW251 r269) (va_cwS 1 S.2.2.2.2 gX8_drifts_X8_least rfl rfl rfl (by decide +kernel) ⟨Nat.le_of_ble_eq_true rfl, Nat.le_of_ble_eq_true rfl⟩) rfl rfl (Nat.le_of_ble_eq_true rfl) ⟨Nat.zero_le _, Nat.zero_le _⟩ dX8_drifts_75 (fun r271 hr271 => ?_)
    obtain ⟨hr271, hm271⟩ := hr271
    have m272 : (m_X8_least (AB ad F251) (m_X8_walks (AB ad F251) ((AB ad F251) 62 (rl (nI 0))) ((AB ad F251) 62 (rl (nI 5))))) = r271 := (congr (Eq.refl (m_X8_least (AB ad F251))) m270).trans hm271
    refine lv_istore_n (lv' := [(2, .int r271), (1, .int (nI 0)), (0, .ref (ad 58))]) S.1 S.2.1 dX8_drifts_78 rfl hl260 (by decide) rfl (fun ls273 hl273 => ?_)
    refine lv_iload_n S.1 S.2.1 dX8_drifts_79 rfl (lv_at hl273 1 rfl) ?_
    refine lv_if_eq (tgt := 91) S.1 S.2.1 dX8_drifts_80 (by decide) (fun c274 => ?_) (fun c274 => absurd (by decide +kernel) c274)
    have k275 := ci_eq (nI_toInt (n := 0) (by decide)) z_ti c274
    refine lv_iload_n S.1 S.2.1 dX8_drifts_91 rfl (lv_at hl273 0 rfl) ?_
    refine lv_iconst (v := (-1)) S.1 S.2.1 dX8_drifts_92 (by decide +kernel) ?_
    refine lv_icmp_eq (tgt := 101) S.1 S.2.1 dX8_drifts_93 (by decide) (fun c276 => ?_) (fun c276 => ?_)
    · skip
      have k277 := ci_eq rfl (show ((-1) : Int32).toInt = -1 by decide +kernel) c276
      have hA278 := fN_of (k := 14) (a := at253) hF253 rfl (Nat.lt_of_le_of_lt hb253_5 (by decide))
      have hL278 := fN_of (k := 1) (a := ty253) hF253 rfl (Nat.lt_of_le_of_lt hb253_1 (by decide))
      have hE279 : M = AB ad F251 := hE257.trans ((show m_X8_drifts_256 (AB ad F251) r251 = (AB ad F251) from by unfold m_X8_drifts_256; rw [if_neg (neq_cg rfl rfl c258), if_pos (eq_cg m272 rfl c276)]).trans rfl)
      exact hret 101 _ _ _ _ dX8_drifts_101 hP251 hS251 ⟨hW251, hFr251, ⟨by omega, hM.symm.trans hE279⟩⟩
    have k280 := ci_ne rfl (show ((-1) : Int32).toInt = -1 by decide +kernel) c276
    obtain ⟨j281, hj281, rfl⟩ := nI_of_le (x := r271) (B := 7) (by omega) (by omega)
    have kj281 := nI_toInt (n := j281) (Nat.lt_of_le_of_lt hj281 (by decide))
    refine lv_aload_n S.1 S.2.1 dX8_drifts_96 rfl (lv_at hl273 2 rfl) ?_
    refine lv_iload_n S.1 S.2.1 dX8_drifts_97 rfl (lv_at hl273 0 rfl) ?_
    refine r_cVv (As := [.int (nI j281)]) (rest := []) S hK hZ hP251 hS251 hl273.1 58 (by decide) hF253 (C := RX8) rfl (c_X8_goesTo l D cA ad t hI F251 hW251 (j281) (by omega)) (cwV 1 S.2.2.2.2 gX8_drifts_X8_goesTo rfl rfl rfl (by decide +kernel) ⟨Nat.le_of_ble_eq_true rfl, Nat.le_of_ble_eq_true rfl⟩) rfl rfl (Nat.le_of_ble_eq_true rfl) ⟨Nat.zero_le _, Nat.zero_le _⟩ dX8_drifts_98 (fun F282 H282 locs282 hr282 hP282 hS282 => ?_)
    obtain ⟨hW282, hFc282, hr282⟩ := hr282
    obtain ⟨hr282, hm282⟩ := hr282
    have hFr282 := hFr251.tr hFc282 (by simp <;> first | omega | (simp only [isC, isJ] at *; omega))
    have hE284 : M = m_X8_drifts_283 (AB ad F282) (nI j281) := hE257.trans ((show m_X8_drifts_256 (AB ad F251) r251 = m_X8_drifts_283 (m_X8_goesTo (AB ad F251) (m_X8_least (AB ad F251) (m_X8_walks (AB ad F251) ((AB ad F251) 62 (rl (nI 0))) ((AB ad F251) 62 (rl (nI 5)))))) (m_X8_least (AB ad F251) (m_X8_walks (AB ad F251) ((AB ad F251) 62 (rl (nI 0))) ((AB ad F251) 62 (rl (nI 5))))) from by unfold m_X8_drifts_256; rw [if_neg (neq_cg rfl rfl c258), if_neg (neq_cg m272 rfl c276)]).trans (congr (congrArg (m_X8_drifts_283) ((congr (Eq.refl (m_X8_goesTo (AB ad F251))) m272).trans hm282)) m272))
    have hF285 := (hFc282 58 (by decide)).trans hF253
    have hA286 := fN_of (k := 14) (a := at253) hF285 rfl (Nat.lt_of_le_of_lt hb253_5 (by decide))
    have hL286 := fN_of (k := 1) (a := ty253) hF285 rfl (Nat.lt_of_le_of_lt hb253_1 (by decide))
    have hE287 : M = AB ad F282 := hE284.trans ((show m_X8_drifts_283 (AB ad F282) (nI j281) = (AB ad F282) from rfl).trans rfl)
    exact hret 101 _ _ _ _ dX8_drifts_101 hP282 hS282 ⟨hW282, hFr282, ⟨by omega, hM.symm.trans hE287⟩⟩
  have k288 := ci_eq rfl z_ti c258
  refine lv_aload_n S.1 S.2.1 dX8_drifts_46 rfl (lv_at hl0 0 rfl) ?_
  refine r_cVp (As := []) (rest := []) S hK hZ hP251 hS251 hl0.1 58 (by decide) hF253 (C := RX8) rfl (c_X8_mayStay l D cA ad t hI F251 hW251 ) (cwV 0 S.2.2.2.2 gX8_drifts_X8_mayStay rfl rfl rfl (by decide +kernel) ⟨Nat.le_of_ble_eq_true rfl, Nat.le_of_ble_eq_true rfl⟩) rfl rfl (Nat.le_of_ble_eq_true rfl) ⟨Nat.zero_le _, Nat.zero_le _⟩ dX8_drifts_47 (fun r289 hr289 => ?_)
  obtain ⟨hr289, hm289⟩ := hr289
  obtain ⟨⟨b290, hb290, rfl⟩, hx290⟩ := hr289
  have hF291 := (hFc251 62 (by decide)).trans hF246
  obtain ⟨b292, hb292, he292⟩ := (pr_S (hg246 2 (by decide))).2.1 rfl
  have hN293 := aN_of (j := 2) hF291 he292 (by omega)
  have hF294 := (hFc234 60 (by decide)).trans hF116
  have hF295 := (show F246 60 = F234 60 by rw [eF246]; exact va_up_ne _ _ (by decide)).trans hF294
  have hF296 := (hFc251 60 (by decide)).trans hF295
  obtain ⟨b297, hb297, he297⟩ := (pr_T (by decide) (hg116 0 (by decide))).1 rfl
  have hN298 := aN_of (j := 0) hF296 he297 (by omega)
  have hy290 : b290 ≠ 0 → b292 < b297 := fun q => by have h9 := hx290 (nI_ne0 (by omega) (by omega)); omega
  have m299 : (m_X8_mayStay (AB ad F251)) = (nI b290) := (Eq.refl (m_X8_mayStay (AB ad F251))).trans hm289
  refine lv_if_eq (tgt := 57) S.1 S.2.1 dX8_drifts_50 (by decide) (fun c300 => ?_) (fun c300 => ?_)
  · skip
    have k301 := ci_eq (nI_toInt (n := b290) (Nat.lt_of_le_of_lt hb290 (by decide))) z_ti c300
    refine lv_iconst (v := (nI 0)) S.1 S.2.1 dX8_drifts_57 (by decide +kernel) ?_
    refine lv_istore_n (lv' := [(1, .int (nI 0)), (0, .ref (ad 58))]) S.1 S.2.1 dX8_drifts_58 rfl hl0 (by decide) rfl (fun ls302 hl302 => ?_)
    refine lv_aload_n S.1 S.2.1 dX8_drifts_59 rfl (lv_at hl302 1 rfl) ?_
    refine lv_aload_n S.1 S.2.1 dX8_drifts_60 rfl (lv_at hl302 1 rfl) ?_
    refine r_get S hK hP251 58 (by decide) hF253 (C := RX8) (T := TX8) (N := 23) hiX8 rfl 4 (by decide) (am_at in_wsX8_drifts_0 1 rfl) (v := .ref (ad 62)) rfl dX8_drifts_61 ?_
    refine lv_iconst (v := (nI 0)) S.1 S.2.1 dX8_drifts_64 (by decide +kernel) ?_
    refine r_iald S hK hP251 62 (by decide) hF291 (vp_in_nI (show 0 < 7 by omega) (by omega)) dX8_drifts_65 ?_
    refine lv_topi (fun v304 e304 => ?_)
    obtain ⟨b305, hb305, he305⟩ := (pr_S (hg246 0 (by decide))).1 rfl
    obtain rfl : v304 = nI b305 := e304.trans he305
    have m306 : ((AB ad F251) 62 (rl (nI 0))) = (nI b305) := (ab_cg rfl rfl).trans ((AB_g hF291).trans e304.symm)
    refine lv_aload_n S.1 S.2.1 dX8_drifts_66 rfl (lv_at hl302 1 rfl) ?_
    refine r_get S hK hP251 58 (by decide) hF253 (C := RX8) (T := TX8) (N := 23) hiX8 rfl 4 (by decide) (am_at in_wsX8_drifts_0 1 rfl) (v := .ref (ad 62)) rfl dX8_drifts_67 ?_
    refine lv_iconst (v := (nI 5)) S.1 S.2.1 dX8_drifts_70 (by decide +kernel) ?_
    refine r_iald S hK hP251 62 (by decide) hF291 (vp_in_nI (show 5 < 7 by omega) (by omega)) dX8_drifts_71 ?_
    refine lv_topi (fun v308 e308 => ?_)
    have m309 : ((AB ad F251) 62 (rl (nI 5))) = v308 := (ab_cg rfl rfl).trans ((AB_g hF291).trans e308.symm)
    refine r_cVp (As := [.int (nI b305), .int v308]) (rest := []) S hK hZ hP251 hS251 hl302.1 58 (by decide) hF253 (C := RX8) rfl (c_X8_walks l D cA ad t hI F251 hW251 (nI b305) v308) (cwV 2 S.2.2.2.2 gX8_drifts_X8_walks rfl rfl rfl (by decide +kernel) ⟨Nat.le_of_ble_eq_true rfl, Nat.le_of_ble_eq_true rfl⟩) rfl rfl (Nat.le_of_ble_eq_true rfl) ⟨Nat.zero_le _, Nat.zero_le _⟩ dX8_drifts_72 (fun r310 hr310 => ?_)
    obtain ⟨hr310, hm310⟩ := hr310
    have m311 : (m_X8_walks (AB ad F251) ((AB ad F251) 62 (rl (nI 0))) ((AB ad F251) 62 (rl (nI 5)))) = r310 := (congr (congr (Eq.refl (m_X8_walks (AB ad F251))) m306) m309).trans hm310
    refine r_cSp (As := [.int r310]) (rest := []) S hK hZ hP251 hS251 hl302.1 (c_X8_least l D cA ad t hI F251 hW251 r310) (va_cwS 1 S.2.2.2.2 gX8_drifts_X8_least rfl rfl rfl (by decide +kernel) ⟨Nat.le_of_ble_eq_true rfl, Nat.le_of_ble_eq_true rfl⟩) rfl rfl (Nat.le_of_ble_eq_true rfl) ⟨Nat.zero_le _, Nat.zero_le _⟩ dX8_drifts_75 (fun r312 hr312 => ?_)
    obtain ⟨hr312, hm312⟩ := hr312
    have m313 : (m_X8_least (AB ad F251) (m_X8_walks (AB ad F251) ((AB ad F251) 62 (rl (nI 0))) ((AB ad F251) 62 (rl (nI 5))))) = r312 := (congr (Eq.refl (m_X8_least (AB ad F251))) m311).trans hm312
    refine lv_istore_n (lv' := [(2, .int r312), (1, .int (nI 0)), (0, .ref (ad 58))]) S.1 S.2.1 dX8_drifts_78 rfl hl302 (by decide) rfl (fun ls314 hl314 => ?_)
    refine lv_iload_n S.1 S.2.1 dX8_drifts_79 rfl (lv_at hl314 1 rfl) ?_
    refine lv_if_eq (tgt := 91) S.1 S.2.1 dX8_drifts_80 (by decide) (fun c315 => ?_) (fun c315 => absurd (by decide +kernel) c315)
    have k316 := ci_eq (nI_toInt (n := 0) (by decide)) z_ti c315
    refine lv_iload_n S.1 S.2.1 dX8_drifts_91 rfl (lv_at hl314 0 rfl) ?_
    refine lv_iconst (v := (-1)) S.1 S.2.1 dX8_drifts_92 (by decide +kernel) ?_
    refine lv_icmp_eq (tgt := 101) S.1 S.2.1 dX8_drifts_93 (by decide) (fun c317 => ?_) (fun c317 => ?_)
    · skip
      have k318 := ci_eq rfl (show ((-1) : Int32).toInt = -1 by decide +kernel) c317
      have hA319 := fN_of (k := 14) (a := at253) hF253 rfl (Nat.lt_of_le_of_lt hb253_5 (by decide))
      have hL319 := fN_of (k := 1) (a := ty253) hF253 rfl (Nat.lt_of_le_of_lt hb253_1 (by decide))
      have hE320 : M = AB ad F251 := hE257.trans ((show m_X8_drifts_256 (AB ad F251) r251 = (AB ad F251) from by unfold m_X8_drifts_256; rw [if_pos (eq_cg rfl rfl c258), if_pos (eq_cg m299 rfl c300), if_pos (eq_cg m313 rfl c317)]).trans rfl)
      exact hret 101 _ _ _ _ dX8_drifts_101 hP251 hS251 ⟨hW251, hFr251, ⟨by omega, hM.symm.trans hE320⟩⟩
    have k321 := ci_ne rfl (show ((-1) : Int32).toInt = -1 by decide +kernel) c317
    obtain ⟨j322, hj322, rfl⟩ := nI_of_le (x := r312) (B := 7) (by omega) (by omega)
    have kj322 := nI_toInt (n := j322) (Nat.lt_of_le_of_lt hj322 (by decide))
    refine lv_aload_n S.1 S.2.1 dX8_drifts_96 rfl (lv_at hl314 2 rfl) ?_
    refine lv_iload_n S.1 S.2.1 dX8_drifts_97 rfl (lv_at hl314 0 rfl) ?_
    refine r_cVv (As := [.int (nI j322)]) (rest := []) S hK hZ hP251 hS251 hl314.1 58 (by decide) hF253 (C := RX8) rfl (c_X8_goesTo l D cA ad t hI F251 hW251 (j322) (by omega)) (cwV 1 S.2.2.2.2 gX8_drifts_X8_goesTo rfl rfl rfl (by decide +kernel) ⟨Nat.le_of_ble_eq_true rfl, Nat.le_of_ble_eq_true rfl⟩) rfl rfl (Nat.le_of_ble_eq_true rfl) ⟨Nat.zero_le _, Nat.zero_le _⟩ dX8_drifts_98 (fun F323 H323 locs323 hr323 hP323 hS323 => ?_)
    obtain ⟨hW323, hFc323, hr323⟩ := hr323
    obtain ⟨hr323, hm323⟩ := hr323
    have hFr323 := hFr251.tr hFc323 (by simp <;> first | omega | (simp only [isC, isJ] at *; omega))
    have hE325 : M = m_X8_drifts_324 (AB ad F323) (nI j322) := hE257.trans ((show m_X8_drifts_256 (AB ad F251) r251 = m_X8_drifts_324 (m_X8_goesTo (AB ad F251) (m_X8_least (AB ad F251) (m_X8_walks (AB ad F251) ((AB ad F251) 62 (rl (nI 0))) ((AB ad F251) 62 (rl (nI 5)))))) (m_X8_least (AB ad F251) (m_X8_walks (AB ad F251) ((AB ad F251) 62 (rl (nI 0))) ((AB ad F251) 62 (rl (nI 5))))) from by unfold m_X8_drifts_256; rw [if_pos (eq_cg rfl rfl c258), if_pos (eq_cg m299 rfl c300), if_neg (neq_cg m313 rfl c317)]).trans (congr (congrArg (m_X8_drifts_324) ((congr (Eq.refl (m_X8_goesTo (AB ad F251))) m313).trans hm323)) m313))
    have hF326 := (hFc323 58 (by decide)).trans hF253
    have hA327 := fN_of (k := 14) (a := at253) hF326 rfl (Nat.lt_of_le_of_lt hb253_5 (by decide))
    have hL327 := fN_of (k := 1) (a := ty253) hF326 rfl (Nat.lt_of_le_of_lt hb253_1 (by decide))
    have hE328 : M = AB ad F323 := hE325.trans ((show m_X8_drifts_324 (AB ad F323) (nI j322) = (AB ad F323) from rfl).trans rfl)
    exact hret 101 _ _ _ _ dX8_drifts_101 hP323 hS323 ⟨hW323, hFr323, ⟨by omega, hM.symm.trans hE328⟩⟩
  have k329 := ci_ne (nI_toInt (n := b290) (Nat.lt_of_le_of_lt hb290 (by decide))) z_ti c300
  refine lv_iconst (v := (nI 1)) S.1 S.2.1 dX8_drifts_53 (by decide +kernel) ?_
  refine lv_goto (tgt := 58) S.1 S.2.1 dX8_drifts_54 (by decide) ?_
  refine lv_istore_n (lv' := [(1, .int (nI 1)), (0, .ref (ad 58))]) S.1 S.2.1 dX8_drifts_58 rfl hl0 (by decide) rfl (fun ls330 hl330 => ?_)
  refine lv_aload_n S.1 S.2.1 dX8_drifts_59 rfl (lv_at hl330 1 rfl) ?_
  refine lv_aload_n S.1 S.2.1 dX8_drifts_60 rfl (lv_at hl330 1 rfl) ?_
  refine r_get S hK hP251 58 (by decide) hF253 (C := RX8) (T := TX8) (N := 23) hiX8 rfl 4 (by decide) (am_at in_wsX8_drifts_0 1 rfl) (v := .ref (ad 62)) rfl dX8_drifts_61 ?_
  refine lv_iconst (v := (nI 0)) S.1 S.2.1 dX8_drifts_64 (by decide +kernel) ?_
  refine r_iald S hK hP251 62 (by decide) hF291 (vp_in_nI (show 0 < 7 by omega) (by omega)) dX8_drifts_65 ?_
  refine lv_topi (fun v332 e332 => ?_)
  obtain ⟨b333, hb333, he333⟩ := (pr_S (hg246 0 (by decide))).1 rfl
  obtain rfl : v332 = nI b333 := e332.trans he333
  have m334 : ((AB ad F251) 62 (rl (nI 0))) = (nI b333) := (ab_cg rfl rfl).trans ((AB_g hF291).trans e332.symm)
  refine lv_aload_n S.1 S.2.1 dX8_drifts_66 rfl (lv_at hl330 1 rfl) ?_
  refine r_get S hK hP251 58 (by decide) hF253 (C := RX8) (T := TX8) (N := 23) hiX8 rfl 4 (by decide) (am_at in_wsX8_drifts_0 1 rfl) (v := .ref (ad 62)) rfl dX8_drifts_67 ?_
  refine lv_iconst (v := (nI 5)) S.1 S.2.1 dX8_drifts_70 (by decide +kernel) ?_
  refine r_iald S hK hP251 62 (by decide) hF291 (vp_in_nI (show 5 < 7 by omega) (by omega)) dX8_drifts_71 ?_
  refine lv_topi (fun v336 e336 => ?_)
  have m337 : ((AB ad F251) 62 (rl (nI 5))) = v336 := (ab_cg rfl rfl).trans ((AB_g hF291).trans e336.symm)
  refine r_cVp (As := [.int (nI b333), .int v336]) (rest := []) S hK hZ hP251 hS251 hl330.1 58 (by decide) hF253 (C := RX8) rfl (c_X8_walks l D cA ad t hI F251 hW251 (nI b333) v336) (cwV 2 S.2.2.2.2 gX8_drifts_X8_walks rfl rfl rfl (by decide +kernel) ⟨Nat.le_of_ble_eq_true rfl, Nat.le_of_ble_eq_true rfl⟩) rfl rfl (Nat.le_of_ble_eq_true rfl) ⟨Nat.zero_le _, Nat.zero_le _⟩ dX8_drifts_72 (fun r338 hr338 => ?_)
  obtain ⟨hr338, hm338⟩ := hr338
  have m339 : (m_X8_walks (AB ad F251) ((AB ad F251) 62 (rl (nI 0))) ((AB ad F251) 62 (rl (nI 5)))) = r338 := (congr (congr (Eq.refl (m_X8_walks (AB ad F251))) m334) m337).trans hm338
  refine r_cSp (As := [.int r338]) (rest := []) S hK hZ hP251 hS251 hl330.1 (c_X8_least l D cA ad t hI F251 hW251 r338) (va_cwS 1 S.2.2.2.2 gX8_drifts_X8_least rfl rfl rfl (by decide +kernel) ⟨Nat.le_of_ble_eq_true rfl, Nat.le_of_ble_eq_true rfl⟩) rfl rfl (Nat.le_of_ble_eq_true rfl) ⟨Nat.zero_le _, Nat.zero_le _⟩ dX8_drifts_75 (fun r340 hr340 => ?_)
  obtain ⟨hr340, hm340⟩ := hr340
  have m341 : (m_X8_least (AB ad F251) (m_X8_walks (AB ad F251) ((AB ad F251) 62 (rl (nI 0))) ((AB ad F251) 62 (rl (nI 5))))) = r340 := (congr (Eq.refl (m_X8_least (AB ad F251))) m339).trans hm340
  refine lv_istore_n (lv' := [(2, .int r340), (1, .int (nI 1)), (0, .ref (ad 58))]) S.1 S.2.1 dX8_drifts_78 rfl hl330 (by decide) rfl (fun ls342 hl342 => ?_)
  refine lv_iload_n S.1 S.2.1 dX8_drifts_79 rfl (lv_at hl342 1 rfl) ?_
  refine lv_if_eq (tgt := 91) S.1 S.2.1 dX8_drifts_80 (by decide) (fun c343 => absurd c343 (by decide +kernel)) (fun c343 => ?_)
  have k344 := ci_ne (nI_toInt (n := 1) (by decide)) z_ti c343
  refine lv_aload_n S.1 S.2.1 dX8_drifts_83 rfl (lv_at hl342 2 rfl) ?_
  have hN346 := aN_of (j := 2) hF291 he292 (by omega)
  have hN347 := aN_of (j := 0) hF296 he297 (by omega)
  refine r_cVi (As := []) (rest := []) S hK hZ hP251 hS251 hl342.1 58 (by decide) hF253 (C := RX8) rfl (c_X8_stays l D cA ad t hI F251 hW251 (by omega)) (cwV 0 S.2.2.2.2 gX8_drifts_X8_stays rfl rfl rfl (by decide +kernel) ⟨Nat.le_of_ble_eq_true rfl, Nat.le_of_ble_eq_true rfl⟩) rfl rfl (Nat.le_of_ble_eq_true rfl) ⟨Nat.zero_le _, Nat.zero_le _⟩ dX8_drifts_84 (fun r345 F345 H345 locs345 hr345 hP345 hS345 => ?_)
  obtain ⟨hW345, hFc345, hr345⟩ := hr345
  obtain ⟨hr345, hm345⟩ := hr345
  have hFr345 := hFr251.tr hFc345 (by simp <;> first | omega | (simp only [isC, isJ] at *; omega))
  have mc348 : (m_X8_stays (AB ad F251)) = (r345, AB ad F345) := (Eq.refl (m_X8_stays (AB ad F251))).trans hm345
  have hE350 : M = m_X8_drifts_349 (AB ad F345) r340 r345 := hE257.trans ((show m_X8_drifts_256 (AB ad F251) r251 = m_X8_drifts_349 ((m_X8_stays (AB ad F251))).2 (m_X8_least (AB ad F251) (m_X8_walks (AB ad F251) ((AB ad F251) 62 (rl (nI 0))) ((AB ad F251) 62 (rl (nI 5))))) ((m_X8_stays (AB ad F251))).1 from by unfold m_X8_drifts_256; rw [if_pos (eq_cg rfl rfl c258), if_neg (neq_cg m299 rfl c300)]).trans (congr (congr (congrArg (m_X8_drifts_349) (congrArg Prod.snd mc348)) m341) (congrArg Prod.fst mc348)))
  refine lv_pop S.1 S.2.1 dX8_drifts_87 rfl ?_
  refine lv_goto (tgt := 101) S.1 S.2.1 dX8_drifts_88 (by decide) ?_
  have hF351 := (hFc345 58 (by decide)).trans hF253
  have hA352 := fN_of (k := 14) (a := at253) hF351 rfl (Nat.lt_of_le_of_lt hb253_5 (by decide))
  have hL352 := fN_of (k := 1) (a := ty253) hF351 rfl (Nat.lt_of_le_of_lt hb253_1 (by decide))
  have hE353 : M = AB ad F345 := hE350.trans ((show m_X8_drifts_349 (AB ad F345) r340 r345 = (AB ad F345) from rfl).trans rfl)
  exact hret 101 _ _ _ _ dX8_drifts_101 hP345 hS345 ⟨hW345, hFr345, ⟨by omega, hM.symm.trans hE353⟩⟩
noncomputable def m_X8_drift_49 (k0 : SS → Int32 → Int32 → Int32 × SS) (σ : SS) (a0 : Int32) (a1 : Int32) : Int32 × SS :=
  k0 σ (a0 + Int32.ofInt (1)) a1
noncomputable def m_X8_drift_L44_31_b (k0 : SS → Int32 → Int32 → Int32 × SS) (σ : SS) (a0 : Int32) (a1 : Int32) : Int32 × SS :=
  if a1 ≤ a0 then
    ((σ 62 (rl (nI 3))), σ)
  else
    m_X8_drift_49 k0 (m_X8_drifts σ) a0 a1
noncomputable def m_X8_drift_L44_31 : Nat → SS → Int32 → Int32 → Int32 × SS
  | 0 => fun σ _ _ => (0, σ)
  | n + 1 => m_X8_drift_L44_31_b (m_X8_drift_L44_31 n)
noncomputable def m_X8_drift_28 (σ : SS) (a0 : Int32) : Int32 × SS :=
  m_X8_drift_L44_31 2000 σ (nI 0) a0
noncomputable def m_X8_drift (σ : SS) (a0 : Int32) : Int32 × SS :=
  if (m_X8_in σ a0 (nI 1) (nI 40)) = (0 : Int32) then
    (((-1000000002) : Int32), σ)
  else
    if (m_X8_goesOn σ) = (0 : Int32) then
      (((-1000000003) : Int32), σ)
    else
      if (σ 62 (rl (nI 1))) ≤ (nI 9000) then
        m_X8_drift_28 (m_X8_keeps σ) a0
      else
        (((-1000000004) : Int32), σ)
set_option maxHeartbeats 4000000 in
set_option maxRecDepth 100000 in
theorem c_X8_drift (l : Launch) (D : va_G) (cA ad : Nat → Nat) (t : Nat) (hI : rI ad) (F : Nat → va_E) (hW : WT cA ad F) (p1 : Int32) : MI l D cA ad t yX8_drift wsX8_drift { frames := 3, cells := 0, slots := 0, locals := 70 } [.ref (ad 58), .int p1] F (fun r F' => WT cA ad F' ∧ rFr [58, 62, 63] F F' ∧ ((fN (F' 58) 1 = fN (F 58) 1) ∧ m_X8_drift (AB ad F) p1 = (r, AB ad F'))) := by
  refine en_I rfl (by decide +kernel) (Nat.le_of_ble_eq_true rfl) ?_
  intro p e s m args below meth c ls0 Q S hK hZ hP hS hl0 hret
  have hl0 : lv_has ls0 3 [(0, .ref (ad 58)), (1, .int p1)] := hl0
  have hFr : rFr [58, 62, 63] F F := rFr.rf
  have hiX8 : ∀ w ∈ u_ws RX8 TX8 23, w ∈ wsX8_drift := in_wsX8_drift_3
  obtain ⟨M, hM⟩ : ∃ M, M = m_X8_drift (AB ad F) p1 := ⟨_, rfl⟩
  obtain ⟨ty1, kn1, no1, en1, at1, sa1, sd1, wr1, pl1, va1, hF1, hb1_1, hb1_2, hb1_3, hb1_4, hb1_5, hb1_6⟩ := wt_m hW
  have hA2 := fN_of (k := 14) (a := at1) hF1 rfl (Nat.lt_of_le_of_lt hb1_5 (by decide))
  have hL2 := fN_of (k := 1) (a := ty1) hF1 rfl (Nat.lt_of_le_of_lt hb1_1 (by decide))
  refine lv_iload_n S.1 S.2.1 dX8_drift_0 rfl (lv_at hl0 1 rfl) ?_
  refine lv_iconst (v := (nI 1)) S.1 S.2.1 dX8_drift_1 (by decide +kernel) ?_
  refine lv_bipush (v := (nI 40)) S.1 S.2.1 dX8_drift_2 (by decide +kernel) ?_
  refine r_cSp (As := [.int p1, .int (nI 1), .int (nI 40)]) (rest := []) S hK hZ hP hS hl0.1 (c_X8_in l D cA ad t hI F hW p1 (nI 1) (nI 40)) (va_cwS 3 S.2.2.2.2 gX8_drift_X8_in rfl rfl rfl (by decide +kernel) ⟨Nat.le_of_ble_eq_true rfl, Nat.le_of_ble_eq_true rfl⟩) rfl rfl (Nat.le_of_ble_eq_true rfl) ⟨Nat.zero_le _, Nat.zero_le _⟩ dX8_drift_4 (fun r3 hr3 => ?_)
  obtain ⟨hr3, hm3⟩ := hr3
  obtain ⟨⟨b4, hb4, rfl⟩, hx4, hz4⟩ := hr3
  have ta5 : (p1 : Int32).toInt = p1.toInt := rfl
  have ta6 : ((nI 1) : Int32).toInt = ((1 : Nat) : Int) := (nI_toInt (n := 1) (by decide))
  have ta7 : ((nI 40) : Int32).toInt = ((40 : Nat) : Int) := (nI_toInt (n := 40) (by decide))
  have hy4 : b4 ≠ 0 → ((1 : Nat) : Int) ≤ p1.toInt ∧ p1.toInt ≤ ((40 : Nat) : Int) := fun q => by have h9 := hx4 (nI_ne0 (by omega) (by omega)); omega
  have hu4 : b4 = 0 → p1.toInt < ((1 : Nat) : Int) ∨ ((40 : Nat) : Int) < p1.toInt := fun q => by have h9 := hz4 (by rw [q]; rfl); omega
  have m8 : (m_X8_in (AB ad F) p1 (nI 1) (nI 40)) = (nI b4) := (congr (congr (congr (Eq.refl (m_X8_in (AB ad F))) (Eq.refl (p1 : Int32))) (Eq.refl ((nI 1) : Int32))) (Eq.refl ((nI 40) : Int32))).trans hm3
  refine lv_if_ne (tgt := 13) S.1 S.2.1 dX8_drift_7 (by decide) (fun c9 => ?_) (fun c9 => ?_)
  · skip
    have k10 := ci_ne (nI_toInt (n := b4) (Nat.lt_of_le_of_lt hb4 (by decide))) z_ti c9
    obtain ⟨j11, hj11, rfl⟩ := nI_of_le (x := p1) (B := 40) (by omega) (by omega)
    have kj11 := nI_toInt (n := j11) (Nat.lt_of_le_of_lt hj11 (by decide))
    refine lv_aload_n S.1 S.2.1 dX8_drift_13 rfl (lv_at hl0 0 rfl) ?_
    refine r_cVp (As := []) (rest := []) S hK hZ hP hS hl0.1 58 (by decide) hF1 (C := RX8) rfl (c_X8_goesOn l D cA ad t hI F hW ) (cwV 0 S.2.2.2.2 gX8_drift_X8_goesOn rfl rfl rfl (by decide +kernel) ⟨Nat.le_of_ble_eq_true rfl, Nat.le_of_ble_eq_true rfl⟩) rfl rfl (Nat.le_of_ble_eq_true rfl) ⟨Nat.zero_le _, Nat.zero_le _⟩ dX8_drift_14 (fun r12 hr12 => ?_)
    obtain ⟨hr12, hm12⟩ := hr12
    obtain ⟨b13, hb13, rfl⟩ := hr12
    have m14 : (m_X8_goesOn (AB ad F)) = (nI b13) := (Eq.refl (m_X8_goesOn (AB ad F))).trans hm12
    refine lv_if_ne (tgt := 23) S.1 S.2.1 dX8_drift_17 (by decide) (fun c15 => ?_) (fun c15 => ?_)
    · skip
      have k16 := ci_ne (nI_toInt (n := b13) (Nat.lt_of_le_of_lt hb13 (by decide))) z_ti c15
      refine lv_aload_n S.1 S.2.1 dX8_drift_23 rfl (lv_at hl0 0 rfl) ?_
      refine r_get S hK hP 58 (by decide) hF1 (C := RX8) (T := TX8) (N := 23) hiX8 rfl 4 (by decide) (am_at in_wsX8_drift_0 2 rfl) (v := .ref (ad 62)) rfl dX8_drift_24 ?_
      refine lv_iconst (v := (nI 1)) S.1 S.2.1 dX8_drift_27 (by decide +kernel) ?_
      obtain ⟨g17, hF17, hg17⟩ := wt_I hW (show (62, 7) ∈ rLI by decide)
      refine r_iald S hK hP 62 (by decide) hF17 (vp_in_nI (show 1 < 7 by omega) (by omega)) dX8_drift_28 ?_
      refine lv_topi (fun v19 e19 => ?_)
      have m20 : ((AB ad F) 62 (rl (nI 1))) = v19 := (ab_cg rfl rfl).trans ((AB_g hF17).trans e19.symm)
      refine lv_sipush (v := (nI 9000)) S.1 S.2.1 dX8_drift_29 (by decide +kernel) ?_
      refine lv_icmp_le (tgt := 38) S.1 S.2.1 dX8_drift_32 (by decide) (fun c21 => ?_) (fun c21 => ?_)
      · skip
        have k22 := ci_le rfl (nI_toInt (n := 9000) (by decide)) c21
        refine lv_aload_n S.1 S.2.1 dX8_drift_38 rfl (lv_at hl0 0 rfl) ?_
        have hA23 := fN_of (k := 14) (a := at1) hF1 rfl (Nat.lt_of_le_of_lt hb1_5 (by decide))
        have hL23 := fN_of (k := 1) (a := ty1) hF1 rfl (Nat.lt_of_le_of_lt hb1_1 (by decide))
        refine r_cVv (As := []) (rest := []) S hK hZ hP hS hl0.1 58 (by decide) hF1 (C := RX8) rfl (c_X8_keeps l D cA ad t hI F hW ) (cwV 0 S.2.2.2.2 gX8_drift_X8_keeps rfl rfl rfl (by decide +kernel) ⟨Nat.le_of_ble_eq_true rfl, Nat.le_of_ble_eq_true rfl⟩) rfl rfl (Nat.le_of_ble_eq_true rfl) ⟨Nat.zero_le _, Nat.zero_le _⟩ dX8_drift_39 (fun F24 H24 locs24 hr24 hP24 hS24 => ?_)
        obtain ⟨hW24, hFc24, hr24⟩ := hr24
        obtain ⟨hr24, hm24⟩ := hr24
        have hFr24 := hFr.tr hFc24 (by simp <;> first | omega | (simp only [isC, isJ] at *; omega))
        obtain ⟨ty26, kn26, no26, en26, at26, sa26, sd26, wr26, pl26, va26, hF26, hb26_1, hb26_2, hb26_3, hb26_4, hb26_5, hb26_6⟩ := wt_m hW24
        have hA27 := fN_of (k := 14) (a := at26) hF26 rfl (Nat.lt_of_le_of_lt hb26_5 (by decide))
        have hL27 := fN_of (k := 1) (a := ty26) hF26 rfl (Nat.lt_of_le_of_lt hb26_1 (by decide))
        have hE29 : M = m_X8_drift_28 (AB ad F24) (nI j11) := hM.trans ((show m_X8_drift (AB ad F) (nI j11) = m_X8_drift_28 (m_X8_keeps (AB ad F)) (nI j11) from by unfold m_X8_drift; rw [if_neg (neq_cg m8 rfl c9), if_neg (neq_cg m14 rfl c15), if_pos (le_cg m20 rfl c21)]).trans (congr (congrArg (m_X8_drift_28) ((Eq.refl (m_X8_keeps (AB ad F))).trans hm24)) (Eq.refl ((nI j11) : Int32))))
        refine lv_iconst (v := (nI 0)) S.1 S.2.1 dX8_drift_42 (by decide +kernel) ?_
        refine lv_istore_n (lv' := [(2, .int (nI 0)), (0, .ref (ad 58)), (1, .int (nI j11))]) S.1 S.2.1 dX8_drift_43 rfl hl0 (by decide) rfl (fun ls30 hl30 => ?_)
        have lp31 : ∀ (n31 : Nat) (q231 : Nat), ∀ (Fl31 : Nat → va_E) (Hl31 : Heap) (lol31 : List Loc), q231 ≤ j11 → fN (Fl31 58) 1 = fN (F 58) 1 → j11 - q231 < n31 → WT cA ad Fl31 → rFr [58, 62, 63] F Fl31 → va_P D vwCl (rW ad Fl31) Hl31 → va_S (rA ad) s.heap Hl31 lol31 → M = m_X8_drift_L44_31 n31 (AB ad Fl31) (nI q231) (nI j11) → ∀ (ls : Array Slot), lv_has ls 3 [(2, .int (nI q231)), (0, .ref (ad 58)), (1, .int (nI j11))] → W p l e { frames := 3, cells := 0, slots := 0, locals := 70 } s m args below meth c Hl31 lol31 0 0 Q (F0 m 44 ls []) := by
          intro n31
          induction n31 with
          | zero =>
            intro q231 Fl31 Hl31 lol31 iv31_0 ix31_li hm31 hWl31 hFl31 hPl31 hSl31 hEl31 ls31 hl31
            exact absurd hm31 (Nat.not_lt_zero _)
          | succ n31 ih31 =>
            intro q231 Fl31 Hl31 lol31 iv31_0 ix31_li hm31 hWl31 hFl31 hPl31 hSl31 hEl31 ls31 hl31
            have hE32 : M = m_X8_drift_L44_31_b (m_X8_drift_L44_31 n31) (AB ad Fl31) (nI q231) (nI j11) := hEl31
            obtain ⟨ty33, kn33, no33, en33, at33, sa33, sd33, wr33, pl33, va33, hF33, hb33_1, hb33_2, hb33_3, hb33_4, hb33_5, hb33_6⟩ := wt_m hWl31
            have hA34 := fN_of (k := 14) (a := at33) hF33 rfl (Nat.lt_of_le_of_lt hb33_5 (by decide))
            have hL34 := fN_of (k := 1) (a := ty33) hF33 rfl (Nat.lt_of_le_of_lt hb33_1 (by decide))
            refine lv_iload_n S.1 S.2.1 dX8_drift_44 rfl (lv_at hl31 0 rfl) ?_
            refine lv_iload_n S.1 S.2.1 dX8_drift_45 rfl (lv_at hl31 2 rfl) ?_
            refine lv_icmp_ge (tgt := 59) S.1 S.2.1 dX8_drift_46 (by decide) (fun c35 => ?_) (fun c35 => ?_)
            · skip
              have k36 := ci_le (nI_toInt (n := j11) (Nat.lt_of_le_of_lt hj11 (by decide))) (nI_toInt (n := q231) (by omega)) c35
              refine lv_aload_n S.1 S.2.1 dX8_drift_59 rfl (lv_at hl31 1 rfl) ?_
              refine r_get S hK hPl31 58 (by decide) hF33 (C := RX8) (T := TX8) (N := 23) hiX8 rfl 4 (by decide) (am_at in_wsX8_drift_0 2 rfl) (v := .ref (ad 62)) rfl dX8_drift_60 ?_
              refine lv_iconst (v := (nI 3)) S.1 S.2.1 dX8_drift_63 (by decide +kernel) ?_
              obtain ⟨g37, hF37, hg37⟩ := wt_I hWl31 (show (62, 7) ∈ rLI by decide)
              refine r_iald S hK hPl31 62 (by decide) hF37 (vp_in_nI (show 3 < 7 by omega) (by omega)) dX8_drift_64 ?_
              refine lv_topi (fun v39 e39 => ?_)
              have m40 : ((AB ad Fl31) 62 (rl (nI 3))) = v39 := (ab_cg rfl rfl).trans ((AB_g hF37).trans e39.symm)
              have hA41 := fN_of (k := 14) (a := at33) hF33 rfl (Nat.lt_of_le_of_lt hb33_5 (by decide))
              have hL41 := fN_of (k := 1) (a := ty33) hF33 rfl (Nat.lt_of_le_of_lt hb33_1 (by decide))
              have hE42 : M = (v39, AB ad Fl31) := hE32.trans ((show m_X8_drift_L44_31_b (m_X8_drift_L44_31 n31) (AB ad Fl31) (nI q231) (nI j11) = (((AB ad Fl31) 62 (rl (nI 3))), (AB ad Fl31)) from by unfold m_X8_drift_L44_31_b; rw [if_pos (le_cg rfl rfl c35)]).trans (congrArg (fun q => (q, AB ad Fl31)) m40))
              exact hret 65 _ _ _ _ _ dX8_drift_65 rfl hPl31 hSl31 ⟨hWl31, hFl31, ⟨by omega, hM.symm.trans hE42⟩⟩
            have k43 := ci_nle (nI_toInt (n := j11) (Nat.lt_of_le_of_lt hj11 (by decide))) (nI_toInt (n := q231) (by omega)) c35
            refine lv_aload_n S.1 S.2.1 dX8_drift_49 rfl (lv_at hl31 1 rfl) ?_
            have hA44 := fN_of (k := 14) (a := at33) hF33 rfl (Nat.lt_of_le_of_lt hb33_5 (by decide))
            have hL44 := fN_of (k := 1) (a := ty33) hF33 rfl (Nat.lt_of_le_of_lt hb33_1 (by decide))
            refine r_cVv (As := []) (rest := []) S hK hZ hPl31 hSl31 hl31.1 58 (by decide) hF33 (C := RX8) rfl (c_X8_drifts l D cA ad t hI Fl31 hWl31 ) (cwV 0 S.2.2.2.2 gX8_drift_X8_drifts rfl rfl rfl (by decide +kernel) ⟨Nat.le_of_ble_eq_true rfl, Nat.le_of_ble_eq_true rfl⟩) rfl rfl (Nat.le_of_ble_eq_true rfl) ⟨Nat.zero_le _, Nat.zero_le _⟩ dX8_drift_50 (fun F45 H45 locs45 hr45 hP45 hS45 => ?_)
            obtain ⟨hW45, hFc45, hr45⟩ := hr45
            obtain ⟨hr45, hm45⟩ := hr45
            have hFr45 := hFl31.tr hFc45 (by simp <;> first | omega | (simp only [isC, isJ] at *; omega))
            obtain ⟨ty47, kn47, no47, en47, at47, sa47, sd47, wr47, pl47, va47, hF47, hb47_1, hb47_2, hb47_3, hb47_4, hb47_5, hb47_6⟩ := wt_m hW45
            have hA48 := fN_of (k := 14) (a := at47) hF47 rfl (Nat.lt_of_le_of_lt hb47_5 (by decide))
            have hL48 := fN_of (k := 1) (a := ty47) hF47 rfl (Nat.lt_of_le_of_lt hb47_1 (by decide))
            have hE50 : M = m_X8_drift_49 (m_X8_drift_L44_31 n31) (AB ad F45) (nI q231) (nI j11) := hE32.trans ((show m_X8_drift_L44_31_b (m_X8_drift_L44_31 n31) (AB ad Fl31) (nI q231) (nI j11) = m_X8_drift_49 (m_X8_drift_L44_31 n31) (m_X8_drifts (AB ad Fl31)) (nI q231) (nI j11) from by unfold m_X8_drift_L44_31_b; rw [if_neg (nle_cg rfl rfl c35)]).trans (congr (congr (congrArg (m_X8_drift_49 (m_X8_drift_L44_31 n31)) ((Eq.refl (m_X8_drifts (AB ad Fl31))).trans hm45)) (Eq.refl ((nI q231) : Int32))) (Eq.refl ((nI j11) : Int32))))
            have m52 : ((nI q231) + Int32.ofInt (1)) = (nI (q231 + 1)) := (congrArg (fun q : Int32 => q + Int32.ofInt (1)) rfl).trans (nI_add _ 1)
            refine lv_iinc (v := (nI (q231 + 1))) (lv' := [(2, .int (nI (q231 + 1))), (0, .ref (ad 58)), (1, .int (nI j11))]) S.1 S.2.1 dX8_drift_53 hl31 (k := 0) rfl (nI_add _ 1) (by decide) rfl (fun ls51 hl51 => ?_)
            refine lv_goto (tgt := 44) S.1 S.2.1 dX8_drift_56 (by decide) ?_
            have hA53 := fN_of (k := 14) (a := at47) hF47 rfl (Nat.lt_of_le_of_lt hb47_5 (by decide))
            have hL53 := fN_of (k := 1) (a := ty47) hF47 rfl (Nat.lt_of_le_of_lt hb47_1 (by decide))
            have hE54 : M = (m_X8_drift_L44_31 n31) (AB ad F45) (nI (q231 + 1)) (nI j11) := hE50.trans ((show m_X8_drift_49 (m_X8_drift_L44_31 n31) (AB ad F45) (nI q231) (nI j11) = (m_X8_drift_L44_31 n31) (AB ad F45) ((nI q231) + Int32.ofInt (1)) (nI j11) from rfl).trans (congr (congr (congrArg ((m_X8_drift_L44_31 n31)) (rfl : AB ad F45 = AB ad F45)) m52) (Eq.refl ((nI j11) : Int32))))
            exact ih31 (q231 + 1) F45 H45 locs45 (by omega) (by omega) (by omega) hW45 hFr45 hP45 hS45 hE54 ls51 (lv_sub hl51 [0, 1, 2] rfl)
        have hA55 := fN_of (k := 14) (a := at26) hF26 rfl (Nat.lt_of_le_of_lt hb26_5 (by decide))
        have hL55 := fN_of (k := 1) (a := ty26) hF26 rfl (Nat.lt_of_le_of_lt hb26_1 (by decide))
        have hE56 : M = m_X8_drift_L44_31 2000 (AB ad F24) (nI 0) (nI j11) := hE29.trans ((show m_X8_drift_28 (AB ad F24) (nI j11) = m_X8_drift_L44_31 2000 (AB ad F24) (nI 0) (nI j11) from rfl).trans (congr (congr (congrArg (m_X8_drift_L44_31 2000) (rfl : AB ad F24 = AB ad F24)) (Eq.refl ((nI 0) : Int32))) (Eq.refl ((nI j11) : Int32))))
        exact lp31 2000 (0) F24 H24 locs24 (by omega) (by omega) (by omega) hW24 hFr24 hP24 hS24 hE56 ls30 (lv_sub hl30 [0, 1, 2] rfl)
      have k57 := ci_nle rfl (nI_toInt (n := 9000) (by decide)) c21
      refine lv_ldc (v := (-1000000004)) S.1 S.2.1 S.2.2.2.1 (S.2.2.2.2 (.constant RX8 63 (-1000000004)) (am_at in_wsX8_drift_0 3 rfl)) dX8_drift_35 ?_
      have hA58 := fN_of (k := 14) (a := at1) hF1 rfl (Nat.lt_of_le_of_lt hb1_5 (by decide))
      have hL58 := fN_of (k := 1) (a := ty1) hF1 rfl (Nat.lt_of_le_of_lt hb1_1 (by decide))
      have hE59 : M = ((-1000000004), AB ad F) := hM.trans ((show m_X8_drift (AB ad F) (nI j11) = (((-1000000004) : Int32), (AB ad F)) from by unfold m_X8_drift; rw [if_neg (neq_cg m8 rfl c9), if_neg (neq_cg m14 rfl c15), if_neg (nle_cg m20 rfl c21)]).trans (congrArg (fun q => (q, AB ad F)) rfl))
      exact hret 37 _ _ _ _ _ dX8_drift_37 rfl hP hS ⟨hW, hFr, ⟨by omega, hM.symm.trans hE59⟩⟩
    have k60 := ci_eq (nI_toInt (n := b13) (Nat.lt_of_le_of_lt hb13 (by decide))) z_ti c15
    refine lv_ldc (v := (-1000000003)) S.1 S.2.1 S.2.2.2.1 (S.2.2.2.2 (.constant RX8 139 (-1000000003)) (am_at in_wsX8_drift_0 1 rfl)) dX8_drift_20 ?_
    have hA61 := fN_of (k := 14) (a := at1) hF1 rfl (Nat.lt_of_le_of_lt hb1_5 (by decide))
    have hL61 := fN_of (k := 1) (a := ty1) hF1 rfl (Nat.lt_of_le_of_lt hb1_1 (by decide))
    have hE62 : M = ((-1000000003), AB ad F) := hM.trans ((show m_X8_drift (AB ad F) (nI j11) = (((-1000000003) : Int32), (AB ad F)) from by unfold m_X8_drift; rw [if_neg (neq_cg m8 rfl c9), if_pos (eq_cg m14 rfl c15)]).trans (congrArg (fun q => (q, AB ad F)) rfl))
    exact hret 22 _ _ _ _ _ dX8_drift_22 rfl hP hS ⟨hW, hFr, ⟨by omega, hM.symm.trans hE62⟩⟩
  have k63 := ci_eq (nI_toInt (n := b4) (Nat.lt_of_le_of_lt hb4 (by decide))) z_ti c9
  refine lv_ldc (v := (-1000000002)) S.1 S.2.1 S.2.2.2.1 (S.2.2.2.2 (.constant RX8 59 (-1000000002)) (am_at in_wsX8_drift_0 0 rfl)) dX8_drift_10 ?_
  have hA64 := fN_of (k := 14) (a := at1) hF1 rfl (Nat.lt_of_le_of_lt hb1_5 (by decide))
  have hL64 := fN_of (k := 1) (a := ty1) hF1 rfl (Nat.lt_of_le_of_lt hb1_1 (by decide))
  have hE65 : M = ((-1000000002), AB ad F) := hM.trans ((show m_X8_drift (AB ad F) p1 = (((-1000000002) : Int32), (AB ad F)) from by unfold m_X8_drift; rw [if_pos (eq_cg m8 rfl c9)]).trans (congrArg (fun q => (q, AB ad F)) rfl))
  exact hret 12 _ _ _ _ _ dX8_drift_12 rfl hP hS ⟨hW, hFr, ⟨by omega, hM.symm.trans hE65⟩⟩
noncomputable def m_X8_undo_35 (k0 : SS → Int32 → Int32 × SS) (σ : SS) (a0 : Int32) : Int32 × SS :=
  k0 σ (a0 + Int32.ofInt (1))
noncomputable def m_X8_undo_L22_13_b (k0 : SS → Int32 → Int32 × SS) (σ : SS) (a0 : Int32) : Int32 × SS :=
  if (nI 7) ≤ a0 then
    ((σ 58 6), σ)
  else
    m_X8_undo_35 k0 (st σ 62 (rl a0) (σ 63 (rl (((nI 7) * (σ 58 6)) + a0)))) a0
noncomputable def m_X8_undo_L22_13 : Nat → SS → Int32 → Int32 × SS
  | 0 => fun σ _ => (0, σ)
  | n + 1 => m_X8_undo_L22_13_b (m_X8_undo_L22_13 n)
noncomputable def m_X8_undo_10 (σ : SS) : Int32 × SS :=
  m_X8_undo_L22_13 2000 σ (nI 0)
noncomputable def m_X8_undo (σ : SS) : Int32 × SS :=
  if (σ 58 6) = (0 : Int32) then
    (((-1000000003) : Int32), σ)
  else
    m_X8_undo_10 (st σ 58 6 ((σ 58 6) - (nI 1)))
set_option maxHeartbeats 4000000 in
set_option maxRecDepth 100000 in
theorem c_X8_undo (l : Launch) (D : va_G) (cA ad : Nat → Nat) (t : Nat) (hI : rI ad) (F : Nat → va_E) (hW : WT cA ad F) : MI l D cA ad t yX8_undo wsX8_undo { frames := 0, cells := 0, slots := 0, locals := 0 } [.ref (ad 58)] F (fun r F' => WT cA ad F' ∧ rFr [58, 62] F F' ∧ ((fN (F' 58) 1 = fN (F 58) 1) ∧ m_X8_undo (AB ad F) = (r, AB ad F'))) := by
  refine en_I rfl (by decide +kernel) (Nat.le_of_ble_eq_true rfl) ?_
  intro p e s m args below meth c ls0 Q S hK hZ hP hS hl0 hret
  have hl0 : lv_has ls0 2 [(0, .ref (ad 58))] := hl0
  have hFr : rFr [58, 62] F F := rFr.rf
  have hiX8 : ∀ w ∈ u_ws RX8 TX8 23, w ∈ wsX8_undo := in_wsX8_undo_1
  obtain ⟨M, hM⟩ : ∃ M, M = m_X8_undo (AB ad F) := ⟨_, rfl⟩
  obtain ⟨ty1, kn1, no1, en1, at1, sa1, sd1, wr1, pl1, va1, hF1, hb1_1, hb1_2, hb1_3, hb1_4, hb1_5, hb1_6⟩ := wt_m hW
  have hA2 := fN_of (k := 14) (a := at1) hF1 rfl (Nat.lt_of_le_of_lt hb1_5 (by decide))
  have hL2 := fN_of (k := 1) (a := ty1) hF1 rfl (Nat.lt_of_le_of_lt hb1_1 (by decide))
  refine lv_aload_n S.1 S.2.1 dX8_undo_0 rfl (lv_at hl0 0 rfl) ?_
  refine r_get S hK hP 58 (by decide) hF1 (C := RX8) (T := TX8) (N := 23) hiX8 rfl 6 (by decide) (am_at in_wsX8_undo_0 0 rfl) (v := .int (nI kn1)) rfl dX8_undo_1 ?_
  have m3 : ((AB ad F) 58 6) = (nI kn1) := AB_f hF1 rfl
  refine lv_if_ne (tgt := 10) S.1 S.2.1 dX8_undo_4 (by decide) (fun c4 => ?_) (fun c4 => ?_)
  · skip
    have k5 := ci_ne (nI_toInt (n := kn1) (by omega)) z_ti c4
    refine lv_aload_n S.1 S.2.1 dX8_undo_10 rfl (lv_at hl0 0 rfl) ?_
    refine lv_dup S.1 S.2.1 dX8_undo_11 rfl ?_
    refine r_get S hK hP 58 (by decide) hF1 (C := RX8) (T := TX8) (N := 23) hiX8 rfl 6 (by decide) (am_at in_wsX8_undo_0 0 rfl) (v := .int (nI kn1)) rfl dX8_undo_12 ?_
    have m6 : ((AB ad F) 58 6) = (nI kn1) := AB_f hF1 rfl
    refine lv_iconst (v := (nI 1)) S.1 S.2.1 dX8_undo_15 (by decide +kernel) ?_
    refine lv_isub S.1 S.2.1 dX8_undo_16 ?_
    refine lv_topi (fun v7 e7 => ?_)
    obtain rfl : v7 = nI (kn1 - 1) := e7.trans (pk_sub (by omega))
    have m8 : (((AB ad F) 58 6) - (nI 1)) = (nI (kn1 - 1)) := cg2 (fun (x : Int32) (y : Int32) => x - y) m6 (Eq.refl ((nI 1) : Int32)) e7
    refine r_put S hI hK hP hS 58 (by decide) hF1 (C := RX8) (T := TX8) (N := 23) hiX8 tyX8_ok nmX8 rfl 6 (by decide) (am_at in_wsX8_undo_0 0 rfl) rfl rfl rfl (Nat.le_of_ble_eq_true rfl) dX8_undo_17 (fun F9 H9 locs9 eF9 hP9 hS9 => ?_)
    have hF9 : F9 58 = .inr (8, [.ref (ad 59), .int (nI ty1), .ref (ad 60), .ref (ad 61), .ref (ad 62), .ref (ad 63), .int (nI (kn1 - 1)), .ref (ad 64), .ref (ad 65), .int sd1, .ref (ad 66), .int (nI no1), .ref (ad 67), .int (nI en1), .int (nI at1), .int wr1, .int pl1, .int va1, .int (nI sa1), .ref (ad 68), .ref (ad 69), .ref (ad 70), .ref (ad 71)]) := by rw [eF9]; exact va_up_self _ _ _
    have hW9 := hW.up eF9 (ok_m ⟨ty1, kn1 - 1, no1, en1, at1, sa1, sd1, wr1, pl1, va1, rfl, by omega, by omega, by omega, by omega, by omega, by omega⟩)
    have hFr9 := hFr.up eF9 (by simp <;> first | omega | (simp only [isC, isJ] at *; omega))
    have hE11 : M = m_X8_undo_10 (AB ad F9) := hM.trans ((show m_X8_undo (AB ad F) = m_X8_undo_10 (st (AB ad F) 58 6 (((AB ad F) 58 6) - (nI 1))) from by unfold m_X8_undo; rw [if_neg (neq_cg m3 rfl c4)]).trans (congrArg (m_X8_undo_10) ((st_cg rfl rfl m8).trans (AB_put hF1 (Nat.le_of_ble_eq_true rfl) eF9).symm)))
    refine lv_iconst (v := (nI 0)) S.1 S.2.1 dX8_undo_20 (by decide +kernel) ?_
    refine lv_istore_n (lv' := [(1, .int (nI 0)), (0, .ref (ad 58))]) S.1 S.2.1 dX8_undo_21 rfl hl0 (by decide) rfl (fun ls12 hl12 => ?_)
    have lp13 : ∀ (n13 : Nat) (q113 : Nat), ∀ (Fl13 : Nat → va_E) (Hl13 : Heap) (lol13 : List Loc), q113 ≤ 7 → fN (Fl13 58) 6 < 20 → fN (Fl13 58) 1 = fN (F 58) 1 → 7 - q113 < n13 → WT cA ad Fl13 → rFr [58, 62] F Fl13 → va_P D vwCl (rW ad Fl13) Hl13 → va_S (rA ad) s.heap Hl13 lol13 → M = m_X8_undo_L22_13 n13 (AB ad Fl13) (nI q113) → ∀ (ls : Array Slot), lv_has ls 2 [(1, .int (nI q113)), (0, .ref (ad 58))] → W p l e { frames := 0, cells := 0, slots := 0, locals := 0 } s m args below meth c Hl13 lol13 0 0 Q (F0 m 22 ls []) := by
      intro n13
      induction n13 with
      | zero =>
        intro q113 Fl13 Hl13 lol13 iv13_0 ix13_kn ix13_li hm13 hWl13 hFl13 hPl13 hSl13 hEl13 ls13 hl13
        exact absurd hm13 (Nat.not_lt_zero _)
      | succ n13 ih13 =>
        intro q113 Fl13 Hl13 lol13 iv13_0 ix13_kn ix13_li hm13 hWl13 hFl13 hPl13 hSl13 hEl13 ls13 hl13
        have hE14 : M = m_X8_undo_L22_13_b (m_X8_undo_L22_13 n13) (AB ad Fl13) (nI q113) := hEl13
        obtain ⟨ty15, kn15, no15, en15, at15, sa15, sd15, wr15, pl15, va15, hF15, hb15_1, hb15_2, hb15_3, hb15_4, hb15_5, hb15_6⟩ := wt_m hWl13
        have hK16 := fN_of (k := 6) (a := kn15) hF15 rfl (Nat.lt_of_le_of_lt hb15_2 (by decide))
        have hA17 := fN_of (k := 14) (a := at15) hF15 rfl (Nat.lt_of_le_of_lt hb15_5 (by decide))
        have hL17 := fN_of (k := 1) (a := ty15) hF15 rfl (Nat.lt_of_le_of_lt hb15_1 (by decide))
        refine lv_iload_n S.1 S.2.1 dX8_undo_22 rfl (lv_at hl13 0 rfl) ?_
        refine lv_bipush (v := (nI 7)) S.1 S.2.1 dX8_undo_23 (by decide +kernel) ?_
        refine lv_icmp_ge (tgt := 54) S.1 S.2.1 dX8_undo_25 (by decide) (fun c18 => ?_) (fun c18 => ?_)
        · skip
          have k19 := ci_le (nI_toInt (n := 7) (by decide)) (nI_toInt (n := q113) (by omega)) c18
          refine lv_aload_n S.1 S.2.1 dX8_undo_54 rfl (lv_at hl13 1 rfl) ?_
          refine r_get S hK hPl13 58 (by decide) hF15 (C := RX8) (T := TX8) (N := 23) hiX8 rfl 6 (by decide) (am_at in_wsX8_undo_0 0 rfl) (v := .int (nI kn15)) rfl dX8_undo_55 ?_
          have m20 : ((AB ad Fl13) 58 6) = (nI kn15) := AB_f hF15 rfl
          have hA21 := fN_of (k := 14) (a := at15) hF15 rfl (Nat.lt_of_le_of_lt hb15_5 (by decide))
          have hL21 := fN_of (k := 1) (a := ty15) hF15 rfl (Nat.lt_of_le_of_lt hb15_1 (by decide))
          have hE22 : M = ((nI kn15), AB ad Fl13) := hE14.trans ((show m_X8_undo_L22_13_b (m_X8_undo_L22_13 n13) (AB ad Fl13) (nI q113) = (((AB ad Fl13) 58 6), (AB ad Fl13)) from by unfold m_X8_undo_L22_13_b; rw [if_pos (le_cg rfl rfl c18)]).trans (congrArg (fun q => (q, AB ad Fl13)) m20))
          exact hret 58 _ _ _ _ _ dX8_undo_58 rfl hPl13 hSl13 ⟨hWl13, hFl13, ⟨by omega, hM.symm.trans hE22⟩⟩
        have k23 := ci_nle (nI_toInt (n := 7) (by decide)) (nI_toInt (n := q113) (by omega)) c18
        refine lv_aload_n S.1 S.2.1 dX8_undo_28 rfl (lv_at hl13 1 rfl) ?_
        refine r_get S hK hPl13 58 (by decide) hF15 (C := RX8) (T := TX8) (N := 23) hiX8 rfl 4 (by decide) (am_at in_wsX8_undo_0 2 rfl) (v := .ref (ad 62)) rfl dX8_undo_29 ?_
        refine lv_iload_n S.1 S.2.1 dX8_undo_32 rfl (lv_at hl13 0 rfl) ?_
        refine lv_aload_n S.1 S.2.1 dX8_undo_33 rfl (lv_at hl13 1 rfl) ?_
        refine r_get S hK hPl13 58 (by decide) hF15 (C := RX8) (T := TX8) (N := 23) hiX8 rfl 5 (by decide) (am_at in_wsX8_undo_0 3 rfl) (v := .ref (ad 63)) rfl dX8_undo_34 ?_
        refine lv_bipush (v := (nI 7)) S.1 S.2.1 dX8_undo_37 (by decide +kernel) ?_
        refine lv_aload_n S.1 S.2.1 dX8_undo_39 rfl (lv_at hl13 1 rfl) ?_
        refine r_get S hK hPl13 58 (by decide) hF15 (C := RX8) (T := TX8) (N := 23) hiX8 rfl 6 (by decide) (am_at in_wsX8_undo_0 0 rfl) (v := .int (nI kn15)) rfl dX8_undo_40 ?_
        have m24 : ((AB ad Fl13) 58 6) = (nI kn15) := AB_f hF15 rfl
        refine lv_imul S.1 S.2.1 dX8_undo_43 ?_
        refine lv_topi (fun v25 e25 => ?_)
        obtain rfl : v25 = nI (7 * kn15) := e25.trans (pk_mul _ _)
        have m26 : ((nI 7) * ((AB ad Fl13) 58 6)) = (nI (7 * kn15)) := cg2 (fun (x : Int32) (y : Int32) => x * y) (Eq.refl ((nI 7) : Int32)) m24 e25
        refine lv_iload_n S.1 S.2.1 dX8_undo_44 rfl (lv_at hl13 0 rfl) ?_
        refine lv_iadd S.1 S.2.1 dX8_undo_45 ?_
        refine lv_topi (fun v27 e27 => ?_)
        obtain rfl : v27 = nI ((7 * kn15) + q113) := e27.trans (nI_add _ _)
        have m28 : (((nI 7) * ((AB ad Fl13) 58 6)) + (nI q113)) = (nI ((7 * kn15) + q113)) := cg2 (fun (x : Int32) (y : Int32) => x + y) m26 (Eq.refl ((nI q113) : Int32)) e27
        obtain ⟨g29, hF29, hg29⟩ := wt_I hWl13 (show (63, 140) ∈ rLI by decide)
        refine r_iald S hK hPl13 63 (by decide) hF29 (vp_in_nI (show (7 * kn15) + q113 < 140 by omega) (by omega)) dX8_undo_46 ?_
        refine lv_topi (fun v31 e31 => ?_)
        have m32 : ((AB ad Fl13) 63 (rl (((nI 7) * ((AB ad Fl13) 58 6)) + (nI q113)))) = v31 := (ab_cg rfl m28).trans ((AB_g hF29).trans e31.symm)
        obtain ⟨g33, hF33, hg33⟩ := wt_I hWl13 (show (62, 7) ∈ rLI by decide)
        refine r_iast S hI hK hPl13 hSl13 62 (by decide) hF33 (vp_in_nI (show q113 < 7 by omega) (by omega)) dX8_undo_47 (fun F34 H34 locs34 eF34 hP34 hS34 => ?_)
        have hW34 := hWl13.up eF34 (ok_I (show (62, 7) ∈ rLI by decide) (okI_up hg33 (by rw [nI_clamp (by omega)]; apply to_S; rw [e31, nI_clamp (by omega)]; exact okS_cg (by omega) (pr_S7 (hg29 ((7 * kn15) + q113) (by omega))))))
        have hFr34 := hFl13.up eF34 (by simp <;> first | omega | (simp only [isC, isJ] at *; omega))
        have hE36 : M = m_X8_undo_35 (m_X8_undo_L22_13 n13) (AB ad F34) (nI q113) := hE14.trans ((show m_X8_undo_L22_13_b (m_X8_undo_L22_13 n13) (AB ad Fl13) (nI q113) = m_X8_undo_35 (m_X8_undo_L22_13 n13) (st (AB ad Fl13) 62 (rl (nI q113)) ((AB ad Fl13) 63 (rl (((nI 7) * ((AB ad Fl13) 58 6)) + (nI q113))))) (nI q113) from by unfold m_X8_undo_L22_13_b; rw [if_neg (nle_cg rfl rfl c18)]).trans (congr (congrArg (m_X8_undo_35 (m_X8_undo_L22_13 n13)) ((st_cg rfl (congrArg rl rfl) m32).trans (AB_ast hF33 eF34).symm)) (Eq.refl ((nI q113) : Int32))))
        obtain ⟨gg34, eg34⟩ : ∃ g9, g9 = upd g33 (nI q113).toNatClampNeg v31 := ⟨_, rfl⟩
        have hF34 : F34 62 = .inl (cA 0, 7, .inl gg34) := by rw [eF34, eg34]; exact va_up_self _ _ _
        have hg34 : ∀ j, j < 7 → rPr 62 j (gg34 j) := by rw [eg34]; exact pr_up hg33 (by rw [nI_clamp (by omega)]; apply to_S; rw [e31, nI_clamp (by omega)]; exact okS_cg (by omega) (pr_S7 (hg29 ((7 * kn15) + q113) (by omega))))
        have m38 : ((nI q113) + Int32.ofInt (1)) = (nI (q113 + 1)) := (congrArg (fun q : Int32 => q + Int32.ofInt (1)) rfl).trans (nI_add _ 1)
        refine lv_iinc (v := (nI (q113 + 1))) (lv' := [(1, .int (nI (q113 + 1))), (0, .ref (ad 58))]) S.1 S.2.1 dX8_undo_48 hl13 (k := 0) rfl (nI_add _ 1) (by decide) rfl (fun ls37 hl37 => ?_)
        refine lv_goto (tgt := 22) S.1 S.2.1 dX8_undo_51 (by decide) ?_
        have hF39 := (show F34 58 = Fl13 58 by rw [eF34]; exact va_up_ne _ _ (by decide)).trans hF15
        have hK40 := fN_of (k := 6) (a := kn15) hF39 rfl (Nat.lt_of_le_of_lt hb15_2 (by decide))
        have hA41 := fN_of (k := 14) (a := at15) hF39 rfl (Nat.lt_of_le_of_lt hb15_5 (by decide))
        have hL41 := fN_of (k := 1) (a := ty15) hF39 rfl (Nat.lt_of_le_of_lt hb15_1 (by decide))
        have hE42 : M = (m_X8_undo_L22_13 n13) (AB ad F34) (nI (q113 + 1)) := hE36.trans ((show m_X8_undo_35 (m_X8_undo_L22_13 n13) (AB ad F34) (nI q113) = (m_X8_undo_L22_13 n13) (AB ad F34) ((nI q113) + Int32.ofInt (1)) from rfl).trans (congr (congrArg ((m_X8_undo_L22_13 n13)) (rfl : AB ad F34 = AB ad F34)) m38))
        exact ih13 (q113 + 1) F34 H34 locs34 (by omega) (by omega) (by omega) (by omega) hW34 hFr34 hP34 hS34 hE42 ls37 (lv_sub hl37 [0, 1] rfl)
    have hK43 := fN_of (k := 6) (a := kn1 - 1) hF9 rfl (by omega)
    have hA44 := fN_of (k := 14) (a := at1) hF9 rfl (Nat.lt_of_le_of_lt hb1_5 (by decide))
    have hL44 := fN_of (k := 1) (a := ty1) hF9 rfl (Nat.lt_of_le_of_lt hb1_1 (by decide))
    have hE45 : M = m_X8_undo_L22_13 2000 (AB ad F9) (nI 0) := hE11.trans ((show m_X8_undo_10 (AB ad F9) = m_X8_undo_L22_13 2000 (AB ad F9) (nI 0) from rfl).trans (congr (congrArg (m_X8_undo_L22_13 2000) (rfl : AB ad F9 = AB ad F9)) (Eq.refl ((nI 0) : Int32))))
    exact lp13 2000 (0) F9 H9 locs9 (by omega) (by omega) (by omega) (by omega) hW9 hFr9 hP9 hS9 hE45 ls12 (lv_sub hl12 [0, 1] rfl)
  have k46 := ci_eq (nI_toInt (n := kn1) (by omega)) z_ti c4
  refine lv_ldc (v := (-1000000003)) S.1 S.2.1 S.2.2.2.1 (S.2.2.2.2 (.constant RX8 139 (-1000000003)) (am_at in_wsX8_undo_0 1 rfl)) dX8_undo_7 ?_
  have hA47 := fN_of (k := 14) (a := at1) hF1 rfl (Nat.lt_of_le_of_lt hb1_5 (by decide))
  have hL47 := fN_of (k := 1) (a := ty1) hF1 rfl (Nat.lt_of_le_of_lt hb1_1 (by decide))
  have hE48 : M = ((-1000000003), AB ad F) := hM.trans ((show m_X8_undo (AB ad F) = (((-1000000003) : Int32), (AB ad F)) from by unfold m_X8_undo; rw [if_pos (eq_cg m3 rfl c4)]).trans (congrArg (fun q => (q, AB ad F)) rfl))
  exact hret 9 _ _ _ _ _ dX8_undo_9 rfl hP hS ⟨hW, hFr, ⟨by omega, hM.symm.trans hE48⟩⟩
noncomputable def m_X8_bit (σ : SS) (a0 : Int32) (a1 : Int32) : Int64 :=
  ((1 : Int64) <<< ((((nI 5) * a0) + a1).toInt64 &&& 63))
set_option maxHeartbeats 4000000 in
set_option maxRecDepth 100000 in
theorem c_X8_bit (l : Launch) (D : va_G) (cA ad : Nat → Nat) (t : Nat) (hI : rI ad) (F : Nat → va_E) (hW : WT cA ad F) (p1 : Int32) (p2 : Int32) : ML l D cA ad t yX8_bit wsX8_bit { frames := 0, cells := 0, slots := 0, locals := 0 } [.int p1, .int p2] F (fun r => (True) ∧ m_X8_bit (AB ad F) p1 p2 = r) := by
  refine en_L rfl (by decide +kernel) (Nat.le_of_ble_eq_true rfl) ?_
  intro p e s m args below meth c ls0 Q S hK hZ hP hS hl0 hret
  have hl0 : lv_has ls0 2 [(0, .int p1), (1, .int p2)] := hl0
  obtain ⟨M, hM⟩ : ∃ M, M = m_X8_bit (AB ad F) p1 p2 := ⟨_, rfl⟩
  refine lv_lconst (v := 1) S.1 S.2.1 dX8_bit_0 (by decide +kernel) ?_
  refine lv_iconst (v := (nI 5)) S.1 S.2.1 dX8_bit_1 (by decide +kernel) ?_
  refine lv_iload_n S.1 S.2.1 dX8_bit_2 rfl (lv_at hl0 0 rfl) ?_
  refine lv_imul S.1 S.2.1 dX8_bit_3 ?_
  refine lv_topi (fun v1 e1 => ?_)
  have m2 : ((nI 5) * p1) = v1 := cg2 (fun (x : Int32) (y : Int32) => x * y) (Eq.refl ((nI 5) : Int32)) (Eq.refl (p1 : Int32)) e1
  refine lv_iload_n S.1 S.2.1 dX8_bit_4 rfl (lv_at hl0 1 rfl) ?_
  refine lv_iadd S.1 S.2.1 dX8_bit_5 ?_
  refine lv_topi (fun v3 e3 => ?_)
  have m4 : (((nI 5) * p1) + p2) = v3 := cg2 (fun (x : Int32) (y : Int32) => x + y) m2 (Eq.refl (p2 : Int32)) e3
  refine lv_lshl S.1 S.2.1 dX8_bit_6 rfl ?_
  refine lv_topl (fun v5 e5 => ?_)
  have m6 : ((1 : Int64) <<< ((((nI 5) * p1) + p2).toInt64 &&& 63)) = v5 := cg2 (fun (x : Int64) (y : Int32) => x <<< (y.toInt64 &&& 63)) (Eq.refl (1 : Int64)) m4 e5
  have hE7 : M = v5 := hM.trans ((show m_X8_bit (AB ad F) p1 p2 = ((1 : Int64) <<< ((((nI 5) * p1) + p2).toInt64 &&& 63)) from rfl).trans m6)
  exact hret 7 _ _ dX8_bit_7 (⟨trivial, hM.symm.trans hE7⟩)
noncomputable def m_X8_has (σ : SS) (a0 : Int64) (a1 : Int32) (a2 : Int32) : Int32 :=
  if (lg_cmp (a0 &&& (m_X8_bit σ a1 a2)) (0 : Int64)) = (0 : Int32) then
    (nI 0)
  else
    (nI 1)
set_option maxHeartbeats 4000000 in
set_option maxRecDepth 100000 in
theorem c_X8_has (l : Launch) (D : va_G) (cA ad : Nat → Nat) (t : Nat) (hI : rI ad) (F : Nat → va_E) (hW : WT cA ad F) (p1 : Int64) (p2 : Int32) (p3 : Int32) : MP l D cA ad t yX8_has wsX8_has { frames := 1, cells := 0, slots := 0, locals := 21 } [.long p1, .int p2, .int p3] F (fun r => (le32 1 r) ∧ m_X8_has (AB ad F) p1 p2 p3 = r) := by
  refine en_P rfl (by decide +kernel) (Nat.le_of_ble_eq_true rfl) ?_
  intro p e s m args below meth c ls0 Q S hK hZ hP hS hl0 hret
  have hl0 : lv_has ls0 4 [(0, .long p1), (2, .int p2), (3, .int p3)] := hl0
  obtain ⟨M, hM⟩ : ∃ M, M = m_X8_has (AB ad F) p1 p2 p3 := ⟨_, rfl⟩
  refine lv_lload_n S.1 S.2.1 dX8_has_0 rfl (lv_at hl0 0 rfl) ?_
  refine lv_iload_n S.1 S.2.1 dX8_has_1 rfl (lv_at hl0 1 rfl) ?_
  refine lv_iload_n S.1 S.2.1 dX8_has_2 rfl (lv_at hl0 2 rfl) ?_
  refine r_cSl (As := [.int p2, .int p3]) (rest := [.long p1]) S hK hZ hP hS hl0.1 (c_X8_bit l D cA ad t hI F hW p2 p3) (va_cwS 2 S.2.2.2.2 gX8_has_X8_bit rfl rfl rfl (by decide +kernel) ⟨Nat.le_of_ble_eq_true rfl, Nat.le_of_ble_eq_true rfl⟩) rfl rfl (Nat.le_of_ble_eq_true rfl) ⟨Nat.zero_le _, Nat.zero_le _⟩ dX8_has_3 (fun r1 hr1 => ?_)
  obtain ⟨hr1, hm1⟩ := hr1
  have m2 : (m_X8_bit (AB ad F) p2 p3) = r1 := (congr (congr (Eq.refl (m_X8_bit (AB ad F))) (Eq.refl (p2 : Int32))) (Eq.refl (p3 : Int32))).trans hm1
  refine lv_land S.1 S.2.1 dX8_has_6 ?_
  refine lv_topl (fun v3 e3 => ?_)
  have m4 : (p1 &&& (m_X8_bit (AB ad F) p2 p3)) = v3 := cg2 (fun (x : Int64) (y : Int64) => x &&& y) (Eq.refl (p1 : Int64)) m2 e3
  refine lv_lconst (v := 0) S.1 S.2.1 dX8_has_7 (by decide +kernel) ?_
  refine W.lcmp S.1 S.2.1 dX8_has_8 ?_
  refine lv_topi (fun v5 e5 => ?_)
  have m6 : (lg_cmp (p1 &&& (m_X8_bit (AB ad F) p2 p3)) (0 : Int64)) = v5 := cg2 (fun (x : Int64) (y : Int64) => lg_cmp x y) m4 (Eq.refl (0 : Int64)) e5
  refine lv_if_eq (tgt := 16) S.1 S.2.1 dX8_has_9 (by decide) (fun c7 => ?_) (fun c7 => ?_)
  · skip
    have k8 := ci_eq rfl z_ti c7
    refine lv_iconst (v := (nI 0)) S.1 S.2.1 dX8_has_16 (by decide +kernel) ?_
    have hE9 : M = (nI 0) := hM.trans ((show m_X8_has (AB ad F) p1 p2 p3 = (nI 0) from by unfold m_X8_has; rw [if_pos (eq_cg m6 rfl c7)]).trans rfl)
    exact hret 17 _ _ dX8_has_17 rfl (⟨⟨0, by omega, rfl⟩, hM.symm.trans hE9⟩)
  have k10 := ci_ne rfl z_ti c7
  refine lv_iconst (v := (nI 1)) S.1 S.2.1 dX8_has_12 (by decide +kernel) ?_
  refine lv_goto (tgt := 17) S.1 S.2.1 dX8_has_13 (by decide) ?_
  have hE11 : M = (nI 1) := hM.trans ((show m_X8_has (AB ad F) p1 p2 p3 = (nI 1) from by unfold m_X8_has; rw [if_neg (neq_cg m6 rfl c7)]).trans rfl)
  exact hret 17 _ _ dX8_has_17 rfl (⟨⟨1, by omega, rfl⟩, hM.symm.trans hE11⟩)
noncomputable def m_X8_goes_L91_199_b (k0 : SS → Int32 → Int64 → Int64 → Int32 → Int32 → Int64) (k1 : SS → Int32 → Int32 → Int32 → Int64 → Int64 → Int32 → Int32 → Int64) (k2 : SS → Int32 → Int64 → Int32 → Int32 → Int32 → Int64 → Int32 → Int32 → Int64) (σ : SS) (a0 : Int32) (a1 : Int64) (a2 : Int32) (a3 : Int32) (a4 : Int32) (a5 : Int64) (a6 : Int32) (a7 : Int32) : Int64 :=
  if (σ 60 (rl (nI 2))) ≤ a0 then
    k1 σ (a2 + Int32.ofInt (1)) a3 a4 a1 a5 a6 a7
  else
    if a7 = ((-1) : Int32) then
      if ((a3 >>> (a0 &&& 31)) &&& (nI 1)) = (nI 1) then
        k2 σ (a0 + Int32.ofInt (1)) (a1 ||| (m_X8_bit σ a0 (nI 0))) a2 a3 a4 a5 a6 a7
      else
        k2 σ (a0 + Int32.ofInt (1)) (a1 ||| (0 : Int64)) a2 a3 a4 a5 a6 a7
    else
      k2 σ (a0 + Int32.ofInt (1)) (a1 ||| (0 : Int64)) a2 a3 a4 a5 a6 a7
noncomputable def m_X8_goes_L91_199 (k0 : SS → Int32 → Int64 → Int64 → Int32 → Int32 → Int64) (k1 : SS → Int32 → Int32 → Int32 → Int64 → Int64 → Int32 → Int32 → Int64) : Nat → SS → Int32 → Int64 → Int32 → Int32 → Int32 → Int64 → Int32 → Int32 → Int64
  | 0 => fun σ _ _ _ _ _ _ _ _ => 0
  | n + 1 => m_X8_goes_L91_199_b k0 k1 (m_X8_goes_L91_199 k0 k1 n)
noncomputable def m_X8_goes_L91_148_b (k0 : SS → Int32 → Int64 → Int64 → Int32 → Int32 → Int64) (k1 : SS → Int32 → Int32 → Int32 → Int64 → Int64 → Int32 → Int32 → Int64) (k2 : SS → Int32 → Int64 → Int32 → Int32 → Int32 → Int64 → Int32 → Int32 → Int64) (σ : SS) (a0 : Int32) (a1 : Int64) (a2 : Int32) (a3 : Int32) (a4 : Int32) (a5 : Int64) (a6 : Int32) (a7 : Int32) : Int64 :=
  if (σ 60 (rl (nI 2))) ≤ a0 then
    k1 σ (a2 + Int32.ofInt (1)) a3 a4 a1 a5 a6 a7
  else
    if a7 = ((-1) : Int32) then
      if ((a3 >>> (a0 &&& 31)) &&& (nI 1)) = (nI 1) then
        k2 σ (a0 + Int32.ofInt (1)) (a1 ||| (m_X8_bit σ a0 (nI 0))) a2 a3 a4 a5 a6 a7
      else
        k2 σ (a0 + Int32.ofInt (1)) (a1 ||| (0 : Int64)) a2 a3 a4 a5 a6 a7
    else
      k2 σ (a0 + Int32.ofInt (1)) (a1 ||| (0 : Int64)) a2 a3 a4 a5 a6 a7
noncomputable def m_X8_goes_L91_148 (k0 : SS → Int32 → Int64 → Int64 → Int32 → Int32 → Int64) (k1 : SS → Int32 → Int32 → Int32 → Int64 → Int64 → Int32 → Int32 → Int64) : Nat → SS → Int32 → Int64 → Int32 → Int32 → Int32 → Int64 → Int32 → Int32 → Int64
  | 0 => fun σ _ _ _ _ _ _ _ _ => 0
  | n + 1 => m_X8_goes_L91_148_b k0 k1 (m_X8_goes_L91_148 k0 k1 n)
noncomputable def m_X8_goes_L91_99_b (k0 : SS → Int32 → Int64 → Int64 → Int32 → Int32 → Int64) (k1 : SS → Int32 → Int32 → Int32 → Int64 → Int64 → Int32 → Int32 → Int64) (k2 : SS → Int32 → Int64 → Int32 → Int32 → Int32 → Int64 → Int32 → Int32 → Int64) (σ : SS) (a0 : Int32) (a1 : Int64) (a2 : Int32) (a3 : Int32) (a4 : Int32) (a5 : Int64) (a6 : Int32) (a7 : Int32) : Int64 :=
  if (σ 60 (rl (nI 2))) ≤ a0 then
    k1 σ (a2 + Int32.ofInt (1)) a3 a4 a1 a5 a6 a7
  else
    if a7 = ((-1) : Int32) then
      if ((a3 >>> (a0 &&& 31)) &&& (nI 1)) = (nI 1) then
        k2 σ (a0 + Int32.ofInt (1)) (a1 ||| (m_X8_bit σ a0 (nI 0))) a2 a3 a4 a5 a6 a7
      else
        k2 σ (a0 + Int32.ofInt (1)) (a1 ||| (0 : Int64)) a2 a3 a4 a5 a6 a7
    else
      k2 σ (a0 + Int32.ofInt (1)) (a1 ||| (0 : Int64)) a2 a3 a4 a5 a6 a7
noncomputable def m_X8_goes_L91_99 (k0 : SS → Int32 → Int64 → Int64 → Int32 → Int32 → Int64) (k1 : SS → Int32 → Int32 → Int32 → Int64 → Int64 → Int32 → Int32 → Int64) : Nat → SS → Int32 → Int64 → Int32 → Int32 → Int32 → Int64 → Int32 → Int32 → Int64
  | 0 => fun σ _ _ _ _ _ _ _ _ => 0
  | n + 1 => m_X8_goes_L91_99_b k0 k1 (m_X8_goes_L91_99 k0 k1 n)
noncomputable def m_X8_goes_L91_46_b (k0 : SS → Int32 → Int64 → Int64 → Int32 → Int32 → Int64) (k1 : SS → Int32 → Int32 → Int32 → Int64 → Int64 → Int32 → Int32 → Int64) (k2 : SS → Int32 → Int64 → Int32 → Int32 → Int32 → Int64 → Int32 → Int32 → Int64) (σ : SS) (a0 : Int32) (a1 : Int64) (a2 : Int32) (a3 : Int32) (a4 : Int32) (a5 : Int64) (a6 : Int32) (a7 : Int32) : Int64 :=
  if (σ 60 (rl (nI 2))) ≤ a0 then
    k1 σ (a2 + Int32.ofInt (1)) a3 a4 a1 a5 a6 a7
  else
    if a7 = ((-1) : Int32) then
      if ((a3 >>> (a0 &&& 31)) &&& (nI 1)) = (nI 1) then
        k2 σ (a0 + Int32.ofInt (1)) (a1 ||| (m_X8_bit σ a0 (nI 0))) a2 a3 a4 a5 a6 a7
      else
        k2 σ (a0 + Int32.ofInt (1)) (a1 ||| (0 : Int64)) a2 a3 a4 a5 a6 a7
    else
      k2 σ (a0 + Int32.ofInt (1)) (a1 ||| (0 : Int64)) a2 a3 a4 a5 a6 a7
noncomputable def m_X8_goes_L91_46 (k0 : SS → Int32 → Int64 → Int64 → Int32 → Int32 → Int64) (k1 : SS → Int32 → Int32 → Int32 → Int64 → Int64 → Int32 → Int32 → Int64) : Nat → SS → Int32 → Int64 → Int32 → Int32 → Int32 → Int64 → Int32 → Int32 → Int64
  | 0 => fun σ _ _ _ _ _ _ _ _ => 0
  | n + 1 => m_X8_goes_L91_46_b k0 k1 (m_X8_goes_L91_46 k0 k1 n)
noncomputable def m_X8_goes_L29_19_b (k0 : SS → Int32 → Int64 → Int64 → Int32 → Int32 → Int64) (k1 : SS → Int32 → Int32 → Int32 → Int64 → Int64 → Int32 → Int32 → Int64) (σ : SS) (a0 : Int32) (a1 : Int32) (a2 : Int32) (a3 : Int64) (a4 : Int64) (a5 : Int32) (a6 : Int32) : Int64 :=
  if (nI 5) ≤ a0 then
    k0 σ (a2 + Int32.ofInt (1)) a3 a4 a5 a6
  else
    if (m_X8_has σ a4 a2 a0) = (0 : Int32) then
      k1 σ (a0 + Int32.ofInt (1)) a1 a2 a3 a4 a5 a6
    else
      if (σ 60 (rl (nI 0))) ≤ a0 then
        m_X8_goes_L91_46 k0 k1 2000 σ (nI 0) (a3 ||| (0 : Int64)) a0 a1 a2 a4 a5 a6
      else
        if a6 = ((-1) : Int32) then
          m_X8_goes_L91_99 k0 k1 2000 σ (nI 0) (a3 ||| (m_X8_bit σ a2 (a0 + (nI 1)))) a0 a1 a2 a4 a5 a6
        else
          if a6 = a2 then
            m_X8_goes_L91_199 k0 k1 2000 σ (nI 0) (a3 ||| (m_X8_bit σ a2 (a0 + (nI 1)))) a0 a1 a2 a4 a5 a6
          else
            m_X8_goes_L91_148 k0 k1 2000 σ (nI 0) (a3 ||| (0 : Int64)) a0 a1 a2 a4 a5 a6
noncomputable def m_X8_goes_L29_19 (k0 : SS → Int32 → Int64 → Int64 → Int32 → Int32 → Int64) : Nat → SS → Int32 → Int32 → Int32 → Int64 → Int64 → Int32 → Int32 → Int64
  | 0 => fun σ _ _ _ _ _ _ _ => 0
  | n + 1 => m_X8_goes_L29_19_b k0 (m_X8_goes_L29_19 k0 n)
noncomputable def m_X8_goes_L6_3_b (k0 : SS → Int32 → Int64 → Int64 → Int32 → Int32 → Int64) (σ : SS) (a0 : Int32) (a1 : Int64) (a2 : Int64) (a3 : Int32) (a4 : Int32) : Int64 :=
  if (σ 60 (rl (nI 2))) ≤ a0 then
    a1
  else
    m_X8_goes_L29_19 k0 2000 σ (nI 0) (m_X8_walks σ a0 a3) a0 a1 a2 a3 a4
noncomputable def m_X8_goes_L6_3 : Nat → SS → Int32 → Int64 → Int64 → Int32 → Int32 → Int64
  | 0 => fun σ _ _ _ _ _ => 0
  | n + 1 => m_X8_goes_L6_3_b (m_X8_goes_L6_3 n)
noncomputable def m_X8_goes (σ : SS) (a0 : Int64) (a1 : Int32) (a2 : Int32) : Int64 :=
  m_X8_goes_L6_3 2000 σ (nI 0) (0 : Int64) a0 a1 a2
set_option maxHeartbeats 4000000 in
set_option maxRecDepth 100000 in
theorem c_X8_goes (l : Launch) (D : va_G) (cA ad : Nat → Nat) (t : Nat) (hI : rI ad) (F : Nat → va_E) (hW : WT cA ad F) (p1 : Int64) (p2 : Int32) (p3 : Int32) : ML l D cA ad t yX8_goes wsX8_goes { frames := 2, cells := 0, slots := 0, locals := 48 } [.ref (ad 58), .long p1, .int p2, .int p3] F (fun r => (True) ∧ m_X8_goes (AB ad F) p1 p2 p3 = r) := by
  refine en_L rfl (by decide +kernel) (Nat.le_of_ble_eq_true rfl) ?_
  intro p e s m args below meth c ls0 Q S hK hZ hP hS hl0 hret
  have hl0 : lv_has ls0 11 [(0, .ref (ad 58)), (1, .long p1), (3, .int p2), (4, .int p3)] := hl0
  have hiX8 : ∀ w ∈ u_ws RX8 TX8 23, w ∈ wsX8_goes := in_wsX8_goes_1
  obtain ⟨M, hM⟩ : ∃ M, M = m_X8_goes (AB ad F) p1 p2 p3 := ⟨_, rfl⟩
  refine lv_lconst (v := 0) S.1 S.2.1 dX8_goes_0 (by decide +kernel) ?_
  refine lv_lstore (lv' := [(5, .long 0), (0, .ref (ad 58)), (1, .long p1), (3, .int p2), (4, .int p3)]) S.1 S.2.1 dX8_goes_1 hl0 (by decide) rfl (fun ls1 hl1 => ?_)
  refine lv_iconst (v := (nI 0)) S.1 S.2.1 dX8_goes_3 (by decide +kernel) ?_
  refine lv_istore (lv' := [(7, .int (nI 0)), (5, .long 0), (0, .ref (ad 58)), (1, .long p1), (3, .int p2), (4, .int p3)]) S.1 S.2.1 dX8_goes_4 hl1 (by decide) rfl (fun ls2 hl2 => ?_)
  have lp3 : ∀ (n3 : Nat) (q73 : Nat) (x3_5 : Int64), q73 ≤ 8 → 8 - q73 < n3 → M = m_X8_goes_L6_3 n3 (AB ad F) (nI q73) x3_5 p1 p2 p3 → ∀ (ls : Array Slot), lv_has ls 11 [(7, .int (nI q73)), (5, .long x3_5), (0, .ref (ad 58)), (1, .long p1), (3, .int p2), (4, .int p3)] → W p l e { frames := 2, cells := 0, slots := 0, locals := 48 } s m args below meth c s.heap [] 0 0 Q (F0 m 6 ls []) := by
    intro n3
    induction n3 with
    | zero =>
      intro q73 x3_5 iv3_0 hm3 hEl3 ls3 hl3
      exact absurd hm3 (Nat.not_lt_zero _)
    | succ n3 ih3 =>
      intro q73 x3_5 iv3_0 hm3 hEl3 ls3 hl3
      have hE4 : M = m_X8_goes_L6_3_b (m_X8_goes_L6_3 n3) (AB ad F) (nI q73) x3_5 p1 p2 p3 := hEl3
      refine lv_iload S.1 S.2.1 dX8_goes_6 (lv_at hl3 0 rfl) ?_
      refine lv_aload_n S.1 S.2.1 dX8_goes_8 rfl (lv_at hl3 2 rfl) ?_
      obtain ⟨ty5, kn5, no5, en5, at5, sa5, sd5, wr5, pl5, va5, hF5, hb5_1, hb5_2, hb5_3, hb5_4, hb5_5, hb5_6⟩ := wt_m hW
      refine r_get S hK hP 58 (by decide) hF5 (C := RX8) (T := TX8) (N := 23) hiX8 rfl 2 (by decide) (am_at in_wsX8_goes_0 0 rfl) (v := .ref (ad 60)) rfl dX8_goes_9 ?_
      refine lv_iconst (v := (nI 2)) S.1 S.2.1 dX8_goes_12 (by decide +kernel) ?_
      obtain ⟨g6, hF6, hg6⟩ := wt_I hW (show (60, 52) ∈ rLI by decide)
      refine r_iald S hK hP 60 (by decide) hF6 (vp_in_nI (show 2 < 52 by omega) (by omega)) dX8_goes_13 ?_
      refine lv_topi (fun v8 e8 => ?_)
      obtain ⟨b9, hb9, he9⟩ := (pr_T (by decide) (hg6 2 (by decide))).2.1 rfl
      obtain rfl : v8 = nI b9 := e8.trans he9
      have m10 : ((AB ad F) 60 (rl (nI 2))) = (nI b9) := (ab_cg rfl rfl).trans ((AB_g hF6).trans e8.symm)
      refine lv_icmp_ge (tgt := 152) S.1 S.2.1 dX8_goes_14 (by decide) (fun c11 => ?_) (fun c11 => ?_)
      · skip
        have k12 := ci_le (nI_toInt (n := b9) (Nat.lt_of_le_of_lt hb9 (by decide))) (nI_toInt (n := q73) (by omega)) c11
        refine lv_lload S.1 S.2.1 dX8_goes_152 (lv_at hl3 1 rfl) ?_
        have hE13 : M = x3_5 := hE4.trans ((show m_X8_goes_L6_3_b (m_X8_goes_L6_3 n3) (AB ad F) (nI q73) x3_5 p1 p2 p3 = x3_5 from by unfold m_X8_goes_L6_3_b; rw [if_pos (le_cg m10 rfl c11)]).trans rfl)
        exact hret 154 _ _ dX8_goes_154 (⟨trivial, hM.symm.trans hE13⟩)
      have k14 := ci_nle (nI_toInt (n := b9) (Nat.lt_of_le_of_lt hb9 (by decide))) (nI_toInt (n := q73) (by omega)) c11
      refine lv_aload_n S.1 S.2.1 dX8_goes_17 rfl (lv_at hl3 2 rfl) ?_
      refine lv_iload S.1 S.2.1 dX8_goes_18 (lv_at hl3 0 rfl) ?_
      refine lv_iload_n S.1 S.2.1 dX8_goes_20 rfl (lv_at hl3 4 rfl) ?_
      refine r_cVp (As := [.int (nI q73), .int p2]) (rest := []) S hK hZ hP hS hl3.1 58 (by decide) hF5 (C := RX8) rfl (c_X8_walks l D cA ad t hI F hW (nI q73) p2) (cwV 2 S.2.2.2.2 gX8_goes_X8_walks rfl rfl rfl (by decide +kernel) ⟨Nat.le_of_ble_eq_true rfl, Nat.le_of_ble_eq_true rfl⟩) rfl rfl (Nat.le_of_ble_eq_true rfl) ⟨Nat.zero_le _, Nat.zero_le _⟩ dX8_goes_21 (fun r15 hr15 => ?_)
      obtain ⟨hr15, hm15⟩ := hr15
      have m16 : (m_X8_walks (AB ad F) (nI q73) p2) = r15 := (congr (congr (Eq.refl (m_X8_walks (AB ad F))) (Eq.refl ((nI q73) : Int32))) (Eq.refl (p2 : Int32))).trans hm15
      refine lv_istore (lv' := [(8, .int r15), (7, .int (nI q73)), (5, .long x3_5), (0, .ref (ad 58)), (1, .long p1), (3, .int p2), (4, .int p3)]) S.1 S.2.1 dX8_goes_24 hl3 (by decide) rfl (fun ls17 hl17 => ?_)
      refine lv_iconst (v := (nI 0)) S.1 S.2.1 dX8_goes_26 (by decide +kernel) ?_
      refine lv_istore (lv' := [(9, .int (nI 0)), (8, .int r15), (7, .int (nI q73)), (5, .long x3_5), (0, .ref (ad 58)), (1, .long p1), (3, .int p2), (4, .int p3)]) S.1 S.2.1 dX8_goes_27 hl17 (by decide) rfl (fun ls18 hl18 => ?_)
      have lp19 : ∀ (n19 : Nat) (q919 : Nat) (x19_5 : Int64), q919 ≤ 5 → 5 - q919 < n19 → M = m_X8_goes_L29_19 (m_X8_goes_L6_3 n3) n19 (AB ad F) (nI q919) r15 (nI q73) x19_5 p1 p2 p3 → ∀ (ls : Array Slot), lv_has ls 11 [(9, .int (nI q919)), (8, .int r15), (7, .int (nI q73)), (5, .long x19_5), (0, .ref (ad 58)), (1, .long p1), (3, .int p2), (4, .int p3)] → W p l e { frames := 2, cells := 0, slots := 0, locals := 48 } s m args below meth c s.heap [] 0 0 Q (F0 m 29 ls []) := by
        intro n19
        induction n19 with
        | zero =>
          intro q919 x19_5 iv19_0 hm19 hEl19 ls19 hl19
          exact absurd hm19 (Nat.not_lt_zero _)
        | succ n19 ih19 =>
          intro q919 x19_5 iv19_0 hm19 hEl19 ls19 hl19
          have hE20 : M = m_X8_goes_L29_19_b (m_X8_goes_L6_3 n3) (m_X8_goes_L29_19 (m_X8_goes_L6_3 n3) n19) (AB ad F) (nI q919) r15 (nI q73) x19_5 p1 p2 p3 := hEl19
          refine lv_iload S.1 S.2.1 dX8_goes_29 (lv_at hl19 0 rfl) ?_
          refine lv_iconst (v := (nI 5)) S.1 S.2.1 dX8_goes_31 (by decide +kernel) ?_
          refine lv_icmp_ge (tgt := 146) S.1 S.2.1 dX8_goes_32 (by decide) (fun c21 => ?_) (fun c21 => ?_)
          · skip
            have k22 := ci_le (nI_toInt (n := 5) (by decide)) (nI_toInt (n := q919) (by omega)) c21
            have m24 : ((nI q73) + Int32.ofInt (1)) = (nI (q73 + 1)) := (congrArg (fun q : Int32 => q + Int32.ofInt (1)) rfl).trans (nI_add _ 1)
            refine lv_iinc (v := (nI (q73 + 1))) (lv' := [(7, .int (nI (q73 + 1))), (9, .int (nI q919)), (8, .int r15), (5, .long x19_5), (0, .ref (ad 58)), (1, .long p1), (3, .int p2), (4, .int p3)]) S.1 S.2.1 dX8_goes_146 hl19 (k := 2) rfl (nI_add _ 1) (by decide) rfl (fun ls23 hl23 => ?_)
            refine lv_goto (tgt := 6) S.1 S.2.1 dX8_goes_149 (by decide) ?_
            have hE25 : M = (m_X8_goes_L6_3 n3) (AB ad F) (nI (q73 + 1)) x19_5 p1 p2 p3 := hE20.trans ((show m_X8_goes_L29_19_b (m_X8_goes_L6_3 n3) (m_X8_goes_L29_19 (m_X8_goes_L6_3 n3) n19) (AB ad F) (nI q919) r15 (nI q73) x19_5 p1 p2 p3 = (m_X8_goes_L6_3 n3) (AB ad F) ((nI q73) + Int32.ofInt (1)) x19_5 p1 p2 p3 from by unfold m_X8_goes_L29_19_b; rw [if_pos (le_cg rfl rfl c21)]).trans (congr (congr (congr (congr (congr (congrArg ((m_X8_goes_L6_3 n3)) (rfl : AB ad F = AB ad F)) m24) (Eq.refl (x19_5 : Int64))) (Eq.refl (p1 : Int64))) (Eq.refl (p2 : Int32))) (Eq.refl (p3 : Int32))))
            exact ih3 (q73 + 1) (x19_5) (by omega) (by omega) hE25 ls23 (lv_sub hl23 [0, 3, 4, 5, 6, 7] rfl)
          have k26 := ci_nle (nI_toInt (n := 5) (by decide)) (nI_toInt (n := q919) (by omega)) c21
          refine lv_lload_n S.1 S.2.1 dX8_goes_35 rfl (lv_at hl19 5 rfl) ?_
          refine lv_iload S.1 S.2.1 dX8_goes_36 (lv_at hl19 2 rfl) ?_
          refine lv_iload S.1 S.2.1 dX8_goes_38 (lv_at hl19 0 rfl) ?_
          refine r_cSp (As := [.long p1, .int (nI q73), .int (nI q919)]) (rest := []) S hK hZ hP hS hl19.1 (c_X8_has l D cA ad t hI F hW p1 (nI q73) (nI q919)) (va_cwS 3 S.2.2.2.2 gX8_goes_X8_has rfl rfl rfl (by decide +kernel) ⟨Nat.le_of_ble_eq_true rfl, Nat.le_of_ble_eq_true rfl⟩) rfl rfl (Nat.le_of_ble_eq_true rfl) ⟨Nat.zero_le _, Nat.zero_le _⟩ dX8_goes_40 (fun r27 hr27 => ?_)
          obtain ⟨hr27, hm27⟩ := hr27
          obtain ⟨b28, hb28, rfl⟩ := hr27
          have m29 : (m_X8_has (AB ad F) p1 (nI q73) (nI q919)) = (nI b28) := (congr (congr (congr (Eq.refl (m_X8_has (AB ad F))) (Eq.refl (p1 : Int64))) (Eq.refl ((nI q73) : Int32))) (Eq.refl ((nI q919) : Int32))).trans hm27
          refine lv_if_eq (tgt := 140) S.1 S.2.1 dX8_goes_43 (by decide) (fun c30 => ?_) (fun c30 => ?_)
          · skip
            have k31 := ci_eq (nI_toInt (n := b28) (Nat.lt_of_le_of_lt hb28 (by decide))) z_ti c30
            have m33 : ((nI q919) + Int32.ofInt (1)) = (nI (q919 + 1)) := (congrArg (fun q : Int32 => q + Int32.ofInt (1)) rfl).trans (nI_add _ 1)
            refine lv_iinc (v := (nI (q919 + 1))) (lv' := [(9, .int (nI (q919 + 1))), (8, .int r15), (7, .int (nI q73)), (5, .long x19_5), (0, .ref (ad 58)), (1, .long p1), (3, .int p2), (4, .int p3)]) S.1 S.2.1 dX8_goes_140 hl19 (k := 0) rfl (nI_add _ 1) (by decide) rfl (fun ls32 hl32 => ?_)
            refine lv_goto (tgt := 29) S.1 S.2.1 dX8_goes_143 (by decide) ?_
            have hE34 : M = (m_X8_goes_L29_19 (m_X8_goes_L6_3 n3) n19) (AB ad F) (nI (q919 + 1)) r15 (nI q73) x19_5 p1 p2 p3 := hE20.trans ((show m_X8_goes_L29_19_b (m_X8_goes_L6_3 n3) (m_X8_goes_L29_19 (m_X8_goes_L6_3 n3) n19) (AB ad F) (nI q919) r15 (nI q73) x19_5 p1 p2 p3 = (m_X8_goes_L29_19 (m_X8_goes_L6_3 n3) n19) (AB ad F) ((nI q919) + Int32.ofInt (1)) r15 (nI q73) x19_5 p1 p2 p3 from by unfold m_X8_goes_L29_19_b; rw [if_neg (nle_cg rfl rfl c21), if_pos (eq_cg m29 rfl c30)]).trans (congr (congr (congr (congr (congr (congr (congr (congrArg ((m_X8_goes_L29_19 (m_X8_goes_L6_3 n3) n19)) (rfl : AB ad F = AB ad F)) m33) (Eq.refl (r15 : Int32))) (Eq.refl ((nI q73) : Int32))) (Eq.refl (x19_5 : Int64))) (Eq.refl (p1 : Int64))) (Eq.refl (p2 : Int32))) (Eq.refl (p3 : Int32))))
            exact ih19 (q919 + 1) (x19_5) (by omega) (by omega) hE34 ls32 (lv_sub hl32 [0, 1, 2, 3, 4, 5, 6, 7] rfl)
          have k35 := ci_ne (nI_toInt (n := b28) (Nat.lt_of_le_of_lt hb28 (by decide))) z_ti c30
          refine lv_lload S.1 S.2.1 dX8_goes_46 (lv_at hl19 3 rfl) ?_
          refine lv_iload S.1 S.2.1 dX8_goes_48 (lv_at hl19 0 rfl) ?_
          refine lv_aload_n S.1 S.2.1 dX8_goes_50 rfl (lv_at hl19 4 rfl) ?_
          refine r_get S hK hP 58 (by decide) hF5 (C := RX8) (T := TX8) (N := 23) hiX8 rfl 2 (by decide) (am_at in_wsX8_goes_0 0 rfl) (v := .ref (ad 60)) rfl dX8_goes_51 ?_
          refine lv_iconst (v := (nI 0)) S.1 S.2.1 dX8_goes_54 (by decide +kernel) ?_
          refine r_iald S hK hP 60 (by decide) hF6 (vp_in_nI (show 0 < 52 by omega) (by omega)) dX8_goes_55 ?_
          refine lv_topi (fun v37 e37 => ?_)
          obtain ⟨b38, hb38, he38⟩ := (pr_T (by decide) (hg6 0 (by decide))).1 rfl
          obtain rfl : v37 = nI b38 := e37.trans he38
          have m39 : ((AB ad F) 60 (rl (nI 0))) = (nI b38) := (ab_cg rfl rfl).trans ((AB_g hF6).trans e37.symm)
          refine lv_icmp_ge (tgt := 84) S.1 S.2.1 dX8_goes_56 (by decide) (fun c40 => ?_) (fun c40 => ?_)
          · skip
            have k41 := ci_le (nI_toInt (n := b38) (Nat.lt_of_le_of_lt hb38 (by decide))) (nI_toInt (n := q919) (by omega)) c40
            refine lv_lconst (v := 0) S.1 S.2.1 dX8_goes_84 (by decide +kernel) ?_
            refine lv_lor S.1 S.2.1 dX8_goes_85 ?_
            refine lv_topl (fun v42 e42 => ?_)
            have m43 : (x19_5 ||| (0 : Int64)) = v42 := cg2 (fun (x : Int64) (y : Int64) => x ||| y) (Eq.refl (x19_5 : Int64)) (Eq.refl (0 : Int64)) e42
            refine lv_lstore (lv' := [(5, .long v42), (9, .int (nI q919)), (8, .int r15), (7, .int (nI q73)), (0, .ref (ad 58)), (1, .long p1), (3, .int p2), (4, .int p3)]) S.1 S.2.1 dX8_goes_86 hl19 (by decide) rfl (fun ls44 hl44 => ?_)
            refine lv_iconst (v := (nI 0)) S.1 S.2.1 dX8_goes_88 (by decide +kernel) ?_
            refine lv_istore (lv' := [(10, .int (nI 0)), (5, .long v42), (9, .int (nI q919)), (8, .int r15), (7, .int (nI q73)), (0, .ref (ad 58)), (1, .long p1), (3, .int p2), (4, .int p3)]) S.1 S.2.1 dX8_goes_89 hl44 (by decide) rfl (fun ls45 hl45 => ?_)
            have lp46 : ∀ (n46 : Nat) (q1046 : Nat) (x46_5 : Int64), q1046 ≤ 8 → 8 - q1046 < n46 → M = m_X8_goes_L91_46 (m_X8_goes_L6_3 n3) (m_X8_goes_L29_19 (m_X8_goes_L6_3 n3) n19) n46 (AB ad F) (nI q1046) x46_5 (nI q919) r15 (nI q73) p1 p2 p3 → ∀ (ls : Array Slot), lv_has ls 11 [(10, .int (nI q1046)), (5, .long x46_5), (9, .int (nI q919)), (8, .int r15), (7, .int (nI q73)), (0, .ref (ad 58)), (1, .long p1), (3, .int p2), (4, .int p3)] → W p l e { frames := 2, cells := 0, slots := 0, locals := 48 } s m args below meth c s.heap [] 0 0 Q (F0 m 91 ls []) := by
              intro n46
              induction n46 with
              | zero =>
                intro q1046 x46_5 iv46_0 hm46 hEl46 ls46 hl46
                exact absurd hm46 (Nat.not_lt_zero _)
              | succ n46 ih46 =>
                intro q1046 x46_5 iv46_0 hm46 hEl46 ls46 hl46
                have hE47 : M = m_X8_goes_L91_46_b (m_X8_goes_L6_3 n3) (m_X8_goes_L29_19 (m_X8_goes_L6_3 n3) n19) (m_X8_goes_L91_46 (m_X8_goes_L6_3 n3) (m_X8_goes_L29_19 (m_X8_goes_L6_3 n3) n19) n46) (AB ad F) (nI q1046) x46_5 (nI q919) r15 (nI q73) p1 p2 p3 := hEl46
                refine lv_iload S.1 S.2.1 dX8_goes_91 (lv_at hl46 0 rfl) ?_
                refine lv_aload_n S.1 S.2.1 dX8_goes_93 rfl (lv_at hl46 5 rfl) ?_
                refine r_get S hK hP 58 (by decide) hF5 (C := RX8) (T := TX8) (N := 23) hiX8 rfl 2 (by decide) (am_at in_wsX8_goes_0 0 rfl) (v := .ref (ad 60)) rfl dX8_goes_94 ?_
                refine lv_iconst (v := (nI 2)) S.1 S.2.1 dX8_goes_97 (by decide +kernel) ?_
                refine r_iald S hK hP 60 (by decide) hF6 (vp_in_nI (show 2 < 52 by omega) (by omega)) dX8_goes_98 ?_
                refine lv_topi (fun v49 e49 => ?_)
                obtain rfl : v49 = nI b9 := e49.trans he9
                have m50 : ((AB ad F) 60 (rl (nI 2))) = (nI b9) := (ab_cg rfl rfl).trans ((AB_g hF6).trans e49.symm)
                refine lv_icmp_ge (tgt := 140) S.1 S.2.1 dX8_goes_99 (by decide) (fun c51 => ?_) (fun c51 => ?_)
                · skip
                  have k52 := ci_le (nI_toInt (n := b9) (Nat.lt_of_le_of_lt hb9 (by decide))) (nI_toInt (n := q1046) (by omega)) c51
                  have m54 : ((nI q919) + Int32.ofInt (1)) = (nI (q919 + 1)) := (congrArg (fun q : Int32 => q + Int32.ofInt (1)) rfl).trans (nI_add _ 1)
                  refine lv_iinc (v := (nI (q919 + 1))) (lv' := [(9, .int (nI (q919 + 1))), (10, .int (nI q1046)), (5, .long x46_5), (8, .int r15), (7, .int (nI q73)), (0, .ref (ad 58)), (1, .long p1), (3, .int p2), (4, .int p3)]) S.1 S.2.1 dX8_goes_140 hl46 (k := 2) rfl (nI_add _ 1) (by decide) rfl (fun ls53 hl53 => ?_)
                  refine lv_goto (tgt := 29) S.1 S.2.1 dX8_goes_143 (by decide) ?_
                  have hE55 : M = (m_X8_goes_L29_19 (m_X8_goes_L6_3 n3) n19) (AB ad F) (nI (q919 + 1)) r15 (nI q73) x46_5 p1 p2 p3 := hE47.trans ((show m_X8_goes_L91_46_b (m_X8_goes_L6_3 n3) (m_X8_goes_L29_19 (m_X8_goes_L6_3 n3) n19) (m_X8_goes_L91_46 (m_X8_goes_L6_3 n3) (m_X8_goes_L29_19 (m_X8_goes_L6_3 n3) n19) n46) (AB ad F) (nI q1046) x46_5 (nI q919) r15 (nI q73) p1 p2 p3 = (m_X8_goes_L29_19 (m_X8_goes_L6_3 n3) n19) (AB ad F) ((nI q919) + Int32.ofInt (1)) r15 (nI q73) x46_5 p1 p2 p3 from by unfold m_X8_goes_L91_46_b; rw [if_pos (le_cg m50 rfl c51)]).trans (congr (congr (congr (congr (congr (congr (congr (congrArg ((m_X8_goes_L29_19 (m_X8_goes_L6_3 n3) n19)) (rfl : AB ad F = AB ad F)) m54) (Eq.refl (r15 : Int32))) (Eq.refl ((nI q73) : Int32))) (Eq.refl (x46_5 : Int64))) (Eq.refl (p1 : Int64))) (Eq.refl (p2 : Int32))) (Eq.refl (p3 : Int32))))
                  exact ih19 (q919 + 1) (x46_5) (by omega) (by omega) hE55 ls53 (lv_sub hl53 [0, 3, 4, 2, 5, 6, 7, 8] rfl)
                have k56 := ci_nle (nI_toInt (n := b9) (Nat.lt_of_le_of_lt hb9 (by decide))) (nI_toInt (n := q1046) (by omega)) c51
                refine lv_lload S.1 S.2.1 dX8_goes_102 (lv_at hl46 1 rfl) ?_
                refine lv_iload S.1 S.2.1 dX8_goes_104 (lv_at hl46 8 rfl) ?_
                refine lv_iconst (v := (-1)) S.1 S.2.1 dX8_goes_106 (by decide +kernel) ?_
                refine lv_icmp_ne (tgt := 130) S.1 S.2.1 dX8_goes_107 (by decide) (fun c57 => ?_) (fun c57 => ?_)
                · skip
                  have k58 := ci_ne rfl (show ((-1) : Int32).toInt = -1 by decide +kernel) c57
                  refine lv_lconst (v := 0) S.1 S.2.1 dX8_goes_130 (by decide +kernel) ?_
                  refine lv_lor S.1 S.2.1 dX8_goes_131 ?_
                  refine lv_topl (fun v59 e59 => ?_)
                  have m60 : (x46_5 ||| (0 : Int64)) = v59 := cg2 (fun (x : Int64) (y : Int64) => x ||| y) (Eq.refl (x46_5 : Int64)) (Eq.refl (0 : Int64)) e59
                  refine lv_lstore (lv' := [(5, .long v59), (10, .int (nI q1046)), (9, .int (nI q919)), (8, .int r15), (7, .int (nI q73)), (0, .ref (ad 58)), (1, .long p1), (3, .int p2), (4, .int p3)]) S.1 S.2.1 dX8_goes_132 hl46 (by decide) rfl (fun ls61 hl61 => ?_)
                  have m63 : ((nI q1046) + Int32.ofInt (1)) = (nI (q1046 + 1)) := (congrArg (fun q : Int32 => q + Int32.ofInt (1)) rfl).trans (nI_add _ 1)
                  refine lv_iinc (v := (nI (q1046 + 1))) (lv' := [(10, .int (nI (q1046 + 1))), (5, .long v59), (9, .int (nI q919)), (8, .int r15), (7, .int (nI q73)), (0, .ref (ad 58)), (1, .long p1), (3, .int p2), (4, .int p3)]) S.1 S.2.1 dX8_goes_134 hl61 (k := 1) rfl (nI_add _ 1) (by decide) rfl (fun ls62 hl62 => ?_)
                  refine lv_goto (tgt := 91) S.1 S.2.1 dX8_goes_137 (by decide) ?_
                  have hE64 : M = (m_X8_goes_L91_46 (m_X8_goes_L6_3 n3) (m_X8_goes_L29_19 (m_X8_goes_L6_3 n3) n19) n46) (AB ad F) (nI (q1046 + 1)) v59 (nI q919) r15 (nI q73) p1 p2 p3 := hE47.trans ((show m_X8_goes_L91_46_b (m_X8_goes_L6_3 n3) (m_X8_goes_L29_19 (m_X8_goes_L6_3 n3) n19) (m_X8_goes_L91_46 (m_X8_goes_L6_3 n3) (m_X8_goes_L29_19 (m_X8_goes_L6_3 n3) n19) n46) (AB ad F) (nI q1046) x46_5 (nI q919) r15 (nI q73) p1 p2 p3 = (m_X8_goes_L91_46 (m_X8_goes_L6_3 n3) (m_X8_goes_L29_19 (m_X8_goes_L6_3 n3) n19) n46) (AB ad F) ((nI q1046) + Int32.ofInt (1)) (x46_5 ||| (0 : Int64)) (nI q919) r15 (nI q73) p1 p2 p3 from by unfold m_X8_goes_L91_46_b; rw [if_neg (nle_cg m50 rfl c51), if_neg (neq_cg rfl rfl c57)]).trans (congr (congr (congr (congr (congr (congr (congr (congr (congrArg ((m_X8_goes_L91_46 (m_X8_goes_L6_3 n3) (m_X8_goes_L29_19 (m_X8_goes_L6_3 n3) n19) n46)) (rfl : AB ad F = AB ad F)) m63) m60) (Eq.refl ((nI q919) : Int32))) (Eq.refl (r15 : Int32))) (Eq.refl ((nI q73) : Int32))) (Eq.refl (p1 : Int64))) (Eq.refl (p2 : Int32))) (Eq.refl (p3 : Int32))))
                  exact ih46 (q1046 + 1) (v59) (by omega) (by omega) hE64 ls62 (lv_sub hl62 [0, 1, 2, 3, 4, 5, 6, 7, 8] rfl)
                have k65 := ci_eq rfl (show ((-1) : Int32).toInt = -1 by decide +kernel) c57
                refine lv_iload S.1 S.2.1 dX8_goes_110 (lv_at hl46 3 rfl) ?_
                refine lv_iload S.1 S.2.1 dX8_goes_112 (lv_at hl46 0 rfl) ?_
                refine lv_ishr S.1 S.2.1 dX8_goes_114 ?_
                refine lv_topi (fun v66 e66 => ?_)
                have m67 : (r15 >>> ((nI q1046) &&& 31)) = v66 := cg2 (fun (x : Int32) (y : Int32) => x >>> (y &&& 31)) (Eq.refl (r15 : Int32)) (Eq.refl ((nI q1046) : Int32)) e66
                refine lv_iconst (v := (nI 1)) S.1 S.2.1 dX8_goes_115 (by decide +kernel) ?_
                refine lv_iand S.1 S.2.1 dX8_goes_116 ?_
                refine lv_topi (fun v68 e68 => ?_)
                have m69 : ((r15 >>> ((nI q1046) &&& 31)) &&& (nI 1)) = v68 := cg2 (fun (x : Int32) (y : Int32) => x &&& y) m67 (Eq.refl ((nI 1) : Int32)) e68
                refine lv_iconst (v := (nI 1)) S.1 S.2.1 dX8_goes_117 (by decide +kernel) ?_
                refine lv_icmp_ne (tgt := 130) S.1 S.2.1 dX8_goes_118 (by decide) (fun c70 => ?_) (fun c70 => ?_)
                · skip
                  have k71 := ci_ne rfl (nI_toInt (n := 1) (by decide)) c70
                  refine lv_lconst (v := 0) S.1 S.2.1 dX8_goes_130 (by decide +kernel) ?_
                  refine lv_lor S.1 S.2.1 dX8_goes_131 ?_
                  refine lv_topl (fun v72 e72 => ?_)
                  have m73 : (x46_5 ||| (0 : Int64)) = v72 := cg2 (fun (x : Int64) (y : Int64) => x ||| y) (Eq.refl (x46_5 : Int64)) (Eq.refl (0 : Int64)) e72
                  refine lv_lstore (lv' := [(5, .long v72), (10, .int (nI q1046)), (9, .int (nI q919)), (8, .int r15), (7, .int (nI q73)), (0, .ref (ad 58)), (1, .long p1), (3, .int p2), (4, .int p3)]) S.1 S.2.1 dX8_goes_132 hl46 (by decide) rfl (fun ls74 hl74 => ?_)
                  have m76 : ((nI q1046) + Int32.ofInt (1)) = (nI (q1046 + 1)) := (congrArg (fun q : Int32 => q + Int32.ofInt (1)) rfl).trans (nI_add _ 1)
                  refine lv_iinc (v := (nI (q1046 + 1))) (lv' := [(10, .int (nI (q1046 + 1))), (5, .long v72), (9, .int (nI q919)), (8, .int r15), (7, .int (nI q73)), (0, .ref (ad 58)), (1, .long p1), (3, .int p2), (4, .int p3)]) S.1 S.2.1 dX8_goes_134 hl74 (k := 1) rfl (nI_add _ 1) (by decide) rfl (fun ls75 hl75 => ?_)
                  refine lv_goto (tgt := 91) S.1 S.2.1 dX8_goes_137 (by decide) ?_
                  have hE77 : M = (m_X8_goes_L91_46 (m_X8_goes_L6_3 n3) (m_X8_goes_L29_19 (m_X8_goes_L6_3 n3) n19) n46) (AB ad F) (nI (q1046 + 1)) v72 (nI q919) r15 (nI q73) p1 p2 p3 := hE47.trans ((show m_X8_goes_L91_46_b (m_X8_goes_L6_3 n3) (m_X8_goes_L29_19 (m_X8_goes_L6_3 n3) n19) (m_X8_goes_L91_46 (m_X8_goes_L6_3 n3) (m_X8_goes_L29_19 (m_X8_goes_L6_3 n3) n19) n46) (AB ad F) (nI q1046) x46_5 (nI q919) r15 (nI q73) p1 p2 p3 = (m_X8_goes_L91_46 (m_X8_goes_L6_3 n3) (m_X8_goes_L29_19 (m_X8_goes_L6_3 n3) n19) n46) (AB ad F) ((nI q1046) + Int32.ofInt (1)) (x46_5 ||| (0 : Int64)) (nI q919) r15 (nI q73) p1 p2 p3 from by unfold m_X8_goes_L91_46_b; rw [if_neg (nle_cg m50 rfl c51), if_pos (eq_cg rfl rfl c57), if_neg (neq_cg m69 rfl c70)]).trans (congr (congr (congr (congr (congr (congr (congr (congr (congrArg ((m_X8_goes_L91_46 (m_X8_goes_L6_3 n3) (m_X8_goes_L29_19 (m_X8_goes_L6_3 n3) n19) n46)) (rfl : AB ad F = AB ad F)) m76) m73) (Eq.refl ((nI q919) : Int32))) (Eq.refl (r15 : Int32))) (Eq.refl ((nI q73) : Int32))) (Eq.refl (p1 : Int64))) (Eq.refl (p2 : Int32))) (Eq.refl (p3 : Int32))))
                  exact ih46 (q1046 + 1) (v72) (by omega) (by omega) hE77 ls75 (lv_sub hl75 [0, 1, 2, 3, 4, 5, 6, 7, 8] rfl)
                have k78 := ci_eq rfl (nI_toInt (n := 1) (by decide)) c70
                refine lv_iload S.1 S.2.1 dX8_goes_121 (lv_at hl46 0 rfl) ?_
                refine lv_iconst (v := (nI 0)) S.1 S.2.1 dX8_goes_123 (by decide +kernel) ?_
                refine r_cSl (As := [.int (nI q1046), .int (nI 0)]) (rest := [.long x46_5]) S hK hZ hP hS hl46.1 (c_X8_bit l D cA ad t hI F hW (nI q1046) (nI 0)) (va_cwS 2 S.2.2.2.2 gX8_goes_X8_bit rfl rfl rfl (by decide +kernel) ⟨Nat.le_of_ble_eq_true rfl, Nat.le_of_ble_eq_true rfl⟩) rfl rfl (Nat.le_of_ble_eq_true rfl) ⟨Nat.zero_le _, Nat.zero_le _⟩ dX8_goes_124 (fun r79 hr79 => ?_)
                obtain ⟨hr79, hm79⟩ := hr79
                have m80 : (m_X8_bit (AB ad F) (nI q1046) (nI 0)) = r79 := (congr (congr (Eq.refl (m_X8_bit (AB ad F))) (Eq.refl ((nI q1046) : Int32))) (Eq.refl ((nI 0) : Int32))).trans hm79
                refine lv_goto (tgt := 131) S.1 S.2.1 dX8_goes_127 (by decide) ?_
                refine lv_lor S.1 S.2.1 dX8_goes_131 ?_
                refine lv_topl (fun v81 e81 => ?_)
                have m82 : (x46_5 ||| (m_X8_bit (AB ad F) (nI q1046) (nI 0))) = v81 := cg2 (fun (x : Int64) (y : Int64) => x ||| y) (Eq.refl (x46_5 : Int64)) m80 e81
                refine lv_lstore (lv' := [(5, .long v81), (10, .int (nI q1046)), (9, .int (nI q919)), (8, .int r15), (7, .int (nI q73)), (0, .ref (ad 58)), (1, .long p1), (3, .int p2), (4, .int p3)]) S.1 S.2.1 dX8_goes_132 hl46 (by decide) rfl (fun ls83 hl83 => ?_)
                have m85 : ((nI q1046) + Int32.ofInt (1)) = (nI (q1046 + 1)) := (congrArg (fun q : Int32 => q + Int32.ofInt (1)) rfl).trans (nI_add _ 1)
                refine lv_iinc (v := (nI (q1046 + 1))) (lv' := [(10, .int (nI (q1046 + 1))), (5, .long v81), (9, .int (nI q919)), (8, .int r15), (7, .int (nI q73)), (0, .ref (ad 58)), (1, .long p1), (3, .int p2), (4, .int p3)]) S.1 S.2.1 dX8_goes_134 hl83 (k := 1) rfl (nI_add _ 1) (by decide) rfl (fun ls84 hl84 => ?_)
                refine lv_goto (tgt := 91) S.1 S.2.1 dX8_goes_137 (by decide) ?_
                have hE86 : M = (m_X8_goes_L91_46 (m_X8_goes_L6_3 n3) (m_X8_goes_L29_19 (m_X8_goes_L6_3 n3) n19) n46) (AB ad F) (nI (q1046 + 1)) v81 (nI q919) r15 (nI q73) p1 p2 p3 := hE47.trans ((show m_X8_goes_L91_46_b (m_X8_goes_L6_3 n3) (m_X8_goes_L29_19 (m_X8_goes_L6_3 n3) n19) (m_X8_goes_L91_46 (m_X8_goes_L6_3 n3) (m_X8_goes_L29_19 (m_X8_goes_L6_3 n3) n19) n46) (AB ad F) (nI q1046) x46_5 (nI q919) r15 (nI q73) p1 p2 p3 = (m_X8_goes_L91_46 (m_X8_goes_L6_3 n3) (m_X8_goes_L29_19 (m_X8_goes_L6_3 n3) n19) n46) (AB ad F) ((nI q1046) + Int32.ofInt (1)) (x46_5 ||| (m_X8_bit (AB ad F) (nI q1046) (nI 0))) (nI q919) r15 (nI q73) p1 p2 p3 from by unfold m_X8_goes_L91_46_b; rw [if_neg (nle_cg m50 rfl c51), if_pos (eq_cg rfl rfl c57), if_pos (eq_cg m69 rfl c70)]).trans (congr (congr (congr (congr (congr (congr (congr (congr (congrArg ((m_X8_goes_L91_46 (m_X8_goes_L6_3 n3) (m_X8_goes_L29_19 (m_X8_goes_L6_3 n3) n19) n46)) (rfl : AB ad F = AB ad F)) m85) m82) (Eq.refl ((nI q919) : Int32))) (Eq.refl (r15 : Int32))) (Eq.refl ((nI q73) : Int32))) (Eq.refl (p1 : Int64))) (Eq.refl (p2 : Int32))) (Eq.refl (p3 : Int32))))
                exact ih46 (q1046 + 1) (v81) (by omega) (by omega) hE86 ls84 (lv_sub hl84 [0, 1, 2, 3, 4, 5, 6, 7, 8] rfl)
            have hE87 : M = m_X8_goes_L91_46 (m_X8_goes_L6_3 n3) (m_X8_goes_L29_19 (m_X8_goes_L6_3 n3) n19) 2000 (AB ad F) (nI 0) v42 (nI q919) r15 (nI q73) p1 p2 p3 := hE20.trans ((show m_X8_goes_L29_19_b (m_X8_goes_L6_3 n3) (m_X8_goes_L29_19 (m_X8_goes_L6_3 n3) n19) (AB ad F) (nI q919) r15 (nI q73) x19_5 p1 p2 p3 = m_X8_goes_L91_46 (m_X8_goes_L6_3 n3) (m_X8_goes_L29_19 (m_X8_goes_L6_3 n3) n19) 2000 (AB ad F) (nI 0) (x19_5 ||| (0 : Int64)) (nI q919) r15 (nI q73) p1 p2 p3 from by unfold m_X8_goes_L29_19_b; rw [if_neg (nle_cg rfl rfl c21), if_neg (neq_cg m29 rfl c30), if_pos (le_cg m39 rfl c40)]).trans (congr (congr (congr (congr (congr (congr (congr (congr (congrArg (m_X8_goes_L91_46 (m_X8_goes_L6_3 n3) (m_X8_goes_L29_19 (m_X8_goes_L6_3 n3) n19) 2000) (rfl : AB ad F = AB ad F)) (Eq.refl ((nI 0) : Int32))) m43) (Eq.refl ((nI q919) : Int32))) (Eq.refl (r15 : Int32))) (Eq.refl ((nI q73) : Int32))) (Eq.refl (p1 : Int64))) (Eq.refl (p2 : Int32))) (Eq.refl (p3 : Int32))))
            exact lp46 2000 (0) (v42) (by omega) (by omega) hE87 ls45 (lv_sub hl45 [0, 1, 2, 3, 4, 5, 6, 7, 8] rfl)
          have k88 := ci_nle (nI_toInt (n := b38) (Nat.lt_of_le_of_lt hb38 (by decide))) (nI_toInt (n := q919) (by omega)) c40
          refine lv_iload S.1 S.2.1 dX8_goes_59 (lv_at hl19 7 rfl) ?_
          refine lv_iconst (v := (-1)) S.1 S.2.1 dX8_goes_61 (by decide +kernel) ?_
          refine lv_icmp_eq (tgt := 72) S.1 S.2.1 dX8_goes_62 (by decide) (fun c89 => ?_) (fun c89 => ?_)
          · skip
            have k90 := ci_eq rfl (show ((-1) : Int32).toInt = -1 by decide +kernel) c89
            refine lv_iload S.1 S.2.1 dX8_goes_72 (lv_at hl19 2 rfl) ?_
            refine lv_iload S.1 S.2.1 dX8_goes_74 (lv_at hl19 0 rfl) ?_
            refine lv_iconst (v := (nI 1)) S.1 S.2.1 dX8_goes_76 (by decide +kernel) ?_
            refine lv_iadd S.1 S.2.1 dX8_goes_77 ?_
            refine lv_topi (fun v91 e91 => ?_)
            obtain rfl : v91 = nI (q919 + 1) := e91.trans (nI_add _ _)
            have m92 : ((nI q919) + (nI 1)) = (nI (q919 + 1)) := cg2 (fun (x : Int32) (y : Int32) => x + y) (Eq.refl ((nI q919) : Int32)) (Eq.refl ((nI 1) : Int32)) e91
            refine r_cSl (As := [.int (nI q73), .int (nI (q919 + 1))]) (rest := [.long x19_5]) S hK hZ hP hS hl19.1 (c_X8_bit l D cA ad t hI F hW (nI q73) (nI (q919 + 1))) (va_cwS 2 S.2.2.2.2 gX8_goes_X8_bit rfl rfl rfl (by decide +kernel) ⟨Nat.le_of_ble_eq_true rfl, Nat.le_of_ble_eq_true rfl⟩) rfl rfl (Nat.le_of_ble_eq_true rfl) ⟨Nat.zero_le _, Nat.zero_le _⟩ dX8_goes_78 (fun r93 hr93 => ?_)
            obtain ⟨hr93, hm93⟩ := hr93
            have m94 : (m_X8_bit (AB ad F) (nI q73) ((nI q919) + (nI 1))) = r93 := (congr (congr (Eq.refl (m_X8_bit (AB ad F))) (Eq.refl ((nI q73) : Int32))) m92).trans hm93
            refine lv_goto (tgt := 85) S.1 S.2.1 dX8_goes_81 (by decide) ?_
            refine lv_lor S.1 S.2.1 dX8_goes_85 ?_
            refine lv_topl (fun v95 e95 => ?_)
            have m96 : (x19_5 ||| (m_X8_bit (AB ad F) (nI q73) ((nI q919) + (nI 1)))) = v95 := cg2 (fun (x : Int64) (y : Int64) => x ||| y) (Eq.refl (x19_5 : Int64)) m94 e95
            refine lv_lstore (lv' := [(5, .long v95), (9, .int (nI q919)), (8, .int r15), (7, .int (nI q73)), (0, .ref (ad 58)), (1, .long p1), (3, .int p2), (4, .int p3)]) S.1 S.2.1 dX8_goes_86 hl19 (by decide) rfl (fun ls97 hl97 => ?_)
            refine lv_iconst (v := (nI 0)) S.1 S.2.1 dX8_goes_88 (by decide +kernel) ?_
            refine lv_istore (lv' := [(10, .int (nI 0)), (5, .long v95), (9, .int (nI q919)), (8, .int r15), (7, .int (nI q73)), (0, .ref (ad 58)), (1, .long p1), (3, .int p2), (4, .int p3)]) S.1 S.2.1 dX8_goes_89 hl97 (by decide) rfl (fun ls98 hl98 => ?_)
            have lp99 : ∀ (n99 : Nat) (q1099 : Nat) (x99_5 : Int64), q1099 ≤ 8 → 8 - q1099 < n99 → M = m_X8_goes_L91_99 (m_X8_goes_L6_3 n3) (m_X8_goes_L29_19 (m_X8_goes_L6_3 n3) n19) n99 (AB ad F) (nI q1099) x99_5 (nI q919) r15 (nI q73) p1 p2 p3 → ∀ (ls : Array Slot), lv_has ls 11 [(10, .int (nI q1099)), (5, .long x99_5), (9, .int (nI q919)), (8, .int r15), (7, .int (nI q73)), (0, .ref (ad 58)), (1, .long p1), (3, .int p2), (4, .int p3)] → W p l e { frames := 2, cells := 0, slots := 0, locals := 48 } s m args below meth c s.heap [] 0 0 Q (F0 m 91 ls []) := by
              intro n99
              induction n99 with
              | zero =>
                intro q1099 x99_5 iv99_0 hm99 hEl99 ls99 hl99
                exact absurd hm99 (Nat.not_lt_zero _)
              | succ n99 ih99 =>
                intro q1099 x99_5 iv99_0 hm99 hEl99 ls99 hl99
                have hE100 : M = m_X8_goes_L91_99_b (m_X8_goes_L6_3 n3) (m_X8_goes_L29_19 (m_X8_goes_L6_3 n3) n19) (m_X8_goes_L91_99 (m_X8_goes_L6_3 n3) (m_X8_goes_L29_19 (m_X8_goes_L6_3 n3) n19) n99) (AB ad F) (nI q1099) x99_5 (nI q919) r15 (nI q73) p1 p2 p3 := hEl99
                refine lv_iload S.1 S.2.1 dX8_goes_91 (lv_at hl99 0 rfl) ?_
                refine lv_aload_n S.1 S.2.1 dX8_goes_93 rfl (lv_at hl99 5 rfl) ?_
                refine r_get S hK hP 58 (by decide) hF5 (C := RX8) (T := TX8) (N := 23) hiX8 rfl 2 (by decide) (am_at in_wsX8_goes_0 0 rfl) (v := .ref (ad 60)) rfl dX8_goes_94 ?_
                refine lv_iconst (v := (nI 2)) S.1 S.2.1 dX8_goes_97 (by decide +kernel) ?_
                refine r_iald S hK hP 60 (by decide) hF6 (vp_in_nI (show 2 < 52 by omega) (by omega)) dX8_goes_98 ?_
                refine lv_topi (fun v102 e102 => ?_)
                obtain rfl : v102 = nI b9 := e102.trans he9
                have m103 : ((AB ad F) 60 (rl (nI 2))) = (nI b9) := (ab_cg rfl rfl).trans ((AB_g hF6).trans e102.symm)
                refine lv_icmp_ge (tgt := 140) S.1 S.2.1 dX8_goes_99 (by decide) (fun c104 => ?_) (fun c104 => ?_)
                · skip
                  have k105 := ci_le (nI_toInt (n := b9) (Nat.lt_of_le_of_lt hb9 (by decide))) (nI_toInt (n := q1099) (by omega)) c104
                  have m107 : ((nI q919) + Int32.ofInt (1)) = (nI (q919 + 1)) := (congrArg (fun q : Int32 => q + Int32.ofInt (1)) rfl).trans (nI_add _ 1)
                  refine lv_iinc (v := (nI (q919 + 1))) (lv' := [(9, .int (nI (q919 + 1))), (10, .int (nI q1099)), (5, .long x99_5), (8, .int r15), (7, .int (nI q73)), (0, .ref (ad 58)), (1, .long p1), (3, .int p2), (4, .int p3)]) S.1 S.2.1 dX8_goes_140 hl99 (k := 2) rfl (nI_add _ 1) (by decide) rfl (fun ls106 hl106 => ?_)
                  refine lv_goto (tgt := 29) S.1 S.2.1 dX8_goes_143 (by decide) ?_
                  have hE108 : M = (m_X8_goes_L29_19 (m_X8_goes_L6_3 n3) n19) (AB ad F) (nI (q919 + 1)) r15 (nI q73) x99_5 p1 p2 p3 := hE100.trans ((show m_X8_goes_L91_99_b (m_X8_goes_L6_3 n3) (m_X8_goes_L29_19 (m_X8_goes_L6_3 n3) n19) (m_X8_goes_L91_99 (m_X8_goes_L6_3 n3) (m_X8_goes_L29_19 (m_X8_goes_L6_3 n3) n19) n99) (AB ad F) (nI q1099) x99_5 (nI q919) r15 (nI q73) p1 p2 p3 = (m_X8_goes_L29_19 (m_X8_goes_L6_3 n3) n19) (AB ad F) ((nI q919) + Int32.ofInt (1)) r15 (nI q73) x99_5 p1 p2 p3 from by unfold m_X8_goes_L91_99_b; rw [if_pos (le_cg m103 rfl c104)]).trans (congr (congr (congr (congr (congr (congr (congr (congrArg ((m_X8_goes_L29_19 (m_X8_goes_L6_3 n3) n19)) (rfl : AB ad F = AB ad F)) m107) (Eq.refl (r15 : Int32))) (Eq.refl ((nI q73) : Int32))) (Eq.refl (x99_5 : Int64))) (Eq.refl (p1 : Int64))) (Eq.refl (p2 : Int32))) (Eq.refl (p3 : Int32))))
                  exact ih19 (q919 + 1) (x99_5) (by omega) (by omega) hE108 ls106 (lv_sub hl106 [0, 3, 4, 2, 5, 6, 7, 8] rfl)
                have k109 := ci_nle (nI_toInt (n := b9) (Nat.lt_of_le_of_lt hb9 (by decide))) (nI_toInt (n := q1099) (by omega)) c104
                refine lv_lload S.1 S.2.1 dX8_goes_102 (lv_at hl99 1 rfl) ?_
                refine lv_iload S.1 S.2.1 dX8_goes_104 (lv_at hl99 8 rfl) ?_
                refine lv_iconst (v := (-1)) S.1 S.2.1 dX8_goes_106 (by decide +kernel) ?_
                refine lv_icmp_ne (tgt := 130) S.1 S.2.1 dX8_goes_107 (by decide) (fun c110 => ?_) (fun c110 => ?_)
                · skip
                  have k111 := ci_ne rfl (show ((-1) : Int32).toInt = -1 by decide +kernel) c110
                  refine lv_lconst (v := 0) S.1 S.2.1 dX8_goes_130 (by decide +kernel) ?_
                  refine lv_lor S.1 S.2.1 dX8_goes_131 ?_
                  refine lv_topl (fun v112 e112 => ?_)
                  have m113 : (x99_5 ||| (0 : Int64)) = v112 := cg2 (fun (x : Int64) (y : Int64) => x ||| y) (Eq.refl (x99_5 : Int64)) (Eq.refl (0 : Int64)) e112
                  refine lv_lstore (lv' := [(5, .long v112), (10, .int (nI q1099)), (9, .int (nI q919)), (8, .int r15), (7, .int (nI q73)), (0, .ref (ad 58)), (1, .long p1), (3, .int p2), (4, .int p3)]) S.1 S.2.1 dX8_goes_132 hl99 (by decide) rfl (fun ls114 hl114 => ?_)
                  have m116 : ((nI q1099) + Int32.ofInt (1)) = (nI (q1099 + 1)) := (congrArg (fun q : Int32 => q + Int32.ofInt (1)) rfl).trans (nI_add _ 1)
                  refine lv_iinc (v := (nI (q1099 + 1))) (lv' := [(10, .int (nI (q1099 + 1))), (5, .long v112), (9, .int (nI q919)), (8, .int r15), (7, .int (nI q73)), (0, .ref (ad 58)), (1, .long p1), (3, .int p2), (4, .int p3)]) S.1 S.2.1 dX8_goes_134 hl114 (k := 1) rfl (nI_add _ 1) (by decide) rfl (fun ls115 hl115 => ?_)
                  refine lv_goto (tgt := 91) S.1 S.2.1 dX8_goes_137 (by decide) ?_
                  have hE117 : M = (m_X8_goes_L91_99 (m_X8_goes_L6_3 n3) (m_X8_goes_L29_19 (m_X8_goes_L6_3 n3) n19) n99) (AB ad F) (nI (q1099 + 1)) v112 (nI q919) r15 (nI q73) p1 p2 p3 := hE100.trans ((show m_X8_goes_L91_99_b (m_X8_goes_L6_3 n3) (m_X8_goes_L29_19 (m_X8_goes_L6_3 n3) n19) (m_X8_goes_L91_99 (m_X8_goes_L6_3 n3) (m_X8_goes_L29_19 (m_X8_goes_L6_3 n3) n19) n99) (AB ad F) (nI q1099) x99_5 (nI q919) r15 (nI q73) p1 p2 p3 = (m_X8_goes_L91_99 (m_X8_goes_L6_3 n3) (m_X8_goes_L29_19 (m_X8_goes_L6_3 n3) n19) n99) (AB ad F) ((nI q1099) + Int32.ofInt (1)) (x99_5 ||| (0 : Int64)) (nI q919) r15 (nI q73) p1 p2 p3 from by unfold m_X8_goes_L91_99_b; rw [if_neg (nle_cg m103 rfl c104), if_neg (neq_cg rfl rfl c110)]).trans (congr (congr (congr (congr (congr (congr (congr (congr (congrArg ((m_X8_goes_L91_99 (m_X8_goes_L6_3 n3) (m_X8_goes_L29_19 (m_X8_goes_L6_3 n3) n19) n99)) (rfl : AB ad F = AB ad F)) m116) m113) (Eq.refl ((nI q919) : Int32))) (Eq.refl (r15 : Int32))) (Eq.refl ((nI q73) : Int32))) (Eq.refl (p1 : Int64))) (Eq.refl (p2 : Int32))) (Eq.refl (p3 : Int32))))
                  exact ih99 (q1099 + 1) (v112) (by omega) (by omega) hE117 ls115 (lv_sub hl115 [0, 1, 2, 3, 4, 5, 6, 7, 8] rfl)
                have k118 := ci_eq rfl (show ((-1) : Int32).toInt = -1 by decide +kernel) c110
                refine lv_iload S.1 S.2.1 dX8_goes_110 (lv_at hl99 3 rfl) ?_
                refine lv_iload S.1 S.2.1 dX8_goes_112 (lv_at hl99 0 rfl) ?_
                refine lv_ishr S.1 S.2.1 dX8_goes_114 ?_
                refine lv_topi (fun v119 e119 => ?_)
                have m120 : (r15 >>> ((nI q1099) &&& 31)) = v119 := cg2 (fun (x : Int32) (y : Int32) => x >>> (y &&& 31)) (Eq.refl (r15 : Int32)) (Eq.refl ((nI q1099) : Int32)) e119
                refine lv_iconst (v := (nI 1)) S.1 S.2.1 dX8_goes_115 (by decide +kernel) ?_
                refine lv_iand S.1 S.2.1 dX8_goes_116 ?_
                refine lv_topi (fun v121 e121 => ?_)
                have m122 : ((r15 >>> ((nI q1099) &&& 31)) &&& (nI 1)) = v121 := cg2 (fun (x : Int32) (y : Int32) => x &&& y) m120 (Eq.refl ((nI 1) : Int32)) e121
                refine lv_iconst (v := (nI 1)) S.1 S.2.1 dX8_goes_117 (by decide +kernel) ?_
                refine lv_icmp_ne (tgt := 130) S.1 S.2.1 dX8_goes_118 (by decide) (fun c123 => ?_) (fun c123 => ?_)
                · skip
                  have k124 := ci_ne rfl (nI_toInt (n := 1) (by decide)) c123
                  refine lv_lconst (v := 0) S.1 S.2.1 dX8_goes_130 (by decide +kernel) ?_
                  refine lv_lor S.1 S.2.1 dX8_goes_131 ?_
                  refine lv_topl (fun v125 e125 => ?_)
                  have m126 : (x99_5 ||| (0 : Int64)) = v125 := cg2 (fun (x : Int64) (y : Int64) => x ||| y) (Eq.refl (x99_5 : Int64)) (Eq.refl (0 : Int64)) e125
                  refine lv_lstore (lv' := [(5, .long v125), (10, .int (nI q1099)), (9, .int (nI q919)), (8, .int r15), (7, .int (nI q73)), (0, .ref (ad 58)), (1, .long p1), (3, .int p2), (4, .int p3)]) S.1 S.2.1 dX8_goes_132 hl99 (by decide) rfl (fun ls127 hl127 => ?_)
                  have m129 : ((nI q1099) + Int32.ofInt (1)) = (nI (q1099 + 1)) := (congrArg (fun q : Int32 => q + Int32.ofInt (1)) rfl).trans (nI_add _ 1)
                  refine lv_iinc (v := (nI (q1099 + 1))) (lv' := [(10, .int (nI (q1099 + 1))), (5, .long v125), (9, .int (nI q919)), (8, .int r15), (7, .int (nI q73)), (0, .ref (ad 58)), (1, .long p1), (3, .int p2), (4, .int p3)]) S.1 S.2.1 dX8_goes_134 hl127 (k := 1) rfl (nI_add _ 1) (by decide) rfl (fun ls128 hl128 => ?_)
                  refine lv_goto (tgt := 91) S.1 S.2.1 dX8_goes_137 (by decide) ?_
                  have hE130 : M = (m_X8_goes_L91_99 (m_X8_goes_L6_3 n3) (m_X8_goes_L29_19 (m_X8_goes_L6_3 n3) n19) n99) (AB ad F) (nI (q1099 + 1)) v125 (nI q919) r15 (nI q73) p1 p2 p3 := hE100.trans ((show m_X8_goes_L91_99_b (m_X8_goes_L6_3 n3) (m_X8_goes_L29_19 (m_X8_goes_L6_3 n3) n19) (m_X8_goes_L91_99 (m_X8_goes_L6_3 n3) (m_X8_goes_L29_19 (m_X8_goes_L6_3 n3) n19) n99) (AB ad F) (nI q1099) x99_5 (nI q919) r15 (nI q73) p1 p2 p3 = (m_X8_goes_L91_99 (m_X8_goes_L6_3 n3) (m_X8_goes_L29_19 (m_X8_goes_L6_3 n3) n19) n99) (AB ad F) ((nI q1099) + Int32.ofInt (1)) (x99_5 ||| (0 : Int64)) (nI q919) r15 (nI q73) p1 p2 p3 from by unfold m_X8_goes_L91_99_b; rw [if_neg (nle_cg m103 rfl c104), if_pos (eq_cg rfl rfl c110), if_neg (neq_cg m122 rfl c123)]).trans (congr (congr (congr (congr (congr (congr (congr (congr (congrArg ((m_X8_goes_L91_99 (m_X8_goes_L6_3 n3) (m_X8_goes_L29_19 (m_X8_goes_L6_3 n3) n19) n99)) (rfl : AB ad F = AB ad F)) m129) m126) (Eq.refl ((nI q919) : Int32))) (Eq.refl (r15 : Int32))) (Eq.refl ((nI q73) : Int32))) (Eq.refl (p1 : Int64))) (Eq.refl (p2 : Int32))) (Eq.refl (p3 : Int32))))
                  exact ih99 (q1099 + 1) (v125) (by omega) (by omega) hE130 ls128 (lv_sub hl128 [0, 1, 2, 3, 4, 5, 6, 7, 8] rfl)
                have k131 := ci_eq rfl (nI_toInt (n := 1) (by decide)) c123
                refine lv_iload S.1 S.2.1 dX8_goes_121 (lv_at hl99 0 rfl) ?_
                refine lv_iconst (v := (nI 0)) S.1 S.2.1 dX8_goes_123 (by decide +kernel) ?_
                refine r_cSl (As := [.int (nI q1099), .int (nI 0)]) (rest := [.long x99_5]) S hK hZ hP hS hl99.1 (c_X8_bit l D cA ad t hI F hW (nI q1099) (nI 0)) (va_cwS 2 S.2.2.2.2 gX8_goes_X8_bit rfl rfl rfl (by decide +kernel) ⟨Nat.le_of_ble_eq_true rfl, Nat.le_of_ble_eq_true rfl⟩) rfl rfl (Nat.le_of_ble_eq_true rfl) ⟨Nat.zero_le _, Nat.zero_le _⟩ dX8_goes_124 (fun r132 hr132 => ?_)
                obtain ⟨hr132, hm132⟩ := hr132
                have m133 : (m_X8_bit (AB ad F) (nI q1099) (nI 0)) = r132 := (congr (congr (Eq.refl (m_X8_bit (AB ad F))) (Eq.refl ((nI q1099) : Int32))) (Eq.refl ((nI 0) : Int32))).trans hm132
                refine lv_goto (tgt := 131) S.1 S.2.1 dX8_goes_127 (by decide) ?_
                refine lv_lor S.1 S.2.1 dX8_goes_131 ?_
                refine lv_topl (fun v134 e134 => ?_)
                have m135 : (x99_5 ||| (m_X8_bit (AB ad F) (nI q1099) (nI 0))) = v134 := cg2 (fun (x : Int64) (y : Int64) => x ||| y) (Eq.refl (x99_5 : Int64)) m133 e134
                refine lv_lstore (lv' := [(5, .long v134), (10, .int (nI q1099)), (9, .int (nI q919)), (8, .int r15), (7, .int (nI q73)), (0, .ref (ad 58)), (1, .long p1), (3, .int p2), (4, .int p3)]) S.1 S.2.1 dX8_goes_132 hl99 (by decide) rfl (fun ls136 hl136 => ?_)
                have m138 : ((nI q1099) + Int32.ofInt (1)) = (nI (q1099 + 1)) := (congrArg (fun q : Int32 => q + Int32.ofInt (1)) rfl).trans (nI_add _ 1)
                refine lv_iinc (v := (nI (q1099 + 1))) (lv' := [(10, .int (nI (q1099 + 1))), (5, .long v134), (9, .int (nI q919)), (8, .int r15), (7, .int (nI q73)), (0, .ref (ad 58)), (1, .long p1), (3, .int p2), (4, .int p3)]) S.1 S.2.1 dX8_goes_134 hl136 (k := 1) rfl (nI_add _ 1) (by decide) rfl (fun ls137 hl137 => ?_)
                refine lv_goto (tgt := 91) S.1 S.2.1 dX8_goes_137 (by decide) ?_
                have hE139 : M = (m_X8_goes_L91_99 (m_X8_goes_L6_3 n3) (m_X8_goes_L29_19 (m_X8_goes_L6_3 n3) n19) n99) (AB ad F) (nI (q1099 + 1)) v134 (nI q919) r15 (nI q73) p1 p2 p3 := hE100.trans ((show m_X8_goes_L91_99_b (m_X8_goes_L6_3 n3) (m_X8_goes_L29_19 (m_X8_goes_L6_3 n3) n19) (m_X8_goes_L91_99 (m_X8_goes_L6_3 n3) (m_X8_goes_L29_19 (m_X8_goes_L6_3 n3) n19) n99) (AB ad F) (nI q1099) x99_5 (nI q919) r15 (nI q73) p1 p2 p3 = (m_X8_goes_L91_99 (m_X8_goes_L6_3 n3) (m_X8_goes_L29_19 (m_X8_goes_L6_3 n3) n19) n99) (AB ad F) ((nI q1099) + Int32.ofInt (1)) (x99_5 ||| (m_X8_bit (AB ad F) (nI q1099) (nI 0))) (nI q919) r15 (nI q73) p1 p2 p3 from by unfold m_X8_goes_L91_99_b; rw [if_neg (nle_cg m103 rfl c104), if_pos (eq_cg rfl rfl c110), if_pos (eq_cg m122 rfl c123)]).trans (congr (congr (congr (congr (congr (congr (congr (congr (congrArg ((m_X8_goes_L91_99 (m_X8_goes_L6_3 n3) (m_X8_goes_L29_19 (m_X8_goes_L6_3 n3) n19) n99)) (rfl : AB ad F = AB ad F)) m138) m135) (Eq.refl ((nI q919) : Int32))) (Eq.refl (r15 : Int32))) (Eq.refl ((nI q73) : Int32))) (Eq.refl (p1 : Int64))) (Eq.refl (p2 : Int32))) (Eq.refl (p3 : Int32))))
                exact ih99 (q1099 + 1) (v134) (by omega) (by omega) hE139 ls137 (lv_sub hl137 [0, 1, 2, 3, 4, 5, 6, 7, 8] rfl)
            have hE140 : M = m_X8_goes_L91_99 (m_X8_goes_L6_3 n3) (m_X8_goes_L29_19 (m_X8_goes_L6_3 n3) n19) 2000 (AB ad F) (nI 0) v95 (nI q919) r15 (nI q73) p1 p2 p3 := hE20.trans ((show m_X8_goes_L29_19_b (m_X8_goes_L6_3 n3) (m_X8_goes_L29_19 (m_X8_goes_L6_3 n3) n19) (AB ad F) (nI q919) r15 (nI q73) x19_5 p1 p2 p3 = m_X8_goes_L91_99 (m_X8_goes_L6_3 n3) (m_X8_goes_L29_19 (m_X8_goes_L6_3 n3) n19) 2000 (AB ad F) (nI 0) (x19_5 ||| (m_X8_bit (AB ad F) (nI q73) ((nI q919) + (nI 1)))) (nI q919) r15 (nI q73) p1 p2 p3 from by unfold m_X8_goes_L29_19_b; rw [if_neg (nle_cg rfl rfl c21), if_neg (neq_cg m29 rfl c30), if_neg (nle_cg m39 rfl c40), if_pos (eq_cg rfl rfl c89)]).trans (congr (congr (congr (congr (congr (congr (congr (congr (congrArg (m_X8_goes_L91_99 (m_X8_goes_L6_3 n3) (m_X8_goes_L29_19 (m_X8_goes_L6_3 n3) n19) 2000) (rfl : AB ad F = AB ad F)) (Eq.refl ((nI 0) : Int32))) m96) (Eq.refl ((nI q919) : Int32))) (Eq.refl (r15 : Int32))) (Eq.refl ((nI q73) : Int32))) (Eq.refl (p1 : Int64))) (Eq.refl (p2 : Int32))) (Eq.refl (p3 : Int32))))
            exact lp99 2000 (0) (v95) (by omega) (by omega) hE140 ls98 (lv_sub hl98 [0, 1, 2, 3, 4, 5, 6, 7, 8] rfl)
          have k141 := ci_ne rfl (show ((-1) : Int32).toInt = -1 by decide +kernel) c89
          refine lv_iload S.1 S.2.1 dX8_goes_65 (lv_at hl19 7 rfl) ?_
          refine lv_iload S.1 S.2.1 dX8_goes_67 (lv_at hl19 2 rfl) ?_
          refine lv_icmp_ne (tgt := 84) S.1 S.2.1 dX8_goes_69 (by decide) (fun c142 => ?_) (fun c142 => ?_)
          · skip
            have k143 := ci_ne rfl (nI_toInt (n := q73) (by omega)) c142
            refine lv_lconst (v := 0) S.1 S.2.1 dX8_goes_84 (by decide +kernel) ?_
            refine lv_lor S.1 S.2.1 dX8_goes_85 ?_
            refine lv_topl (fun v144 e144 => ?_)
            have m145 : (x19_5 ||| (0 : Int64)) = v144 := cg2 (fun (x : Int64) (y : Int64) => x ||| y) (Eq.refl (x19_5 : Int64)) (Eq.refl (0 : Int64)) e144
            refine lv_lstore (lv' := [(5, .long v144), (9, .int (nI q919)), (8, .int r15), (7, .int (nI q73)), (0, .ref (ad 58)), (1, .long p1), (3, .int p2), (4, .int p3)]) S.1 S.2.1 dX8_goes_86 hl19 (by decide) rfl (fun ls146 hl146 => ?_)
            refine lv_iconst (v := (nI 0)) S.1 S.2.1 dX8_goes_88 (by decide +kernel) ?_
            refine lv_istore (lv' := [(10, .int (nI 0)), (5, .long v144), (9, .int (nI q919)), (8, .int r15), (7, .int (nI q73)), (0, .ref (ad 58)), (1, .long p1), (3, .int p2), (4, .int p3)]) S.1 S.2.1 dX8_goes_89 hl146 (by decide) rfl (fun ls147 hl147 => ?_)
            have lp148 : ∀ (n148 : Nat) (q10148 : Nat) (x148_5 : Int64), q10148 ≤ 8 → 8 - q10148 < n148 → M = m_X8_goes_L91_148 (m_X8_goes_L6_3 n3) (m_X8_goes_L29_19 (m_X8_goes_L6_3 n3) n19) n148 (AB ad F) (nI q10148) x148_5 (nI q919) r15 (nI q73) p1 p2 p3 → ∀ (ls : Array Slot), lv_has ls 11 [(10, .int (nI q10148)), (5, .long x148_5), (9, .int (nI q919)), (8, .int r15), (7, .int (nI q73)), (0, .ref (ad 58)), (1, .long p1), (3, .int p2), (4, .int p3)] → W p l e { frames := 2, cells := 0, slots := 0, locals := 48 } s m args below meth c s.heap [] 0 0 Q (F0 m 91 ls []) := by
              intro n148
              induction n148 with
              | zero =>
                intro q10148 x148_5 iv148_0 hm148 hEl148 ls148 hl148
                exact absurd hm148 (Nat.not_lt_zero _)
              | succ n148 ih148 =>
                intro q10148 x148_5 iv148_0 hm148 hEl148 ls148 hl148
                have hE149 : M = m_X8_goes_L91_148_b (m_X8_goes_L6_3 n3) (m_X8_goes_L29_19 (m_X8_goes_L6_3 n3) n19) (m_X8_goes_L91_148 (m_X8_goes_L6_3 n3) (m_X8_goes_L29_19 (m_X8_goes_L6_3 n3) n19) n148) (AB ad F) (nI q10148) x148_5 (nI q919) r15 (nI q73) p1 p2 p3 := hEl148
                refine lv_iload S.1 S.2.1 dX8_goes_91 (lv_at hl148 0 rfl) ?_
                refine lv_aload_n S.1 S.2.1 dX8_goes_93 rfl (lv_at hl148 5 rfl) ?_
                refine r_get S hK hP 58 (by decide) hF5 (C := RX8) (T := TX8) (N := 23) hiX8 rfl 2 (by decide) (am_at in_wsX8_goes_0 0 rfl) (v := .ref (ad 60)) rfl dX8_goes_94 ?_
                refine lv_iconst (v := (nI 2)) S.1 S.2.1 dX8_goes_97 (by decide +kernel) ?_
                refine r_iald S hK hP 60 (by decide) hF6 (vp_in_nI (show 2 < 52 by omega) (by omega)) dX8_goes_98 ?_
                refine lv_topi (fun v151 e151 => ?_)
                obtain rfl : v151 = nI b9 := e151.trans he9
                have m152 : ((AB ad F) 60 (rl (nI 2))) = (nI b9) := (ab_cg rfl rfl).trans ((AB_g hF6).trans e151.symm)
                refine lv_icmp_ge (tgt := 140) S.1 S.2.1 dX8_goes_99 (by decide) (fun c153 => ?_) (fun c153 => ?_)
                · skip
                  have k154 := ci_le (nI_toInt (n := b9) (Nat.lt_of_le_of_lt hb9 (by decide))) (nI_toInt (n := q10148) (by omega)) c153
                  have m156 : ((nI q919) + Int32.ofInt (1)) = (nI (q919 + 1)) := (congrArg (fun q : Int32 => q + Int32.ofInt (1)) rfl).trans (nI_add _ 1)
                  refine lv_iinc (v := (nI (q919 + 1))) (lv' := [(9, .int (nI (q919 + 1))), (10, .int (nI q10148)), (5, .long x148_5), (8, .int r15), (7, .int (nI q73)), (0, .ref (ad 58)), (1, .long p1), (3, .int p2), (4, .int p3)]) S.1 S.2.1 dX8_goes_140 hl148 (k := 2) rfl (nI_add _ 1) (by decide) rfl (fun ls155 hl155 => ?_)
                  refine lv_goto (tgt := 29) S.1 S.2.1 dX8_goes_143 (by decide) ?_
                  have hE157 : M = (m_X8_goes_L29_19 (m_X8_goes_L6_3 n3) n19) (AB ad F) (nI (q919 + 1)) r15 (nI q73) x148_5 p1 p2 p3 := hE149.trans ((show m_X8_goes_L91_148_b (m_X8_goes_L6_3 n3) (m_X8_goes_L29_19 (m_X8_goes_L6_3 n3) n19) (m_X8_goes_L91_148 (m_X8_goes_L6_3 n3) (m_X8_goes_L29_19 (m_X8_goes_L6_3 n3) n19) n148) (AB ad F) (nI q10148) x148_5 (nI q919) r15 (nI q73) p1 p2 p3 = (m_X8_goes_L29_19 (m_X8_goes_L6_3 n3) n19) (AB ad F) ((nI q919) + Int32.ofInt (1)) r15 (nI q73) x148_5 p1 p2 p3 from by unfold m_X8_goes_L91_148_b; rw [if_pos (le_cg m152 rfl c153)]).trans (congr (congr (congr (congr (congr (congr (congr (congrArg ((m_X8_goes_L29_19 (m_X8_goes_L6_3 n3) n19)) (rfl : AB ad F = AB ad F)) m156) (Eq.refl (r15 : Int32))) (Eq.refl ((nI q73) : Int32))) (Eq.refl (x148_5 : Int64))) (Eq.refl (p1 : Int64))) (Eq.refl (p2 : Int32))) (Eq.refl (p3 : Int32))))
                  exact ih19 (q919 + 1) (x148_5) (by omega) (by omega) hE157 ls155 (lv_sub hl155 [0, 3, 4, 2, 5, 6, 7, 8] rfl)
                have k158 := ci_nle (nI_toInt (n := b9) (Nat.lt_of_le_of_lt hb9 (by decide))) (nI_toInt (n := q10148) (by omega)) c153
                refine lv_lload S.1 S.2.1 dX8_goes_102 (lv_at hl148 1 rfl) ?_
                refine lv_iload S.1 S.2.1 dX8_goes_104 (lv_at hl148 8 rfl) ?_
                refine lv_iconst (v := (-1)) S.1 S.2.1 dX8_goes_106 (by decide +kernel) ?_
                refine lv_icmp_ne (tgt := 130) S.1 S.2.1 dX8_goes_107 (by decide) (fun c159 => ?_) (fun c159 => ?_)
                · skip
                  have k160 := ci_ne rfl (show ((-1) : Int32).toInt = -1 by decide +kernel) c159
                  refine lv_lconst (v := 0) S.1 S.2.1 dX8_goes_130 (by decide +kernel) ?_
                  refine lv_lor S.1 S.2.1 dX8_goes_131 ?_
                  refine lv_topl (fun v161 e161 => ?_)
                  have m162 : (x148_5 ||| (0 : Int64)) = v161 := cg2 (fun (x : Int64) (y : Int64) => x ||| y) (Eq.refl (x148_5 : Int64)) (Eq.refl (0 : Int64)) e161
                  refine lv_lstore (lv' := [(5, .long v161), (10, .int (nI q10148)), (9, .int (nI q919)), (8, .int r15), (7, .int (nI q73)), (0, .ref (ad 58)), (1, .long p1), (3, .int p2), (4, .int p3)]) S.1 S.2.1 dX8_goes_132 hl148 (by decide) rfl (fun ls163 hl163 => ?_)
                  have m165 : ((nI q10148) + Int32.ofInt (1)) = (nI (q10148 + 1)) := (congrArg (fun q : Int32 => q + Int32.ofInt (1)) rfl).trans (nI_add _ 1)
                  refine lv_iinc (v := (nI (q10148 + 1))) (lv' := [(10, .int (nI (q10148 + 1))), (5, .long v161), (9, .int (nI q919)), (8, .int r15), (7, .int (nI q73)), (0, .ref (ad 58)), (1, .long p1), (3, .int p2), (4, .int p3)]) S.1 S.2.1 dX8_goes_134 hl163 (k := 1) rfl (nI_add _ 1) (by decide) rfl (fun ls164 hl164 => ?_)
                  refine lv_goto (tgt := 91) S.1 S.2.1 dX8_goes_137 (by decide) ?_
                  have hE166 : M = (m_X8_goes_L91_148 (m_X8_goes_L6_3 n3) (m_X8_goes_L29_19 (m_X8_goes_L6_3 n3) n19) n148) (AB ad F) (nI (q10148 + 1)) v161 (nI q919) r15 (nI q73) p1 p2 p3 := hE149.trans ((show m_X8_goes_L91_148_b (m_X8_goes_L6_3 n3) (m_X8_goes_L29_19 (m_X8_goes_L6_3 n3) n19) (m_X8_goes_L91_148 (m_X8_goes_L6_3 n3) (m_X8_goes_L29_19 (m_X8_goes_L6_3 n3) n19) n148) (AB ad F) (nI q10148) x148_5 (nI q919) r15 (nI q73) p1 p2 p3 = (m_X8_goes_L91_148 (m_X8_goes_L6_3 n3) (m_X8_goes_L29_19 (m_X8_goes_L6_3 n3) n19) n148) (AB ad F) ((nI q10148) + Int32.ofInt (1)) (x148_5 ||| (0 : Int64)) (nI q919) r15 (nI q73) p1 p2 p3 from by unfold m_X8_goes_L91_148_b; rw [if_neg (nle_cg m152 rfl c153), if_neg (neq_cg rfl rfl c159)]).trans (congr (congr (congr (congr (congr (congr (congr (congr (congrArg ((m_X8_goes_L91_148 (m_X8_goes_L6_3 n3) (m_X8_goes_L29_19 (m_X8_goes_L6_3 n3) n19) n148)) (rfl : AB ad F = AB ad F)) m165) m162) (Eq.refl ((nI q919) : Int32))) (Eq.refl (r15 : Int32))) (Eq.refl ((nI q73) : Int32))) (Eq.refl (p1 : Int64))) (Eq.refl (p2 : Int32))) (Eq.refl (p3 : Int32))))
                  exact ih148 (q10148 + 1) (v161) (by omega) (by omega) hE166 ls164 (lv_sub hl164 [0, 1, 2, 3, 4, 5, 6, 7, 8] rfl)
                have k167 := ci_eq rfl (show ((-1) : Int32).toInt = -1 by decide +kernel) c159
                refine lv_iload S.1 S.2.1 dX8_goes_110 (lv_at hl148 3 rfl) ?_
                refine lv_iload S.1 S.2.1 dX8_goes_112 (lv_at hl148 0 rfl) ?_
                refine lv_ishr S.1 S.2.1 dX8_goes_114 ?_
                refine lv_topi (fun v168 e168 => ?_)
                have m169 : (r15 >>> ((nI q10148) &&& 31)) = v168 := cg2 (fun (x : Int32) (y : Int32) => x >>> (y &&& 31)) (Eq.refl (r15 : Int32)) (Eq.refl ((nI q10148) : Int32)) e168
                refine lv_iconst (v := (nI 1)) S.1 S.2.1 dX8_goes_115 (by decide +kernel) ?_
                refine lv_iand S.1 S.2.1 dX8_goes_116 ?_
                refine lv_topi (fun v170 e170 => ?_)
                have m171 : ((r15 >>> ((nI q10148) &&& 31)) &&& (nI 1)) = v170 := cg2 (fun (x : Int32) (y : Int32) => x &&& y) m169 (Eq.refl ((nI 1) : Int32)) e170
                refine lv_iconst (v := (nI 1)) S.1 S.2.1 dX8_goes_117 (by decide +kernel) ?_
                refine lv_icmp_ne (tgt := 130) S.1 S.2.1 dX8_goes_118 (by decide) (fun c172 => ?_) (fun c172 => ?_)
                · skip
                  have k173 := ci_ne rfl (nI_toInt (n := 1) (by decide)) c172
                  refine lv_lconst (v := 0) S.1 S.2.1 dX8_goes_130 (by decide +kernel) ?_
                  refine lv_lor S.1 S.2.1 dX8_goes_131 ?_
                  refine lv_topl (fun v174 e174 => ?_)
                  have m175 : (x148_5 ||| (0 : Int64)) = v174 := cg2 (fun (x : Int64) (y : Int64) => x ||| y) (Eq.refl (x148_5 : Int64)) (Eq.refl (0 : Int64)) e174
                  refine lv_lstore (lv' := [(5, .long v174), (10, .int (nI q10148)), (9, .int (nI q919)), (8, .int r15), (7, .int (nI q73)), (0, .ref (ad 58)), (1, .long p1), (3, .int p2), (4, .int p3)]) S.1 S.2.1 dX8_goes_132 hl148 (by decide) rfl (fun ls176 hl176 => ?_)
                  have m178 : ((nI q10148) + Int32.ofInt (1)) = (nI (q10148 + 1)) := (congrArg (fun q : Int32 => q + Int32.ofInt (1)) rfl).trans (nI_add _ 1)
                  refine lv_iinc (v := (nI (q10148 + 1))) (lv' := [(10, .int (nI (q10148 + 1))), (5, .long v174), (9, .int (nI q919)), (8, .int r15), (7, .int (nI q73)), (0, .ref (ad 58)), (1, .long p1), (3, .int p2), (4, .int p3)]) S.1 S.2.1 dX8_goes_134 hl176 (k := 1) rfl (nI_add _ 1) (by decide) rfl (fun ls177 hl177 => ?_)
                  refine lv_goto (tgt := 91) S.1 S.2.1 dX8_goes_137 (by decide) ?_
                  have hE179 : M = (m_X8_goes_L91_148 (m_X8_goes_L6_3 n3) (m_X8_goes_L29_19 (m_X8_goes_L6_3 n3) n19) n148) (AB ad F) (nI (q10148 + 1)) v174 (nI q919) r15 (nI q73) p1 p2 p3 := hE149.trans ((show m_X8_goes_L91_148_b (m_X8_goes_L6_3 n3) (m_X8_goes_L29_19 (m_X8_goes_L6_3 n3) n19) (m_X8_goes_L91_148 (m_X8_goes_L6_3 n3) (m_X8_goes_L29_19 (m_X8_goes_L6_3 n3) n19) n148) (AB ad F) (nI q10148) x148_5 (nI q919) r15 (nI q73) p1 p2 p3 = (m_X8_goes_L91_148 (m_X8_goes_L6_3 n3) (m_X8_goes_L29_19 (m_X8_goes_L6_3 n3) n19) n148) (AB ad F) ((nI q10148) + Int32.ofInt (1)) (x148_5 ||| (0 : Int64)) (nI q919) r15 (nI q73) p1 p2 p3 from by unfold m_X8_goes_L91_148_b; rw [if_neg (nle_cg m152 rfl c153), if_pos (eq_cg rfl rfl c159), if_neg (neq_cg m171 rfl c172)]).trans (congr (congr (congr (congr (congr (congr (congr (congr (congrArg ((m_X8_goes_L91_148 (m_X8_goes_L6_3 n3) (m_X8_goes_L29_19 (m_X8_goes_L6_3 n3) n19) n148)) (rfl : AB ad F = AB ad F)) m178) m175) (Eq.refl ((nI q919) : Int32))) (Eq.refl (r15 : Int32))) (Eq.refl ((nI q73) : Int32))) (Eq.refl (p1 : Int64))) (Eq.refl (p2 : Int32))) (Eq.refl (p3 : Int32))))
                  exact ih148 (q10148 + 1) (v174) (by omega) (by omega) hE179 ls177 (lv_sub hl177 [0, 1, 2, 3, 4, 5, 6, 7, 8] rfl)
                have k180 := ci_eq rfl (nI_toInt (n := 1) (by decide)) c172
                refine lv_iload S.1 S.2.1 dX8_goes_121 (lv_at hl148 0 rfl) ?_
                refine lv_iconst (v := (nI 0)) S.1 S.2.1 dX8_goes_123 (by decide +kernel) ?_
                refine r_cSl (As := [.int (nI q10148), .int (nI 0)]) (rest := [.long x148_5]) S hK hZ hP hS hl148.1 (c_X8_bit l D cA ad t hI F hW (nI q10148) (nI 0)) (va_cwS 2 S.2.2.2.2 gX8_goes_X8_bit rfl rfl rfl (by decide +kernel) ⟨Nat.le_of_ble_eq_true rfl, Nat.le_of_ble_eq_true rfl⟩) rfl rfl (Nat.le_of_ble_eq_true rfl) ⟨Nat.zero_le _, Nat.zero_le _⟩ dX8_goes_124 (fun r181 hr181 => ?_)
                obtain ⟨hr181, hm181⟩ := hr181
                have m182 : (m_X8_bit (AB ad F) (nI q10148) (nI 0)) = r181 := (congr (congr (Eq.refl (m_X8_bit (AB ad F))) (Eq.refl ((nI q10148) : Int32))) (Eq.refl ((nI 0) : Int32))).trans hm181
                refine lv_goto (tgt := 131) S.1 S.2.1 dX8_goes_127 (by decide) ?_
                refine lv_lor S.1 S.2.1 dX8_goes_131 ?_
                refine lv_topl (fun v183 e183 => ?_)
                have m184 : (x148_5 ||| (m_X8_bit (AB ad F) (nI q10148) (nI 0))) = v183 := cg2 (fun (x : Int64) (y : Int64) => x ||| y) (Eq.refl (x148_5 : Int64)) m182 e183
                refine lv_lstore (lv' := [(5, .long v183), (10, .int (nI q10148)), (9, .int (nI q919)), (8, .int r15), (7, .int (nI q73)), (0, .ref (ad 58)), (1, .long p1), (3, .int p2), (4, .int p3)]) S.1 S.2.1 dX8_goes_132 hl148 (by decide) rfl (fun ls185 hl185 => ?_)
                have m187 : ((nI q10148) + Int32.ofInt (1)) = (nI (q10148 + 1)) := (congrArg (fun q : Int32 => q + Int32.ofInt (1)) rfl).trans (nI_add _ 1)
                refine lv_iinc (v := (nI (q10148 + 1))) (lv' := [(10, .int (nI (q10148 + 1))), (5, .long v183), (9, .int (nI q919)), (8, .int r15), (7, .int (nI q73)), (0, .ref (ad 58)), (1, .long p1), (3, .int p2), (4, .int p3)]) S.1 S.2.1 dX8_goes_134 hl185 (k := 1) rfl (nI_add _ 1) (by decide) rfl (fun ls186 hl186 => ?_)
                refine lv_goto (tgt := 91) S.1 S.2.1 dX8_goes_137 (by decide) ?_
                have hE188 : M = (m_X8_goes_L91_148 (m_X8_goes_L6_3 n3) (m_X8_goes_L29_19 (m_X8_goes_L6_3 n3) n19) n148) (AB ad F) (nI (q10148 + 1)) v183 (nI q919) r15 (nI q73) p1 p2 p3 := hE149.trans ((show m_X8_goes_L91_148_b (m_X8_goes_L6_3 n3) (m_X8_goes_L29_19 (m_X8_goes_L6_3 n3) n19) (m_X8_goes_L91_148 (m_X8_goes_L6_3 n3) (m_X8_goes_L29_19 (m_X8_goes_L6_3 n3) n19) n148) (AB ad F) (nI q10148) x148_5 (nI q919) r15 (nI q73) p1 p2 p3 = (m_X8_goes_L91_148 (m_X8_goes_L6_3 n3) (m_X8_goes_L29_19 (m_X8_goes_L6_3 n3) n19) n148) (AB ad F) ((nI q10148) + Int32.ofInt (1)) (x148_5 ||| (m_X8_bit (AB ad F) (nI q10148) (nI 0))) (nI q919) r15 (nI q73) p1 p2 p3 from by unfold m_X8_goes_L91_148_b; rw [if_neg (nle_cg m152 rfl c153), if_pos (eq_cg rfl rfl c159), if_pos (eq_cg m171 rfl c172)]).trans (congr (congr (congr (congr (congr (congr (congr (congr (congrArg ((m_X8_goes_L91_148 (m_X8_goes_L6_3 n3) (m_X8_goes_L29_19 (m_X8_goes_L6_3 n3) n19) n148)) (rfl : AB ad F = AB ad F)) m187) m184) (Eq.refl ((nI q919) : Int32))) (Eq.refl (r15 : Int32))) (Eq.refl ((nI q73) : Int32))) (Eq.refl (p1 : Int64))) (Eq.refl (p2 : Int32))) (Eq.refl (p3 : Int32))))
                exact ih148 (q10148 + 1) (v183) (by omega) (by omega) hE188 ls186 (lv_sub hl186 [0, 1, 2, 3, 4, 5, 6, 7, 8] rfl)
            have hE189 : M = m_X8_goes_L91_148 (m_X8_goes_L6_3 n3) (m_X8_goes_L29_19 (m_X8_goes_L6_3 n3) n19) 2000 (AB ad F) (nI 0) v144 (nI q919) r15 (nI q73) p1 p2 p3 := hE20.trans ((show m_X8_goes_L29_19_b (m_X8_goes_L6_3 n3) (m_X8_goes_L29_19 (m_X8_goes_L6_3 n3) n19) (AB ad F) (nI q919) r15 (nI q73) x19_5 p1 p2 p3 = m_X8_goes_L91_148 (m_X8_goes_L6_3 n3) (m_X8_goes_L29_19 (m_X8_goes_L6_3 n3) n19) 2000 (AB ad F) (nI 0) (x19_5 ||| (0 : Int64)) (nI q919) r15 (nI q73) p1 p2 p3 from by unfold m_X8_goes_L29_19_b; rw [if_neg (nle_cg rfl rfl c21), if_neg (neq_cg m29 rfl c30), if_neg (nle_cg m39 rfl c40), if_neg (neq_cg rfl rfl c89), if_neg (neq_cg rfl rfl c142)]).trans (congr (congr (congr (congr (congr (congr (congr (congr (congrArg (m_X8_goes_L91_148 (m_X8_goes_L6_3 n3) (m_X8_goes_L29_19 (m_X8_goes_L6_3 n3) n19) 2000) (rfl : AB ad F = AB ad F)) (Eq.refl ((nI 0) : Int32))) m145) (Eq.refl ((nI q919) : Int32))) (Eq.refl (r15 : Int32))) (Eq.refl ((nI q73) : Int32))) (Eq.refl (p1 : Int64))) (Eq.refl (p2 : Int32))) (Eq.refl (p3 : Int32))))
            exact lp148 2000 (0) (v144) (by omega) (by omega) hE189 ls147 (lv_sub hl147 [0, 1, 2, 3, 4, 5, 6, 7, 8] rfl)
          have k190 := ci_eq rfl (nI_toInt (n := q73) (by omega)) c142
          refine lv_iload S.1 S.2.1 dX8_goes_72 (lv_at hl19 2 rfl) ?_
          refine lv_iload S.1 S.2.1 dX8_goes_74 (lv_at hl19 0 rfl) ?_
          refine lv_iconst (v := (nI 1)) S.1 S.2.1 dX8_goes_76 (by decide +kernel) ?_
          refine lv_iadd S.1 S.2.1 dX8_goes_77 ?_
          refine lv_topi (fun v191 e191 => ?_)
          obtain rfl : v191 = nI (q919 + 1) := e191.trans (nI_add _ _)
          have m192 : ((nI q919) + (nI 1)) = (nI (q919 + 1)) := cg2 (fun (x : Int32) (y : Int32) => x + y) (Eq.refl ((nI q919) : Int32)) (Eq.refl ((nI 1) : Int32)) e191
          refine r_cSl (As := [.int (nI q73), .int (nI (q919 + 1))]) (rest := [.long x19_5]) S hK hZ hP hS hl19.1 (c_X8_bit l D cA ad t hI F hW (nI q73) (nI (q919 + 1))) (va_cwS 2 S.2.2.2.2 gX8_goes_X8_bit rfl rfl rfl (by decide +kernel) ⟨Nat.le_of_ble_eq_true rfl, Nat.le_of_ble_eq_true rfl⟩) rfl rfl (Nat.le_of_ble_eq_true rfl) ⟨Nat.zero_le _, Nat.zero_le _⟩ dX8_goes_78 (fun r193 hr193 => ?_)
          obtain ⟨hr193, hm193⟩ := hr193
          have m194 : (m_X8_bit (AB ad F) (nI q73) ((nI q919) + (nI 1))) = r193 := (congr (congr (Eq.refl (m_X8_bit (AB ad F))) (Eq.refl ((nI q73) : Int32))) m192).trans hm193
          refine lv_goto (tgt := 85) S.1 S.2.1 dX8_goes_81 (by decide) ?_
          refine lv_lor S.1 S.2.1 dX8_goes_85 ?_
          refine lv_topl (fun v195 e195 => ?_)
          have m196 : (x19_5 ||| (m_X8_bit (AB ad F) (nI q73) ((nI q919) + (nI 1)))) = v195 := cg2 (fun (x : Int64) (y : Int64) => x ||| y) (Eq.refl (x19_5 : Int64)) m194 e195
          refine lv_lstore (lv' := [(5, .long v195), (9, .int (nI q919)), (8, .int r15), (7, .int (nI q73)), (0, .ref (ad 58)), (1, .long p1), (3, .int p2), (4, .int p3)]) S.1 S.2.1 dX8_goes_86 hl19 (by decide) rfl (fun ls197 hl197 => ?_)
          refine lv_iconst (v := (nI 0)) S.1 S.2.1 dX8_goes_88 (by decide +kernel) ?_
          refine lv_istore (lv' := [(10, .int (nI 0)), (5, .long v195), (9, .int (nI q919)), (8, .int r15), (7, .int (nI q73)), (0, .ref (ad 58)), (1, .long p1), (3, .int p2), (4, .int p3)]) S.1 S.2.1 dX8_goes_89 hl197 (by decide) rfl (fun ls198 hl198 => ?_)
          have lp199 : ∀ (n199 : Nat) (q10199 : Nat) (x199_5 : Int64), q10199 ≤ 8 → 8 - q10199 < n199 → M = m_X8_goes_L91_199 (m_X8_goes_L6_3 n3) (m_X8_goes_L29_19 (m_X8_goes_L6_3 n3) n19) n199 (AB ad F) (nI q10199) x199_5 (nI q919) r15 (nI q73) p1 p2 p3 → ∀ (ls : Array Slot), lv_has ls 11 [(10, .int (nI q10199)), (5, .long x199_5), (9, .int (nI q919)), (8, .int r15), (7, .int (nI q73)), (0, .ref (ad 58)), (1, .long p1), (3, .int p2), (4, .int p3)] → W p l e { frames := 2, cells := 0, slots := 0, locals := 48 } s m args below meth c s.heap [] 0 0 Q (F0 m 91 ls []) := by
            intro n199
            induction n199 with
            | zero =>
              intro q10199 x199_5 iv199_0 hm199 hEl199 ls199 hl199
              exact absurd hm199 (Nat.not_lt_zero _)
            | succ n199 ih199 =>
              intro q10199 x199_5 iv199_0 hm199 hEl199 ls199 hl199
              have hE200 : M = m_X8_goes_L91_199_b (m_X8_goes_L6_3 n3) (m_X8_goes_L29_19 (m_X8_goes_L6_3 n3) n19) (m_X8_goes_L91_199 (m_X8_goes_L6_3 n3) (m_X8_goes_L29_19 (m_X8_goes_L6_3 n3) n19) n199) (AB ad F) (nI q10199) x199_5 (nI q919) r15 (nI q73) p1 p2 p3 := hEl199
              refine lv_iload S.1 S.2.1 dX8_goes_91 (lv_at hl199 0 rfl) ?_
              refine lv_aload_n S.1 S.2.1 dX8_goes_93 rfl (lv_at hl199 5 rfl) ?_
              refine r_get S hK hP 58 (by decide) hF5 (C := RX8) (T := TX8) (N := 23) hiX8 rfl 2 (by decide) (am_at in_wsX8_goes_0 0 rfl) (v := .ref (ad 60)) rfl dX8_goes_94 ?_
              refine lv_iconst (v := (nI 2)) S.1 S.2.1 dX8_goes_97 (by decide +kernel) ?_
              refine r_iald S hK hP 60 (by decide) hF6 (vp_in_nI (show 2 < 52 by omega) (by omega)) dX8_goes_98 ?_
              refine lv_topi (fun v202 e202 => ?_)
              obtain rfl : v202 = nI b9 := e202.trans he9
              have m203 : ((AB ad F) 60 (rl (nI 2))) = (nI b9) := (ab_cg rfl rfl).trans ((AB_g hF6).trans e202.symm)
              refine lv_icmp_ge (tgt := 140) S.1 S.2.1 dX8_goes_99 (by decide) (fun c204 => ?_) (fun c204 => ?_)
              · skip
                have k205 := ci_le (nI_toInt (n := b9) (Nat.lt_of_le_of_lt hb9 (by decide))) (nI_toInt (n := q10199) (by omega)) c204
                have m207 : ((nI q919) + Int32.ofInt (1)) = (nI (q919 + 1)) := (congrArg (fun q : Int32 => q + Int32.ofInt (1)) rfl).trans (nI_add _ 1)
                refine lv_iinc (v := (nI (q919 + 1))) (lv' := [(9, .int (nI (q919 + 1))), (10, .int (nI q10199)), (5, .long x199_5), (8, .int r15), (7, .int (nI q73)), (0, .ref (ad 58)), (1, .long p1), (3, .int p2), (4, .int p3)]) S.1 S.2.1 dX8_goes_140 hl199 (k := 2) rfl (nI_add _ 1) (by decide) rfl (fun ls206 hl206 => ?_)
                refine lv_goto (tgt := 29) S.1 S.2.1 dX8_goes_143 (by decide) ?_
                have hE208 : M = (m_X8_goes_L29_19 (m_X8_goes_L6_3 n3) n19) (AB ad F) (nI (q919 + 1)) r15 (nI q73) x199_5 p1 p2 p3 := hE200.trans ((show m_X8_goes_L91_199_b (m_X8_goes_L6_3 n3) (m_X8_goes_L29_19 (m_X8_goes_L6_3 n3) n19) (m_X8_goes_L91_199 (m_X8_goes_L6_3 n3) (m_X8_goes_L29_19 (m_X8_goes_L6_3 n3) n19) n199) (AB ad F) (nI q10199) x199_5 (nI q919) r15 (nI q73) p1 p2 p3 = (m_X8_goes_L29_19 (m_X8_goes_L6_3 n3) n19) (AB ad F) ((nI q919) + Int32.ofInt (1)) r15 (nI q73) x199_5 p1 p2 p3 from by unfold m_X8_goes_L91_199_b; rw [if_pos (le_cg m203 rfl c204)]).trans (congr (congr (congr (congr (congr (congr (congr (congrArg ((m_X8_goes_L29_19 (m_X8_goes_L6_3 n3) n19)) (rfl : AB ad F = AB ad F)) m207) (Eq.refl (r15 : Int32))) (Eq.refl ((nI q73) : Int32))) (Eq.refl (x199_5 : Int64))) (Eq.refl (p1 : Int64))) (Eq.refl (p2 : Int32))) (Eq.refl (p3 : Int32))))
                exact ih19 (q919 + 1) (x199_5) (by omega) (by omega) hE208 ls206 (lv_sub hl206 [0, 3, 4, 2, 5, 6, 7, 8] rfl)
              have k209 := ci_nle (nI_toInt (n := b9) (Nat.lt_of_le_of_lt hb9 (by decide))) (nI_toInt (n := q10199) (by omega)) c204
              refine lv_lload S.1 S.2.1 dX8_goes_102 (lv_at hl199 1 rfl) ?_
              refine lv_iload S.1 S.2.1 dX8_goes_104 (lv_at hl199 8 rfl) ?_
              refine lv_iconst (v := (-1)) S.1 S.2.1 dX8_goes_106 (by decide +kernel) ?_
              refine lv_icmp_ne (tgt := 130) S.1 S.2.1 dX8_goes_107 (by decide) (fun c210 => ?_) (fun c210 => ?_)
              · skip
                have k211 := ci_ne rfl (show ((-1) : Int32).toInt = -1 by decide +kernel) c210
                refine lv_lconst (v := 0) S.1 S.2.1 dX8_goes_130 (by decide +kernel) ?_
                refine lv_lor S.1 S.2.1 dX8_goes_131 ?_
                refine lv_topl (fun v212 e212 => ?_)
                have m213 : (x199_5 ||| (0 : Int64)) = v212 := cg2 (fun (x : Int64) (y : Int64) => x ||| y) (Eq.refl (x199_5 : Int64)) (Eq.refl (0 : Int64)) e212
                refine lv_lstore (lv' := [(5, .long v212), (10, .int (nI q10199)), (9, .int (nI q919)), (8, .int r15), (7, .int (nI q73)), (0, .ref (ad 58)), (1, .long p1), (3, .int p2), (4, .int p3)]) S.1 S.2.1 dX8_goes_132 hl199 (by decide) rfl (fun ls214 hl214 => ?_)
                have m216 : ((nI q10199) + Int32.ofInt (1)) = (nI (q10199 + 1)) := (congrArg (fun q : Int32 => q + Int32.ofInt (1)) rfl).trans (nI_add _ 1)
                refine lv_iinc (v := (nI (q10199 + 1))) (lv' := [(10, .int (nI (q10199 + 1))), (5, .long v212), (9, .int (nI q919)), (8, .int r15), (7, .int (nI q73)), (0, .ref (ad 58)), (1, .long p1), (3, .int p2), (4, .int p3)]) S.1 S.2.1 dX8_goes_134 hl214 (k := 1) rfl (nI_add _ 1) (by decide) rfl (fun ls215 hl215 => ?_)
                refine lv_goto (tgt := 91) S.1 S.2.1 dX8_goes_137 (by decide) ?_
                have hE217 : M = (m_X8_goes_L91_199 (m_X8_goes_L6_3 n3) (m_X8_goes_L29_19 (m_X8_goes_L6_3 n3) n19) n199) (AB ad F) (nI (q10199 + 1)) v212 (nI q919) r15 (nI q73) p1 p2 p3 := hE200.trans ((show m_X8_goes_L91_199_b (m_X8_goes_L6_3 n3) (m_X8_goes_L29_19 (m_X8_goes_L6_3 n3) n19) (m_X8_goes_L91_199 (m_X8_goes_L6_3 n3) (m_X8_goes_L29_19 (m_X8_goes_L6_3 n3) n19) n199) (AB ad F) (nI q10199) x199_5 (nI q919) r15 (nI q73) p1 p2 p3 = (m_X8_goes_L91_199 (m_X8_goes_L6_3 n3) (m_X8_goes_L29_19 (m_X8_goes_L6_3 n3) n19) n199) (AB ad F) ((nI q10199) + Int32.ofInt (1)) (x199_5 ||| (0 : Int64)) (nI q919) r15 (nI q73) p1 p2 p3 from by unfold m_X8_goes_L91_199_b; rw [if_neg (nle_cg m203 rfl c204), if_neg (neq_cg rfl rfl c210)]).trans (congr (congr (congr (congr (congr (congr (congr (congr (congrArg ((m_X8_goes_L91_199 (m_X8_goes_L6_3 n3) (m_X8_goes_L29_19 (m_X8_goes_L6_3 n3) n19) n199)) (rfl : AB ad F = AB ad F)) m216) m213) (Eq.refl ((nI q919) : Int32))) (Eq.refl (r15 : Int32))) (Eq.refl ((nI q73) : Int32))) (Eq.refl (p1 : Int64))) (Eq.refl (p2 : Int32))) (Eq.refl (p3 : Int32))))
                exact ih199 (q10199 + 1) (v212) (by omega) (by omega) hE217 ls215 (lv_sub hl215 [0, 1, 2, 3, 4, 5, 6, 7, 8] rfl)
              have k218 := ci_eq rfl (show ((-1) : Int32).toInt = -1 by decide +kernel) c210
              refine lv_iload S.1 S.2.1 dX8_goes_110 (lv_at hl199 3 rfl) ?_
              refine lv_iload S.1 S.2.1 dX8_goes_112 (lv_at hl199 0 rfl) ?_
              refine lv_ishr S.1 S.2.1 dX8_goes_114 ?_
              refine lv_topi (fun v219 e219 => ?_)
              have m220 : (r15 >>> ((nI q10199) &&& 31)) = v219 := cg2 (fun (x : Int32) (y : Int32) => x >>> (y &&& 31)) (Eq.refl (r15 : Int32)) (Eq.refl ((nI q10199) : Int32)) e219
              refine lv_iconst (v := (nI 1)) S.1 S.2.1 dX8_goes_115 (by decide +kernel) ?_
              refine lv_iand S.1 S.2.1 dX8_goes_116 ?_
              refine lv_topi (fun v221 e221 => ?_)
              have m222 : ((r15 >>> ((nI q10199) &&& 31)) &&& (nI 1)) = v221 := cg2 (fun (x : Int32) (y : Int32) => x &&& y) m220 (Eq.refl ((nI 1) : Int32)) e221
              refine lv_iconst (v := (nI 1)) S.1 S.2.1 dX8_goes_117 (by decide +kernel) ?_
              refine lv_icmp_ne (tgt := 130) S.1 S.2.1 dX8_goes_118 (by decide) (fun c223 => ?_) (fun c223 => ?_)
              · skip
                have k224 := ci_ne rfl (nI_toInt (n := 1) (by decide)) c223
                refine lv_lconst (v := 0) S.1 S.2.1 dX8_goes_130 (by decide +kernel) ?_
                refine lv_lor S.1 S.2.1 dX8_goes_131 ?_
                refine lv_topl (fun v225 e225 => ?_)
                have m226 : (x199_5 ||| (0 : Int64)) = v225 := cg2 (fun (x : Int64) (y : Int64) => x ||| y) (Eq.refl (x199_5 : Int64)) (Eq.refl (0 : Int64)) e225
                refine lv_lstore (lv' := [(5, .long v225), (10, .int (nI q10199)), (9, .int (nI q919)), (8, .int r15), (7, .int (nI q73)), (0, .ref (ad 58)), (1, .long p1), (3, .int p2), (4, .int p3)]) S.1 S.2.1 dX8_goes_132 hl199 (by decide) rfl (fun ls227 hl227 => ?_)
                have m229 : ((nI q10199) + Int32.ofInt (1)) = (nI (q10199 + 1)) := (congrArg (fun q : Int32 => q + Int32.ofInt (1)) rfl).trans (nI_add _ 1)
                refine lv_iinc (v := (nI (q10199 + 1))) (lv' := [(10, .int (nI (q10199 + 1))), (5, .long v225), (9, .int (nI q919)), (8, .int r15), (7, .int (nI q73)), (0, .ref (ad 58)), (1, .long p1), (3, .int p2), (4, .int p3)]) S.1 S.2.1 dX8_goes_134 hl227 (k := 1) rfl (nI_add _ 1) (by decide) rfl (fun ls228 hl228 => ?_)
                refine lv_goto (tgt := 91) S.1 S.2.1 dX8_goes_137 (by decide) ?_
                have hE230 : M = (m_X8_goes_L91_199 (m_X8_goes_L6_3 n3) (m_X8_goes_L29_19 (m_X8_goes_L6_3 n3) n19) n199) (AB ad F) (nI (q10199 + 1)) v225 (nI q919) r15 (nI q73) p1 p2 p3 := hE200.trans ((show m_X8_goes_L91_199_b (m_X8_goes_L6_3 n3) (m_X8_goes_L29_19 (m_X8_goes_L6_3 n3) n19) (m_X8_goes_L91_199 (m_X8_goes_L6_3 n3) (m_X8_goes_L29_19 (m_X8_goes_L6_3 n3) n19) n199) (AB ad F) (nI q10199) x199_5 (nI q919) r15 (nI q73) p1 p2 p3 = (m_X8_goes_L91_199 (m_X8_goes_L6_3 n3) (m_X8_goes_L29_19 (m_X8_goes_L6_3 n3) n19) n199) (AB ad F) ((nI q10199) + Int32.ofInt (1)) (x199_5 ||| (0 : Int64)) (nI q919) r15 (nI q73) p1 p2 p3 from by unfold m_X8_goes_L91_199_b; rw [if_neg (nle_cg m203 rfl c204), if_pos (eq_cg rfl rfl c210), if_neg (neq_cg m222 rfl c223)]).trans (congr (congr (congr (congr (congr (congr (congr (congr (congrArg ((m_X8_goes_L91_199 (m_X8_goes_L6_3 n3) (m_X8_goes_L29_19 (m_X8_goes_L6_3 n3) n19) n199)) (rfl : AB ad F = AB ad F)) m229) m226) (Eq.refl ((nI q919) : Int32))) (Eq.refl (r15 : Int32))) (Eq.refl ((nI q73) : Int32))) (Eq.refl (p1 : Int64))) (Eq.refl (p2 : Int32))) (Eq.refl (p3 : Int32))))
                exact ih199 (q10199 + 1) (v225) (by omega) (by omega) hE230 ls228 (lv_sub hl228 [0, 1, 2, 3, 4, 5, 6, 7, 8] rfl)
              have k231 := ci_eq rfl (nI_toInt (n := 1) (by decide)) c223
              refine lv_iload S.1 S.2.1 dX8_goes_121 (lv_at hl199 0 rfl) ?_
              refine lv_iconst (v := (nI 0)) S.1 S.2.1 dX8_goes_123 (by decide +kernel) ?_
              refine r_cSl (As := [.int (nI q10199), .int (nI 0)]) (rest := [.long x199_5]) S hK hZ hP hS hl199.1 (c_X8_bit l D cA ad t hI F hW (nI q10199) (nI 0)) (va_cwS 2 S.2.2.2.2 gX8_goes_X8_bit rfl rfl rfl (by decide +kernel) ⟨Nat.le_of_ble_eq_true rfl, Nat.le_of_ble_eq_true rfl⟩) rfl rfl (Nat.le_of_ble_eq_true rfl) ⟨Nat.zero_le _, Nat.zero_le _⟩ dX8_goes_124 (fun r232 hr232 => ?_)
              obtain ⟨hr232, hm232⟩ := hr232
              have m233 : (m_X8_bit (AB ad F) (nI q10199) (nI 0)) = r232 := (congr (congr (Eq.refl (m_X8_bit (AB ad F))) (Eq.refl ((nI q10199) : Int32))) (Eq.refl ((nI 0) : Int32))).trans hm232
              refine lv_goto (tgt := 131) S.1 S.2.1 dX8_goes_127 (by decide) ?_
              refine lv_lor S.1 S.2.1 dX8_goes_131 ?_
              refine lv_topl (fun v234 e234 => ?_)
              have m235 : (x199_5 ||| (m_X8_bit (AB ad F) (nI q10199) (nI 0))) = v234 := cg2 (fun (x : Int64) (y : Int64) => x ||| y) (Eq.refl (x199_5 : Int64)) m233 e234
              refine lv_lstore (lv' := [(5, .long v234), (10, .int (nI q10199)), (9, .int (nI q919)), (8, .int r15), (7, .int (nI q73)), (0, .ref (ad 58)), (1, .long p1), (3, .int p2), (4, .int p3)]) S.1 S.2.1 dX8_goes_132 hl199 (by decide) rfl (fun ls236 hl236 => ?_)
              have m238 : ((nI q10199) + Int32.ofInt (1)) = (nI (q10199 + 1)) := (congrArg (fun q : Int32 => q + Int32.ofInt (1)) rfl).trans (nI_add _ 1)
              refine lv_iinc (v := (nI (q10199 + 1))) (lv' := [(10, .int (nI (q10199 + 1))), (5, .long v234), (9, .int (nI q919)), (8, .int r15), (7, .int (nI q73)), (0, .ref (ad 58)), (1, .long p1), (3, .int p2), (4, .int p3)]) S.1 S.2.1 dX8_goes_134 hl236 (k := 1) rfl (nI_add _ 1) (by decide) rfl (fun ls237 hl237 => ?_)
              refine lv_goto (tgt := 91) S.1 S.2.1 dX8_goes_137 (by decide) ?_
              have hE239 : M = (m_X8_goes_L91_199 (m_X8_goes_L6_3 n3) (m_X8_goes_L29_19 (m_X8_goes_L6_3 n3) n19) n199) (AB ad F) (nI (q10199 + 1)) v234 (nI q919) r15 (nI q73) p1 p2 p3 := hE200.trans ((show m_X8_goes_L91_199_b (m_X8_goes_L6_3 n3) (m_X8_goes_L29_19 (m_X8_goes_L6_3 n3) n19) (m_X8_goes_L91_199 (m_X8_goes_L6_3 n3) (m_X8_goes_L29_19 (m_X8_goes_L6_3 n3) n19) n199) (AB ad F) (nI q10199) x199_5 (nI q919) r15 (nI q73) p1 p2 p3 = (m_X8_goes_L91_199 (m_X8_goes_L6_3 n3) (m_X8_goes_L29_19 (m_X8_goes_L6_3 n3) n19) n199) (AB ad F) ((nI q10199) + Int32.ofInt (1)) (x199_5 ||| (m_X8_bit (AB ad F) (nI q10199) (nI 0))) (nI q919) r15 (nI q73) p1 p2 p3 from by unfold m_X8_goes_L91_199_b; rw [if_neg (nle_cg m203 rfl c204), if_pos (eq_cg rfl rfl c210), if_pos (eq_cg m222 rfl c223)]).trans (congr (congr (congr (congr (congr (congr (congr (congr (congrArg ((m_X8_goes_L91_199 (m_X8_goes_L6_3 n3) (m_X8_goes_L29_19 (m_X8_goes_L6_3 n3) n19) n199)) (rfl : AB ad F = AB ad F)) m238) m235) (Eq.refl ((nI q919) : Int32))) (Eq.refl (r15 : Int32))) (Eq.refl ((nI q73) : Int32))) (Eq.refl (p1 : Int64))) (Eq.refl (p2 : Int32))) (Eq.refl (p3 : Int32))))
              exact ih199 (q10199 + 1) (v234) (by omega) (by omega) hE239 ls237 (lv_sub hl237 [0, 1, 2, 3, 4, 5, 6, 7, 8] rfl)
          have hE240 : M = m_X8_goes_L91_199 (m_X8_goes_L6_3 n3) (m_X8_goes_L29_19 (m_X8_goes_L6_3 n3) n19) 2000 (AB ad F) (nI 0) v195 (nI q919) r15 (nI q73) p1 p2 p3 := hE20.trans ((show m_X8_goes_L29_19_b (m_X8_goes_L6_3 n3) (m_X8_goes_L29_19 (m_X8_goes_L6_3 n3) n19) (AB ad F) (nI q919) r15 (nI q73) x19_5 p1 p2 p3 = m_X8_goes_L91_199 (m_X8_goes_L6_3 n3) (m_X8_goes_L29_19 (m_X8_goes_L6_3 n3) n19) 2000 (AB ad F) (nI 0) (x19_5 ||| (m_X8_bit (AB ad F) (nI q73) ((nI q919) + (nI 1)))) (nI q919) r15 (nI q73) p1 p2 p3 from by unfold m_X8_goes_L29_19_b; rw [if_neg (nle_cg rfl rfl c21), if_neg (neq_cg m29 rfl c30), if_neg (nle_cg m39 rfl c40), if_neg (neq_cg rfl rfl c89), if_pos (eq_cg rfl rfl c142)]).trans (congr (congr (congr (congr (congr (congr (congr (congr (congrArg (m_X8_goes_L91_199 (m_X8_goes_L6_3 n3) (m_X8_goes_L29_19 (m_X8_goes_L6_3 n3) n19) 2000) (rfl : AB ad F = AB ad F)) (Eq.refl ((nI 0) : Int32))) m196) (Eq.refl ((nI q919) : Int32))) (Eq.refl (r15 : Int32))) (Eq.refl ((nI q73) : Int32))) (Eq.refl (p1 : Int64))) (Eq.refl (p2 : Int32))) (Eq.refl (p3 : Int32))))
          exact lp199 2000 (0) (v195) (by omega) (by omega) hE240 ls198 (lv_sub hl198 [0, 1, 2, 3, 4, 5, 6, 7, 8] rfl)
      have hE241 : M = m_X8_goes_L29_19 (m_X8_goes_L6_3 n3) 2000 (AB ad F) (nI 0) r15 (nI q73) x3_5 p1 p2 p3 := hE4.trans ((show m_X8_goes_L6_3_b (m_X8_goes_L6_3 n3) (AB ad F) (nI q73) x3_5 p1 p2 p3 = m_X8_goes_L29_19 (m_X8_goes_L6_3 n3) 2000 (AB ad F) (nI 0) (m_X8_walks (AB ad F) (nI q73) p2) (nI q73) x3_5 p1 p2 p3 from by unfold m_X8_goes_L6_3_b; rw [if_neg (nle_cg m10 rfl c11)]).trans (congr (congr (congr (congr (congr (congr (congr (congrArg (m_X8_goes_L29_19 (m_X8_goes_L6_3 n3) 2000) (rfl : AB ad F = AB ad F)) (Eq.refl ((nI 0) : Int32))) m16) (Eq.refl ((nI q73) : Int32))) (Eq.refl (x3_5 : Int64))) (Eq.refl (p1 : Int64))) (Eq.refl (p2 : Int32))) (Eq.refl (p3 : Int32))))
      exact lp19 2000 (0) (x3_5) (by omega) (by omega) hE241 ls18 (lv_sub hl18 [0, 1, 2, 3, 4, 5, 6, 7] rfl)
  have hE242 : M = m_X8_goes_L6_3 2000 (AB ad F) (nI 0) 0 p1 p2 p3 := hM.trans ((show m_X8_goes (AB ad F) p1 p2 p3 = m_X8_goes_L6_3 2000 (AB ad F) (nI 0) (0 : Int64) p1 p2 p3 from rfl).trans (congr (congr (congr (congr (congr (congrArg (m_X8_goes_L6_3 2000) (rfl : AB ad F = AB ad F)) (Eq.refl ((nI 0) : Int32))) (Eq.refl (0 : Int64))) (Eq.refl (p1 : Int64))) (Eq.refl (p2 : Int32))) (Eq.refl (p3 : Int32))))
  exact lp3 2000 (0) (0) (by omega) (by omega) hE242 ls2 (lv_sub hl2 [0, 1, 2, 3, 4, 5] rfl)
noncomputable def m_X8_towns_L4_3_b (k0 : SS → Int32 → Int32 → Int64 → Int32) (σ : SS) (a0 : Int32) (a1 : Int32) (a2 : Int64) : Int32 :=
  if (nI 8) ≤ a0 then
    a1
  else
    if (lg_cmp ((a2 >>> (((nI 5) * a0).toInt64 &&& 63)) &&& ((31) : Int64)) (0 : Int64)) = (0 : Int32) then
      k0 σ (a0 + Int32.ofInt (1)) (a1 ||| (nI 0)) a2
    else
      k0 σ (a0 + Int32.ofInt (1)) (a1 ||| ((nI 1) <<< (a0 &&& 31))) a2
noncomputable def m_X8_towns_L4_3 : Nat → SS → Int32 → Int32 → Int64 → Int32
  | 0 => fun σ _ _ _ => 0
  | n + 1 => m_X8_towns_L4_3_b (m_X8_towns_L4_3 n)
noncomputable def m_X8_towns (σ : SS) (a0 : Int64) : Int32 :=
  m_X8_towns_L4_3 2000 σ (nI 0) (nI 0) a0
set_option maxHeartbeats 4000000 in
set_option maxRecDepth 100000 in
theorem c_X8_towns (l : Launch) (D : va_G) (cA ad : Nat → Nat) (t : Nat) (hI : rI ad) (F : Nat → va_E) (hW : WT cA ad F) (p1 : Int64) : MP l D cA ad t yX8_towns wsX8_towns { frames := 0, cells := 0, slots := 0, locals := 0 } [.long p1] F (fun r => (True) ∧ m_X8_towns (AB ad F) p1 = r) := by
  refine en_P rfl (by decide +kernel) (Nat.le_of_ble_eq_true rfl) ?_
  intro p e s m args below meth c ls0 Q S hK hZ hP hS hl0 hret
  have hl0 : lv_has ls0 4 [(0, .long p1)] := hl0
  obtain ⟨M, hM⟩ : ∃ M, M = m_X8_towns (AB ad F) p1 := ⟨_, rfl⟩
  refine lv_iconst (v := (nI 0)) S.1 S.2.1 dX8_towns_0 (by decide +kernel) ?_
  refine lv_istore_n (lv' := [(2, .int (nI 0)), (0, .long p1)]) S.1 S.2.1 dX8_towns_1 rfl hl0 (by decide) rfl (fun ls1 hl1 => ?_)
  refine lv_iconst (v := (nI 0)) S.1 S.2.1 dX8_towns_2 (by decide +kernel) ?_
  refine lv_istore_n (lv' := [(3, .int (nI 0)), (2, .int (nI 0)), (0, .long p1)]) S.1 S.2.1 dX8_towns_3 rfl hl1 (by decide) rfl (fun ls2 hl2 => ?_)
  have lp3 : ∀ (n3 : Nat) (q33 : Nat) (x3_2 : Int32), q33 ≤ 8 → 8 - q33 < n3 → M = m_X8_towns_L4_3 n3 (AB ad F) (nI q33) x3_2 p1 → ∀ (ls : Array Slot), lv_has ls 4 [(3, .int (nI q33)), (2, .int x3_2), (0, .long p1)] → W p l e { frames := 0, cells := 0, slots := 0, locals := 0 } s m args below meth c s.heap [] 0 0 Q (F0 m 4 ls []) := by
    intro n3
    induction n3 with
    | zero =>
      intro q33 x3_2 iv3_0 hm3 hEl3 ls3 hl3
      exact absurd hm3 (Nat.not_lt_zero _)
    | succ n3 ih3 =>
      intro q33 x3_2 iv3_0 hm3 hEl3 ls3 hl3
      have hE4 : M = m_X8_towns_L4_3_b (m_X8_towns_L4_3 n3) (AB ad F) (nI q33) x3_2 p1 := hEl3
      refine lv_iload_n S.1 S.2.1 dX8_towns_4 rfl (lv_at hl3 0 rfl) ?_
      refine lv_bipush (v := (nI 8)) S.1 S.2.1 dX8_towns_5 (by decide +kernel) ?_
      refine lv_icmp_ge (tgt := 40) S.1 S.2.1 dX8_towns_7 (by decide) (fun c5 => ?_) (fun c5 => ?_)
      · skip
        have k6 := ci_le (nI_toInt (n := 8) (by decide)) (nI_toInt (n := q33) (by omega)) c5
        refine lv_iload_n S.1 S.2.1 dX8_towns_40 rfl (lv_at hl3 1 rfl) ?_
        have hE7 : M = x3_2 := hE4.trans ((show m_X8_towns_L4_3_b (m_X8_towns_L4_3 n3) (AB ad F) (nI q33) x3_2 p1 = x3_2 from by unfold m_X8_towns_L4_3_b; rw [if_pos (le_cg rfl rfl c5)]).trans rfl)
        exact hret 41 _ _ dX8_towns_41 rfl (⟨trivial, hM.symm.trans hE7⟩)
      have k8 := ci_nle (nI_toInt (n := 8) (by decide)) (nI_toInt (n := q33) (by omega)) c5
      refine lv_iload_n S.1 S.2.1 dX8_towns_10 rfl (lv_at hl3 1 rfl) ?_
      refine lv_lload_n S.1 S.2.1 dX8_towns_11 rfl (lv_at hl3 2 rfl) ?_
      refine lv_iconst (v := (nI 5)) S.1 S.2.1 dX8_towns_12 (by decide +kernel) ?_
      refine lv_iload_n S.1 S.2.1 dX8_towns_13 rfl (lv_at hl3 0 rfl) ?_
      refine lv_imul S.1 S.2.1 dX8_towns_14 ?_
      refine lv_topi (fun v9 e9 => ?_)
      obtain rfl : v9 = nI (5 * q33) := e9.trans (pk_mul _ _)
      have m10 : ((nI 5) * (nI q33)) = (nI (5 * q33)) := cg2 (fun (x : Int32) (y : Int32) => x * y) (Eq.refl ((nI 5) : Int32)) (Eq.refl ((nI q33) : Int32)) e9
      refine lv_lshr S.1 S.2.1 dX8_towns_15 rfl ?_
      refine lv_topl (fun v11 e11 => ?_)
      have m12 : (p1 >>> (((nI 5) * (nI q33)).toInt64 &&& 63)) = v11 := cg2 (fun (x : Int64) (y : Int32) => x >>> (y.toInt64 &&& 63)) (Eq.refl (p1 : Int64)) m10 e11
      refine lv_ldc2 (v := 31) S.1 S.2.1 S.2.2.2.1 (S.2.2.2.2 (.constantLong RX8 182 (31)) (am_at in_wsX8_towns_0 0 rfl)) dX8_towns_16 ?_
      refine lv_land S.1 S.2.1 dX8_towns_19 ?_
      refine lv_topl (fun v13 e13 => ?_)
      have m14 : ((p1 >>> (((nI 5) * (nI q33)).toInt64 &&& 63)) &&& ((31) : Int64)) = v13 := cg2 (fun (x : Int64) (y : Int64) => x &&& y) m12 (Eq.refl ((31) : Int64)) e13
      refine lv_lconst (v := 0) S.1 S.2.1 dX8_towns_20 (by decide +kernel) ?_
      refine W.lcmp S.1 S.2.1 dX8_towns_21 ?_
      refine lv_topi (fun v15 e15 => ?_)
      have m16 : (lg_cmp ((p1 >>> (((nI 5) * (nI q33)).toInt64 &&& 63)) &&& ((31) : Int64)) (0 : Int64)) = v15 := cg2 (fun (x : Int64) (y : Int64) => lg_cmp x y) m14 (Eq.refl (0 : Int64)) e15
      refine lv_if_eq (tgt := 31) S.1 S.2.1 dX8_towns_22 (by decide) (fun c17 => ?_) (fun c17 => ?_)
      · skip
        have k18 := ci_eq rfl z_ti c17
        refine lv_iconst (v := (nI 0)) S.1 S.2.1 dX8_towns_31 (by decide +kernel) ?_
        refine lv_ior S.1 S.2.1 dX8_towns_32 ?_
        refine lv_topi (fun v19 e19 => ?_)
        have m20 : (x3_2 ||| (nI 0)) = v19 := cg2 (fun (x : Int32) (y : Int32) => x ||| y) (Eq.refl (x3_2 : Int32)) (Eq.refl ((nI 0) : Int32)) e19
        refine lv_istore_n (lv' := [(2, .int v19), (3, .int (nI q33)), (0, .long p1)]) S.1 S.2.1 dX8_towns_33 rfl hl3 (by decide) rfl (fun ls21 hl21 => ?_)
        have m23 : ((nI q33) + Int32.ofInt (1)) = (nI (q33 + 1)) := (congrArg (fun q : Int32 => q + Int32.ofInt (1)) rfl).trans (nI_add _ 1)
        refine lv_iinc (v := (nI (q33 + 1))) (lv' := [(3, .int (nI (q33 + 1))), (2, .int v19), (0, .long p1)]) S.1 S.2.1 dX8_towns_34 hl21 (k := 1) rfl (nI_add _ 1) (by decide) rfl (fun ls22 hl22 => ?_)
        refine lv_goto (tgt := 4) S.1 S.2.1 dX8_towns_37 (by decide) ?_
        have hE24 : M = (m_X8_towns_L4_3 n3) (AB ad F) (nI (q33 + 1)) v19 p1 := hE4.trans ((show m_X8_towns_L4_3_b (m_X8_towns_L4_3 n3) (AB ad F) (nI q33) x3_2 p1 = (m_X8_towns_L4_3 n3) (AB ad F) ((nI q33) + Int32.ofInt (1)) (x3_2 ||| (nI 0)) p1 from by unfold m_X8_towns_L4_3_b; rw [if_neg (nle_cg rfl rfl c5), if_pos (eq_cg m16 rfl c17)]).trans (congr (congr (congr (congrArg ((m_X8_towns_L4_3 n3)) (rfl : AB ad F = AB ad F)) m23) m20) (Eq.refl (p1 : Int64))))
        exact ih3 (q33 + 1) (v19) (by omega) (by omega) hE24 ls22 (lv_sub hl22 [0, 1, 2] rfl)
      have k25 := ci_ne rfl z_ti c17
      refine lv_iconst (v := (nI 1)) S.1 S.2.1 dX8_towns_25 (by decide +kernel) ?_
      refine lv_iload_n S.1 S.2.1 dX8_towns_26 rfl (lv_at hl3 0 rfl) ?_
      refine lv_ishl S.1 S.2.1 dX8_towns_27 ?_
      refine lv_topi (fun v26 e26 => ?_)
      have m27 : ((nI 1) <<< ((nI q33) &&& 31)) = v26 := cg2 (fun (x : Int32) (y : Int32) => x <<< (y &&& 31)) (Eq.refl ((nI 1) : Int32)) (Eq.refl ((nI q33) : Int32)) e26
      refine lv_goto (tgt := 32) S.1 S.2.1 dX8_towns_28 (by decide) ?_
      refine lv_ior S.1 S.2.1 dX8_towns_32 ?_
      refine lv_topi (fun v28 e28 => ?_)
      have m29 : (x3_2 ||| ((nI 1) <<< ((nI q33) &&& 31))) = v28 := cg2 (fun (x : Int32) (y : Int32) => x ||| y) (Eq.refl (x3_2 : Int32)) m27 e28
      refine lv_istore_n (lv' := [(2, .int v28), (3, .int (nI q33)), (0, .long p1)]) S.1 S.2.1 dX8_towns_33 rfl hl3 (by decide) rfl (fun ls30 hl30 => ?_)
      have m32 : ((nI q33) + Int32.ofInt (1)) = (nI (q33 + 1)) := (congrArg (fun q : Int32 => q + Int32.ofInt (1)) rfl).trans (nI_add _ 1)
      refine lv_iinc (v := (nI (q33 + 1))) (lv' := [(3, .int (nI (q33 + 1))), (2, .int v28), (0, .long p1)]) S.1 S.2.1 dX8_towns_34 hl30 (k := 1) rfl (nI_add _ 1) (by decide) rfl (fun ls31 hl31 => ?_)
      refine lv_goto (tgt := 4) S.1 S.2.1 dX8_towns_37 (by decide) ?_
      have hE33 : M = (m_X8_towns_L4_3 n3) (AB ad F) (nI (q33 + 1)) v28 p1 := hE4.trans ((show m_X8_towns_L4_3_b (m_X8_towns_L4_3 n3) (AB ad F) (nI q33) x3_2 p1 = (m_X8_towns_L4_3 n3) (AB ad F) ((nI q33) + Int32.ofInt (1)) (x3_2 ||| ((nI 1) <<< ((nI q33) &&& 31))) p1 from by unfold m_X8_towns_L4_3_b; rw [if_neg (nle_cg rfl rfl c5), if_neg (neq_cg m16 rfl c17)]).trans (congr (congr (congr (congrArg ((m_X8_towns_L4_3 n3)) (rfl : AB ad F = AB ad F)) m32) m29) (Eq.refl (p1 : Int64))))
      exact ih3 (q33 + 1) (v28) (by omega) (by omega) hE33 ls31 (lv_sub hl31 [0, 1, 2] rfl)
  have hE34 : M = m_X8_towns_L4_3 2000 (AB ad F) (nI 0) (nI 0) p1 := hM.trans ((show m_X8_towns (AB ad F) p1 = m_X8_towns_L4_3 2000 (AB ad F) (nI 0) (nI 0) p1 from rfl).trans (congr (congr (congr (congrArg (m_X8_towns_L4_3 2000) (rfl : AB ad F = AB ad F)) (Eq.refl ((nI 0) : Int32))) (Eq.refl ((nI 0) : Int32))) (Eq.refl (p1 : Int64))))
  exact lp3 2000 (0) ((nI 0)) (by omega) (by omega) hE34 ls2 (lv_sub hl2 [0, 1, 2] rfl)
noncomputable def m_X8_may (σ : SS) (a0 : Int32) : Int32 :=
  if (m_X8_in σ a0 (nI 0) (nI 1)) = (0 : Int32) then
    ((-1000000002) : Int32)
  else
    if (m_X8_goesOn σ) = (0 : Int32) then
      ((-1000000003) : Int32)
    else
      if a0 = (0 : Int32) then
        (m_X8_walks σ (σ 62 (rl (nI 0))) (σ 62 (rl (nI 5))))
      else
        if (m_X8_mayStay σ) = (0 : Int32) then
          (nI 0)
        else
          (nI 1)
set_option maxHeartbeats 4000000 in
set_option maxRecDepth 100000 in
theorem c_X8_may (l : Launch) (D : va_G) (cA ad : Nat → Nat) (t : Nat) (hI : rI ad) (F : Nat → va_E) (hW : WT cA ad F) (p1 : Int32) : MP l D cA ad t yX8_may wsX8_may { frames := 2, cells := 0, slots := 0, locals := 48 } [.ref (ad 58), .int p1] F (fun r => (True) ∧ m_X8_may (AB ad F) p1 = r) := by
  refine en_P rfl (by decide +kernel) (Nat.le_of_ble_eq_true rfl) ?_
  intro p e s m args below meth c ls0 Q S hK hZ hP hS hl0 hret
  have hl0 : lv_has ls0 2 [(0, .ref (ad 58)), (1, .int p1)] := hl0
  have hiX8 : ∀ w ∈ u_ws RX8 TX8 23, w ∈ wsX8_may := in_wsX8_may_2
  obtain ⟨M, hM⟩ : ∃ M, M = m_X8_may (AB ad F) p1 := ⟨_, rfl⟩
  refine lv_iload_n S.1 S.2.1 dX8_may_0 rfl (lv_at hl0 1 rfl) ?_
  refine lv_iconst (v := (nI 0)) S.1 S.2.1 dX8_may_1 (by decide +kernel) ?_
  refine lv_iconst (v := (nI 1)) S.1 S.2.1 dX8_may_2 (by decide +kernel) ?_
  refine r_cSp (As := [.int p1, .int (nI 0), .int (nI 1)]) (rest := []) S hK hZ hP hS hl0.1 (c_X8_in l D cA ad t hI F hW p1 (nI 0) (nI 1)) (va_cwS 3 S.2.2.2.2 gX8_may_X8_in rfl rfl rfl (by decide +kernel) ⟨Nat.le_of_ble_eq_true rfl, Nat.le_of_ble_eq_true rfl⟩) rfl rfl (Nat.le_of_ble_eq_true rfl) ⟨Nat.zero_le _, Nat.zero_le _⟩ dX8_may_3 (fun r1 hr1 => ?_)
  obtain ⟨hr1, hm1⟩ := hr1
  obtain ⟨⟨b2, hb2, rfl⟩, hx2, hz2⟩ := hr1
  have ta3 : (p1 : Int32).toInt = p1.toInt := rfl
  have ta4 : ((nI 0) : Int32).toInt = ((0 : Nat) : Int) := (nI_toInt (n := 0) (by decide))
  have ta5 : ((nI 1) : Int32).toInt = ((1 : Nat) : Int) := (nI_toInt (n := 1) (by decide))
  have hy2 : b2 ≠ 0 → ((0 : Nat) : Int) ≤ p1.toInt ∧ p1.toInt ≤ ((1 : Nat) : Int) := fun q => by have h9 := hx2 (nI_ne0 (by omega) (by omega)); omega
  have hu2 : b2 = 0 → p1.toInt < ((0 : Nat) : Int) ∨ ((1 : Nat) : Int) < p1.toInt := fun q => by have h9 := hz2 (by rw [q]; rfl); omega
  have m6 : (m_X8_in (AB ad F) p1 (nI 0) (nI 1)) = (nI b2) := (congr (congr (congr (Eq.refl (m_X8_in (AB ad F))) (Eq.refl (p1 : Int32))) (Eq.refl ((nI 0) : Int32))) (Eq.refl ((nI 1) : Int32))).trans hm1
  refine lv_if_ne (tgt := 12) S.1 S.2.1 dX8_may_6 (by decide) (fun c7 => ?_) (fun c7 => ?_)
  · skip
    have k8 := ci_ne (nI_toInt (n := b2) (Nat.lt_of_le_of_lt hb2 (by decide))) z_ti c7
    refine lv_aload_n S.1 S.2.1 dX8_may_12 rfl (lv_at hl0 0 rfl) ?_
    obtain ⟨ty10, kn10, no10, en10, at10, sa10, sd10, wr10, pl10, va10, hF10, hb10_1, hb10_2, hb10_3, hb10_4, hb10_5, hb10_6⟩ := wt_m hW
    refine r_cVp (As := []) (rest := []) S hK hZ hP hS hl0.1 58 (by decide) hF10 (C := RX8) rfl (c_X8_goesOn l D cA ad t hI F hW ) (cwV 0 S.2.2.2.2 gX8_may_X8_goesOn rfl rfl rfl (by decide +kernel) ⟨Nat.le_of_ble_eq_true rfl, Nat.le_of_ble_eq_true rfl⟩) rfl rfl (Nat.le_of_ble_eq_true rfl) ⟨Nat.zero_le _, Nat.zero_le _⟩ dX8_may_13 (fun r9 hr9 => ?_)
    obtain ⟨hr9, hm9⟩ := hr9
    obtain ⟨b11, hb11, rfl⟩ := hr9
    have m12 : (m_X8_goesOn (AB ad F)) = (nI b11) := (Eq.refl (m_X8_goesOn (AB ad F))).trans hm9
    refine lv_if_ne (tgt := 22) S.1 S.2.1 dX8_may_16 (by decide) (fun c13 => ?_) (fun c13 => ?_)
    · skip
      have k14 := ci_ne (nI_toInt (n := b11) (Nat.lt_of_le_of_lt hb11 (by decide))) z_ti c13
      refine lv_iload_n S.1 S.2.1 dX8_may_22 rfl (lv_at hl0 1 rfl) ?_
      refine lv_if_ne (tgt := 45) S.1 S.2.1 dX8_may_23 (by decide) (fun c15 => ?_) (fun c15 => ?_)
      · skip
        have k16 := ci_ne rfl z_ti c15
        refine lv_aload_n S.1 S.2.1 dX8_may_45 rfl (lv_at hl0 0 rfl) ?_
        refine r_cVp (As := []) (rest := []) S hK hZ hP hS hl0.1 58 (by decide) hF10 (C := RX8) rfl (c_X8_mayStay l D cA ad t hI F hW ) (cwV 0 S.2.2.2.2 gX8_may_X8_mayStay rfl rfl rfl (by decide +kernel) ⟨Nat.le_of_ble_eq_true rfl, Nat.le_of_ble_eq_true rfl⟩) rfl rfl (Nat.le_of_ble_eq_true rfl) ⟨Nat.zero_le _, Nat.zero_le _⟩ dX8_may_46 (fun r17 hr17 => ?_)
        obtain ⟨hr17, hm17⟩ := hr17
        obtain ⟨⟨b18, hb18, rfl⟩, hx18⟩ := hr17
        obtain ⟨g19, hF19, hg19⟩ := wt_I hW (show (62, 7) ∈ rLI by decide)
        obtain ⟨b20, hb20, he20⟩ := (pr_S (hg19 2 (by decide))).2.1 rfl
        have hN21 := aN_of (j := 2) hF19 he20 (by omega)
        obtain ⟨g22, hF22, hg22⟩ := wt_I hW (show (60, 52) ∈ rLI by decide)
        obtain ⟨b23, hb23, he23⟩ := (pr_T (by decide) (hg22 0 (by decide))).1 rfl
        have hN24 := aN_of (j := 0) hF22 he23 (by omega)
        have hy18 : b18 ≠ 0 → b20 < b23 := fun q => by have h9 := hx18 (nI_ne0 (by omega) (by omega)); omega
        have m25 : (m_X8_mayStay (AB ad F)) = (nI b18) := (Eq.refl (m_X8_mayStay (AB ad F))).trans hm17
        refine lv_if_eq (tgt := 56) S.1 S.2.1 dX8_may_49 (by decide) (fun c26 => ?_) (fun c26 => ?_)
        · skip
          have k27 := ci_eq (nI_toInt (n := b18) (Nat.lt_of_le_of_lt hb18 (by decide))) z_ti c26
          refine lv_iconst (v := (nI 0)) S.1 S.2.1 dX8_may_56 (by decide +kernel) ?_
          have hE28 : M = (nI 0) := hM.trans ((show m_X8_may (AB ad F) p1 = (nI 0) from by unfold m_X8_may; rw [if_neg (neq_cg m6 rfl c7), if_neg (neq_cg m12 rfl c13), if_neg (neq_cg rfl rfl c15), if_pos (eq_cg m25 rfl c26)]).trans rfl)
          exact hret 57 _ _ dX8_may_57 rfl (⟨trivial, hM.symm.trans hE28⟩)
        have k29 := ci_ne (nI_toInt (n := b18) (Nat.lt_of_le_of_lt hb18 (by decide))) z_ti c26
        refine lv_iconst (v := (nI 1)) S.1 S.2.1 dX8_may_52 (by decide +kernel) ?_
        refine lv_goto (tgt := 57) S.1 S.2.1 dX8_may_53 (by decide) ?_
        have hE30 : M = (nI 1) := hM.trans ((show m_X8_may (AB ad F) p1 = (nI 1) from by unfold m_X8_may; rw [if_neg (neq_cg m6 rfl c7), if_neg (neq_cg m12 rfl c13), if_neg (neq_cg rfl rfl c15), if_neg (neq_cg m25 rfl c26)]).trans rfl)
        exact hret 57 _ _ dX8_may_57 rfl (⟨trivial, hM.symm.trans hE30⟩)
      have k31 := ci_eq rfl z_ti c15
      refine lv_aload_n S.1 S.2.1 dX8_may_26 rfl (lv_at hl0 0 rfl) ?_
      refine lv_aload_n S.1 S.2.1 dX8_may_27 rfl (lv_at hl0 0 rfl) ?_
      refine r_get S hK hP 58 (by decide) hF10 (C := RX8) (T := TX8) (N := 23) hiX8 rfl 4 (by decide) (am_at in_wsX8_may_0 2 rfl) (v := .ref (ad 62)) rfl dX8_may_28 ?_
      refine lv_iconst (v := (nI 0)) S.1 S.2.1 dX8_may_31 (by decide +kernel) ?_
      obtain ⟨g32, hF32, hg32⟩ := wt_I hW (show (62, 7) ∈ rLI by decide)
      refine r_iald S hK hP 62 (by decide) hF32 (vp_in_nI (show 0 < 7 by omega) (by omega)) dX8_may_32 ?_
      refine lv_topi (fun v34 e34 => ?_)
      obtain ⟨b35, hb35, he35⟩ := (pr_S (hg32 0 (by decide))).1 rfl
      obtain rfl : v34 = nI b35 := e34.trans he35
      have m36 : ((AB ad F) 62 (rl (nI 0))) = (nI b35) := (ab_cg rfl rfl).trans ((AB_g hF32).trans e34.symm)
      refine lv_aload_n S.1 S.2.1 dX8_may_33 rfl (lv_at hl0 0 rfl) ?_
      refine r_get S hK hP 58 (by decide) hF10 (C := RX8) (T := TX8) (N := 23) hiX8 rfl 4 (by decide) (am_at in_wsX8_may_0 2 rfl) (v := .ref (ad 62)) rfl dX8_may_34 ?_
      refine lv_iconst (v := (nI 5)) S.1 S.2.1 dX8_may_37 (by decide +kernel) ?_
      refine r_iald S hK hP 62 (by decide) hF32 (vp_in_nI (show 5 < 7 by omega) (by omega)) dX8_may_38 ?_
      refine lv_topi (fun v38 e38 => ?_)
      have m39 : ((AB ad F) 62 (rl (nI 5))) = v38 := (ab_cg rfl rfl).trans ((AB_g hF32).trans e38.symm)
      refine r_cVp (As := [.int (nI b35), .int v38]) (rest := []) S hK hZ hP hS hl0.1 58 (by decide) hF10 (C := RX8) rfl (c_X8_walks l D cA ad t hI F hW (nI b35) v38) (cwV 2 S.2.2.2.2 gX8_may_X8_walks rfl rfl rfl (by decide +kernel) ⟨Nat.le_of_ble_eq_true rfl, Nat.le_of_ble_eq_true rfl⟩) rfl rfl (Nat.le_of_ble_eq_true rfl) ⟨Nat.zero_le _, Nat.zero_le _⟩ dX8_may_39 (fun r40 hr40 => ?_)
      obtain ⟨hr40, hm40⟩ := hr40
      have m41 : (m_X8_walks (AB ad F) ((AB ad F) 62 (rl (nI 0))) ((AB ad F) 62 (rl (nI 5)))) = r40 := (congr (congr (Eq.refl (m_X8_walks (AB ad F))) m36) m39).trans hm40
      refine lv_goto (tgt := 57) S.1 S.2.1 dX8_may_42 (by decide) ?_
      have hE42 : M = r40 := hM.trans ((show m_X8_may (AB ad F) p1 = (m_X8_walks (AB ad F) ((AB ad F) 62 (rl (nI 0))) ((AB ad F) 62 (rl (nI 5)))) from by unfold m_X8_may; rw [if_neg (neq_cg m6 rfl c7), if_neg (neq_cg m12 rfl c13), if_pos (eq_cg rfl rfl c15)]).trans m41)
      exact hret 57 _ _ dX8_may_57 rfl (⟨trivial, hM.symm.trans hE42⟩)
    have k43 := ci_eq (nI_toInt (n := b11) (Nat.lt_of_le_of_lt hb11 (by decide))) z_ti c13
    refine lv_ldc (v := (-1000000003)) S.1 S.2.1 S.2.2.2.1 (S.2.2.2.2 (.constant RX8 139 (-1000000003)) (am_at in_wsX8_may_0 1 rfl)) dX8_may_19 ?_
    have hE44 : M = (-1000000003) := hM.trans ((show m_X8_may (AB ad F) p1 = ((-1000000003) : Int32) from by unfold m_X8_may; rw [if_neg (neq_cg m6 rfl c7), if_pos (eq_cg m12 rfl c13)]).trans rfl)
    exact hret 21 _ _ dX8_may_21 rfl (⟨trivial, hM.symm.trans hE44⟩)
  have k45 := ci_eq (nI_toInt (n := b2) (Nat.lt_of_le_of_lt hb2 (by decide))) z_ti c7
  refine lv_ldc (v := (-1000000002)) S.1 S.2.1 S.2.2.2.1 (S.2.2.2.2 (.constant RX8 59 (-1000000002)) (am_at in_wsX8_may_0 0 rfl)) dX8_may_9 ?_
  have hE46 : M = (-1000000002) := hM.trans ((show m_X8_may (AB ad F) p1 = ((-1000000002) : Int32) from by unfold m_X8_may; rw [if_pos (eq_cg m6 rfl c7)]).trans rfl)
  exact hret 11 _ _ dX8_may_11 rfl (⟨trivial, hM.symm.trans hE46⟩)
noncomputable def m_X8_reach_L55_35_b (k0 : SS → Int32 → Int32 → Int32 → Int32) (k1 : SS → Int32 → Int32 → Int32 → Int32 → Int32 → Int32) (σ : SS) (a0 : Int32) (a1 : Int32) (a2 : Int32) (a3 : Int32) (a4 : Int32) : Int32 :=
  if (σ 60 (rl (nI 2))) ≤ a0 then
    k0 σ (a2 + Int32.ofInt (1)) a1 a4
  else
    if ((a3 >>> (a0 &&& 31)) &&& (nI 1)) = (nI 1) then
      k1 σ (a0 + Int32.ofInt (1)) (a1 ||| (m_X8_walks σ a0 (σ 62 (rl (nI 5))))) a2 a3 a4
    else
      k1 σ (a0 + Int32.ofInt (1)) (a1 ||| (nI 0)) a2 a3 a4
noncomputable def m_X8_reach_L55_35 (k0 : SS → Int32 → Int32 → Int32 → Int32) : Nat → SS → Int32 → Int32 → Int32 → Int32 → Int32 → Int32
  | 0 => fun σ _ _ _ _ _ => 0
  | n + 1 => m_X8_reach_L55_35_b k0 (m_X8_reach_L55_35 k0 n)
noncomputable def m_X8_reach_L32_21_b (k0 : SS → Int32 → Int32 → Int32 → Int32) (σ : SS) (a0 : Int32) (a1 : Int32) (a2 : Int32) : Int32 :=
  if (nI 8) < a0 then
    ((-1) : Int32)
  else
    if ((a1 >>> (a2 &&& 31)) &&& (nI 1)) = (nI 1) then
      a0
    else
      m_X8_reach_L55_35 k0 2000 σ (nI 0) a1 a0 a1 a2
noncomputable def m_X8_reach_L32_21 : Nat → SS → Int32 → Int32 → Int32 → Int32
  | 0 => fun σ _ _ _ => 0
  | n + 1 => m_X8_reach_L32_21_b (m_X8_reach_L32_21 n)
noncomputable def m_X8_reach (σ : SS) (a0 : Int32) : Int32 :=
  if (m_X8_isTown σ a0) = (0 : Int32) then
    ((-1000000001) : Int32)
  else
    if (m_X8_goesOn σ) = (0 : Int32) then
      ((-1000000003) : Int32)
    else
      m_X8_reach_L32_21 2000 σ (nI 0) ((nI 1) <<< ((σ 62 (rl (nI 0))) &&& 31)) a0
set_option maxHeartbeats 4000000 in
set_option maxRecDepth 100000 in
theorem c_X8_reach (l : Launch) (D : va_G) (cA ad : Nat → Nat) (t : Nat) (hI : rI ad) (F : Nat → va_E) (hW : WT cA ad F) (p1 : Int32) : MP l D cA ad t yX8_reach wsX8_reach { frames := 2, cells := 0, slots := 0, locals := 48 } [.ref (ad 58), .int p1] F (fun r => (True) ∧ m_X8_reach (AB ad F) p1 = r) := by
  refine en_P rfl (by decide +kernel) (Nat.le_of_ble_eq_true rfl) ?_
  intro p e s m args below meth c ls0 Q S hK hZ hP hS hl0 hret
  have hl0 : lv_has ls0 6 [(0, .ref (ad 58)), (1, .int p1)] := hl0
  have hiX8 : ∀ w ∈ u_ws RX8 TX8 23, w ∈ wsX8_reach := in_wsX8_reach_2
  obtain ⟨M, hM⟩ : ∃ M, M = m_X8_reach (AB ad F) p1 := ⟨_, rfl⟩
  refine lv_aload_n S.1 S.2.1 dX8_reach_0 rfl (lv_at hl0 0 rfl) ?_
  refine lv_iload_n S.1 S.2.1 dX8_reach_1 rfl (lv_at hl0 1 rfl) ?_
  obtain ⟨ty2, kn2, no2, en2, at2, sa2, sd2, wr2, pl2, va2, hF2, hb2_1, hb2_2, hb2_3, hb2_4, hb2_5, hb2_6⟩ := wt_m hW
  refine r_cVp (As := [.int p1]) (rest := []) S hK hZ hP hS hl0.1 58 (by decide) hF2 (C := RX8) rfl (c_X8_isTown l D cA ad t hI F hW p1) (cwV 1 S.2.2.2.2 gX8_reach_X8_isTown rfl rfl rfl (by decide +kernel) ⟨Nat.le_of_ble_eq_true rfl, Nat.le_of_ble_eq_true rfl⟩) rfl rfl (Nat.le_of_ble_eq_true rfl) ⟨Nat.zero_le _, Nat.zero_le _⟩ dX8_reach_2 (fun r1 hr1 => ?_)
  obtain ⟨hr1, hm1⟩ := hr1
  obtain ⟨⟨b3, hb3, rfl⟩, hx3⟩ := hr1
  have hx3 : b3 ≠ 0 → 0 ≤ p1.toInt ∧ p1.toInt ≤ _ := fun q => hx3 (nI_ne0 (by omega) (by omega))
  have m4 : (m_X8_isTown (AB ad F) p1) = (nI b3) := (congr (Eq.refl (m_X8_isTown (AB ad F))) (Eq.refl (p1 : Int32))).trans hm1
  refine lv_if_ne (tgt := 11) S.1 S.2.1 dX8_reach_5 (by decide) (fun c5 => ?_) (fun c5 => ?_)
  · skip
    have k6 := ci_ne (nI_toInt (n := b3) (Nat.lt_of_le_of_lt hb3 (by decide))) z_ti c5
    refine lv_aload_n S.1 S.2.1 dX8_reach_11 rfl (lv_at hl0 0 rfl) ?_
    refine r_cVp (As := []) (rest := []) S hK hZ hP hS hl0.1 58 (by decide) hF2 (C := RX8) rfl (c_X8_goesOn l D cA ad t hI F hW ) (cwV 0 S.2.2.2.2 gX8_reach_X8_goesOn rfl rfl rfl (by decide +kernel) ⟨Nat.le_of_ble_eq_true rfl, Nat.le_of_ble_eq_true rfl⟩) rfl rfl (Nat.le_of_ble_eq_true rfl) ⟨Nat.zero_le _, Nat.zero_le _⟩ dX8_reach_12 (fun r7 hr7 => ?_)
    obtain ⟨hr7, hm7⟩ := hr7
    obtain ⟨b8, hb8, rfl⟩ := hr7
    have m9 : (m_X8_goesOn (AB ad F)) = (nI b8) := (Eq.refl (m_X8_goesOn (AB ad F))).trans hm7
    refine lv_if_ne (tgt := 21) S.1 S.2.1 dX8_reach_15 (by decide) (fun c10 => ?_) (fun c10 => ?_)
    · skip
      have k11 := ci_ne (nI_toInt (n := b8) (Nat.lt_of_le_of_lt hb8 (by decide))) z_ti c10
      refine lv_iconst (v := (nI 1)) S.1 S.2.1 dX8_reach_21 (by decide +kernel) ?_
      refine lv_aload_n S.1 S.2.1 dX8_reach_22 rfl (lv_at hl0 0 rfl) ?_
      refine r_get S hK hP 58 (by decide) hF2 (C := RX8) (T := TX8) (N := 23) hiX8 rfl 4 (by decide) (am_at in_wsX8_reach_0 2 rfl) (v := .ref (ad 62)) rfl dX8_reach_23 ?_
      refine lv_iconst (v := (nI 0)) S.1 S.2.1 dX8_reach_26 (by decide +kernel) ?_
      obtain ⟨g12, hF12, hg12⟩ := wt_I hW (show (62, 7) ∈ rLI by decide)
      refine r_iald S hK hP 62 (by decide) hF12 (vp_in_nI (show 0 < 7 by omega) (by omega)) dX8_reach_27 ?_
      refine lv_topi (fun v14 e14 => ?_)
      obtain ⟨b15, hb15, he15⟩ := (pr_S (hg12 0 (by decide))).1 rfl
      obtain rfl : v14 = nI b15 := e14.trans he15
      have m16 : ((AB ad F) 62 (rl (nI 0))) = (nI b15) := (ab_cg rfl rfl).trans ((AB_g hF12).trans e14.symm)
      refine lv_ishl S.1 S.2.1 dX8_reach_28 ?_
      refine lv_topi (fun v17 e17 => ?_)
      have m18 : ((nI 1) <<< (((AB ad F) 62 (rl (nI 0))) &&& 31)) = v17 := cg2 (fun (x : Int32) (y : Int32) => x <<< (y &&& 31)) (Eq.refl ((nI 1) : Int32)) m16 e17
      refine lv_istore_n (lv' := [(2, .int v17), (0, .ref (ad 58)), (1, .int p1)]) S.1 S.2.1 dX8_reach_29 rfl hl0 (by decide) rfl (fun ls19 hl19 => ?_)
      refine lv_iconst (v := (nI 0)) S.1 S.2.1 dX8_reach_30 (by decide +kernel) ?_
      refine lv_istore_n (lv' := [(3, .int (nI 0)), (2, .int v17), (0, .ref (ad 58)), (1, .int p1)]) S.1 S.2.1 dX8_reach_31 rfl hl19 (by decide) rfl (fun ls20 hl20 => ?_)
      have lp21 : ∀ (n21 : Nat) (q321 : Nat) (x21_2 : Int32), q321 ≤ 9 → 9 - q321 < n21 → M = m_X8_reach_L32_21 n21 (AB ad F) (nI q321) x21_2 p1 → ∀ (ls : Array Slot), lv_has ls 6 [(3, .int (nI q321)), (2, .int x21_2), (0, .ref (ad 58)), (1, .int p1)] → W p l e { frames := 2, cells := 0, slots := 0, locals := 48 } s m args below meth c s.heap [] 0 0 Q (F0 m 32 ls []) := by
        intro n21
        induction n21 with
        | zero =>
          intro q321 x21_2 iv21_0 hm21 hEl21 ls21 hl21
          exact absurd hm21 (Nat.not_lt_zero _)
        | succ n21 ih21 =>
          intro q321 x21_2 iv21_0 hm21 hEl21 ls21 hl21
          have hE22 : M = m_X8_reach_L32_21_b (m_X8_reach_L32_21 n21) (AB ad F) (nI q321) x21_2 p1 := hEl21
          refine lv_iload_n S.1 S.2.1 dX8_reach_32 rfl (lv_at hl21 0 rfl) ?_
          refine lv_bipush (v := (nI 8)) S.1 S.2.1 dX8_reach_33 (by decide +kernel) ?_
          refine lv_icmp_gt (tgt := 112) S.1 S.2.1 dX8_reach_35 (by decide) (fun c23 => ?_) (fun c23 => ?_)
          · skip
            have k24 := ci_lt (nI_toInt (n := 8) (by decide)) (nI_toInt (n := q321) (by omega)) c23
            refine lv_iconst (v := (-1)) S.1 S.2.1 dX8_reach_112 (by decide +kernel) ?_
            have hE25 : M = (-1) := hE22.trans ((show m_X8_reach_L32_21_b (m_X8_reach_L32_21 n21) (AB ad F) (nI q321) x21_2 p1 = ((-1) : Int32) from by unfold m_X8_reach_L32_21_b; rw [if_pos (lt_cg rfl rfl c23)]).trans rfl)
            exact hret 113 _ _ dX8_reach_113 rfl (⟨trivial, hM.symm.trans hE25⟩)
          have k26 := ci_nlt (nI_toInt (n := 8) (by decide)) (nI_toInt (n := q321) (by omega)) c23
          refine lv_iload_n S.1 S.2.1 dX8_reach_38 rfl (lv_at hl21 1 rfl) ?_
          refine lv_iload_n S.1 S.2.1 dX8_reach_39 rfl (lv_at hl21 3 rfl) ?_
          refine lv_ishr S.1 S.2.1 dX8_reach_40 ?_
          refine lv_topi (fun v27 e27 => ?_)
          have m28 : (x21_2 >>> (p1 &&& 31)) = v27 := cg2 (fun (x : Int32) (y : Int32) => x >>> (y &&& 31)) (Eq.refl (x21_2 : Int32)) (Eq.refl (p1 : Int32)) e27
          refine lv_iconst (v := (nI 1)) S.1 S.2.1 dX8_reach_41 (by decide +kernel) ?_
          refine lv_iand S.1 S.2.1 dX8_reach_42 ?_
          refine lv_topi (fun v29 e29 => ?_)
          have m30 : ((x21_2 >>> (p1 &&& 31)) &&& (nI 1)) = v29 := cg2 (fun (x : Int32) (y : Int32) => x &&& y) m28 (Eq.refl ((nI 1) : Int32)) e29
          refine lv_iconst (v := (nI 1)) S.1 S.2.1 dX8_reach_43 (by decide +kernel) ?_
          refine lv_icmp_ne (tgt := 49) S.1 S.2.1 dX8_reach_44 (by decide) (fun c31 => ?_) (fun c31 => ?_)
          · skip
            have k32 := ci_ne rfl (nI_toInt (n := 1) (by decide)) c31
            refine lv_iload_n S.1 S.2.1 dX8_reach_49 rfl (lv_at hl21 1 rfl) ?_
            refine lv_istore (lv' := [(4, .int x21_2), (3, .int (nI q321)), (2, .int x21_2), (0, .ref (ad 58)), (1, .int p1)]) S.1 S.2.1 dX8_reach_50 hl21 (by decide) rfl (fun ls33 hl33 => ?_)
            refine lv_iconst (v := (nI 0)) S.1 S.2.1 dX8_reach_52 (by decide +kernel) ?_
            refine lv_istore (lv' := [(5, .int (nI 0)), (4, .int x21_2), (3, .int (nI q321)), (2, .int x21_2), (0, .ref (ad 58)), (1, .int p1)]) S.1 S.2.1 dX8_reach_53 hl33 (by decide) rfl (fun ls34 hl34 => ?_)
            have lp35 : ∀ (n35 : Nat) (q535 : Nat) (x35_4 : Int32), q535 ≤ 8 → 8 - q535 < n35 → M = m_X8_reach_L55_35 (m_X8_reach_L32_21 n21) n35 (AB ad F) (nI q535) x35_4 (nI q321) x21_2 p1 → ∀ (ls : Array Slot), lv_has ls 6 [(5, .int (nI q535)), (4, .int x35_4), (3, .int (nI q321)), (2, .int x21_2), (0, .ref (ad 58)), (1, .int p1)] → W p l e { frames := 2, cells := 0, slots := 0, locals := 48 } s m args below meth c s.heap [] 0 0 Q (F0 m 55 ls []) := by
              intro n35
              induction n35 with
              | zero =>
                intro q535 x35_4 iv35_0 hm35 hEl35 ls35 hl35
                exact absurd hm35 (Nat.not_lt_zero _)
              | succ n35 ih35 =>
                intro q535 x35_4 iv35_0 hm35 hEl35 ls35 hl35
                have hE36 : M = m_X8_reach_L55_35_b (m_X8_reach_L32_21 n21) (m_X8_reach_L55_35 (m_X8_reach_L32_21 n21) n35) (AB ad F) (nI q535) x35_4 (nI q321) x21_2 p1 := hEl35
                refine lv_iload S.1 S.2.1 dX8_reach_55 (lv_at hl35 0 rfl) ?_
                refine lv_aload_n S.1 S.2.1 dX8_reach_57 rfl (lv_at hl35 4 rfl) ?_
                refine r_get S hK hP 58 (by decide) hF2 (C := RX8) (T := TX8) (N := 23) hiX8 rfl 2 (by decide) (am_at in_wsX8_reach_0 3 rfl) (v := .ref (ad 60)) rfl dX8_reach_58 ?_
                refine lv_iconst (v := (nI 2)) S.1 S.2.1 dX8_reach_61 (by decide +kernel) ?_
                obtain ⟨g37, hF37, hg37⟩ := wt_I hW (show (60, 52) ∈ rLI by decide)
                refine r_iald S hK hP 60 (by decide) hF37 (vp_in_nI (show 2 < 52 by omega) (by omega)) dX8_reach_62 ?_
                refine lv_topi (fun v39 e39 => ?_)
                obtain ⟨b40, hb40, he40⟩ := (pr_T (by decide) (hg37 2 (by decide))).2.1 rfl
                obtain rfl : v39 = nI b40 := e39.trans he40
                have m41 : ((AB ad F) 60 (rl (nI 2))) = (nI b40) := (ab_cg rfl rfl).trans ((AB_g hF37).trans e39.symm)
                refine lv_icmp_ge (tgt := 103) S.1 S.2.1 dX8_reach_63 (by decide) (fun c42 => ?_) (fun c42 => ?_)
                · skip
                  have k43 := ci_le (nI_toInt (n := b40) (Nat.lt_of_le_of_lt hb40 (by decide))) (nI_toInt (n := q535) (by omega)) c42
                  refine lv_iload S.1 S.2.1 dX8_reach_103 (lv_at hl35 1 rfl) ?_
                  refine lv_istore_n (lv' := [(2, .int x35_4), (5, .int (nI q535)), (4, .int x35_4), (3, .int (nI q321)), (0, .ref (ad 58)), (1, .int p1)]) S.1 S.2.1 dX8_reach_105 rfl hl35 (by decide) rfl (fun ls44 hl44 => ?_)
                  have m46 : ((nI q321) + Int32.ofInt (1)) = (nI (q321 + 1)) := (congrArg (fun q : Int32 => q + Int32.ofInt (1)) rfl).trans (nI_add _ 1)
                  refine lv_iinc (v := (nI (q321 + 1))) (lv' := [(3, .int (nI (q321 + 1))), (2, .int x35_4), (5, .int (nI q535)), (4, .int x35_4), (0, .ref (ad 58)), (1, .int p1)]) S.1 S.2.1 dX8_reach_106 hl44 (k := 3) rfl (nI_add _ 1) (by decide) rfl (fun ls45 hl45 => ?_)
                  refine lv_goto (tgt := 32) S.1 S.2.1 dX8_reach_109 (by decide) ?_
                  have hE47 : M = (m_X8_reach_L32_21 n21) (AB ad F) (nI (q321 + 1)) x35_4 p1 := hE36.trans ((show m_X8_reach_L55_35_b (m_X8_reach_L32_21 n21) (m_X8_reach_L55_35 (m_X8_reach_L32_21 n21) n35) (AB ad F) (nI q535) x35_4 (nI q321) x21_2 p1 = (m_X8_reach_L32_21 n21) (AB ad F) ((nI q321) + Int32.ofInt (1)) x35_4 p1 from by unfold m_X8_reach_L55_35_b; rw [if_pos (le_cg m41 rfl c42)]).trans (congr (congr (congr (congrArg ((m_X8_reach_L32_21 n21)) (rfl : AB ad F = AB ad F)) m46) (Eq.refl (x35_4 : Int32))) (Eq.refl (p1 : Int32))))
                  exact ih21 (q321 + 1) (x35_4) (by omega) (by omega) hE47 ls45 (lv_sub hl45 [0, 1, 4, 5] rfl)
                have k48 := ci_nle (nI_toInt (n := b40) (Nat.lt_of_le_of_lt hb40 (by decide))) (nI_toInt (n := q535) (by omega)) c42
                refine lv_iload S.1 S.2.1 dX8_reach_66 (lv_at hl35 1 rfl) ?_
                refine lv_iload_n S.1 S.2.1 dX8_reach_68 rfl (lv_at hl35 3 rfl) ?_
                refine lv_iload S.1 S.2.1 dX8_reach_69 (lv_at hl35 0 rfl) ?_
                refine lv_ishr S.1 S.2.1 dX8_reach_71 ?_
                refine lv_topi (fun v49 e49 => ?_)
                have m50 : (x21_2 >>> ((nI q535) &&& 31)) = v49 := cg2 (fun (x : Int32) (y : Int32) => x >>> (y &&& 31)) (Eq.refl (x21_2 : Int32)) (Eq.refl ((nI q535) : Int32)) e49
                refine lv_iconst (v := (nI 1)) S.1 S.2.1 dX8_reach_72 (by decide +kernel) ?_
                refine lv_iand S.1 S.2.1 dX8_reach_73 ?_
                refine lv_topi (fun v51 e51 => ?_)
                have m52 : ((x21_2 >>> ((nI q535) &&& 31)) &&& (nI 1)) = v51 := cg2 (fun (x : Int32) (y : Int32) => x &&& y) m50 (Eq.refl ((nI 1) : Int32)) e51
                refine lv_iconst (v := (nI 1)) S.1 S.2.1 dX8_reach_74 (by decide +kernel) ?_
                refine lv_icmp_ne (tgt := 93) S.1 S.2.1 dX8_reach_75 (by decide) (fun c53 => ?_) (fun c53 => ?_)
                · skip
                  have k54 := ci_ne rfl (nI_toInt (n := 1) (by decide)) c53
                  refine lv_iconst (v := (nI 0)) S.1 S.2.1 dX8_reach_93 (by decide +kernel) ?_
                  refine lv_ior S.1 S.2.1 dX8_reach_94 ?_
                  refine lv_topi (fun v55 e55 => ?_)
                  have m56 : (x35_4 ||| (nI 0)) = v55 := cg2 (fun (x : Int32) (y : Int32) => x ||| y) (Eq.refl (x35_4 : Int32)) (Eq.refl ((nI 0) : Int32)) e55
                  refine lv_istore (lv' := [(4, .int v55), (5, .int (nI q535)), (3, .int (nI q321)), (2, .int x21_2), (0, .ref (ad 58)), (1, .int p1)]) S.1 S.2.1 dX8_reach_95 hl35 (by decide) rfl (fun ls57 hl57 => ?_)
                  have m59 : ((nI q535) + Int32.ofInt (1)) = (nI (q535 + 1)) := (congrArg (fun q : Int32 => q + Int32.ofInt (1)) rfl).trans (nI_add _ 1)
                  refine lv_iinc (v := (nI (q535 + 1))) (lv' := [(5, .int (nI (q535 + 1))), (4, .int v55), (3, .int (nI q321)), (2, .int x21_2), (0, .ref (ad 58)), (1, .int p1)]) S.1 S.2.1 dX8_reach_97 hl57 (k := 1) rfl (nI_add _ 1) (by decide) rfl (fun ls58 hl58 => ?_)
                  refine lv_goto (tgt := 55) S.1 S.2.1 dX8_reach_100 (by decide) ?_
                  have hE60 : M = (m_X8_reach_L55_35 (m_X8_reach_L32_21 n21) n35) (AB ad F) (nI (q535 + 1)) v55 (nI q321) x21_2 p1 := hE36.trans ((show m_X8_reach_L55_35_b (m_X8_reach_L32_21 n21) (m_X8_reach_L55_35 (m_X8_reach_L32_21 n21) n35) (AB ad F) (nI q535) x35_4 (nI q321) x21_2 p1 = (m_X8_reach_L55_35 (m_X8_reach_L32_21 n21) n35) (AB ad F) ((nI q535) + Int32.ofInt (1)) (x35_4 ||| (nI 0)) (nI q321) x21_2 p1 from by unfold m_X8_reach_L55_35_b; rw [if_neg (nle_cg m41 rfl c42), if_neg (neq_cg m52 rfl c53)]).trans (congr (congr (congr (congr (congr (congrArg ((m_X8_reach_L55_35 (m_X8_reach_L32_21 n21) n35)) (rfl : AB ad F = AB ad F)) m59) m56) (Eq.refl ((nI q321) : Int32))) (Eq.refl (x21_2 : Int32))) (Eq.refl (p1 : Int32))))
                  exact ih35 (q535 + 1) (v55) (by omega) (by omega) hE60 ls58 (lv_sub hl58 [0, 1, 2, 3, 4, 5] rfl)
                have k61 := ci_eq rfl (nI_toInt (n := 1) (by decide)) c53
                refine lv_aload_n S.1 S.2.1 dX8_reach_78 rfl (lv_at hl35 4 rfl) ?_
                refine lv_iload S.1 S.2.1 dX8_reach_79 (lv_at hl35 0 rfl) ?_
                refine lv_aload_n S.1 S.2.1 dX8_reach_81 rfl (lv_at hl35 4 rfl) ?_
                refine r_get S hK hP 58 (by decide) hF2 (C := RX8) (T := TX8) (N := 23) hiX8 rfl 4 (by decide) (am_at in_wsX8_reach_0 2 rfl) (v := .ref (ad 62)) rfl dX8_reach_82 ?_
                refine lv_iconst (v := (nI 5)) S.1 S.2.1 dX8_reach_85 (by decide +kernel) ?_
                refine r_iald S hK hP 62 (by decide) hF12 (vp_in_nI (show 5 < 7 by omega) (by omega)) dX8_reach_86 ?_
                refine lv_topi (fun v63 e63 => ?_)
                have m64 : ((AB ad F) 62 (rl (nI 5))) = v63 := (ab_cg rfl rfl).trans ((AB_g hF12).trans e63.symm)
                refine r_cVp (As := [.int (nI q535), .int v63]) (rest := [.int x35_4]) S hK hZ hP hS hl35.1 58 (by decide) hF2 (C := RX8) rfl (c_X8_walks l D cA ad t hI F hW (nI q535) v63) (cwV 2 S.2.2.2.2 gX8_reach_X8_walks rfl rfl rfl (by decide +kernel) ⟨Nat.le_of_ble_eq_true rfl, Nat.le_of_ble_eq_true rfl⟩) rfl rfl (Nat.le_of_ble_eq_true rfl) ⟨Nat.zero_le _, Nat.zero_le _⟩ dX8_reach_87 (fun r65 hr65 => ?_)
                obtain ⟨hr65, hm65⟩ := hr65
                have m66 : (m_X8_walks (AB ad F) (nI q535) ((AB ad F) 62 (rl (nI 5)))) = r65 := (congr (congr (Eq.refl (m_X8_walks (AB ad F))) (Eq.refl ((nI q535) : Int32))) m64).trans hm65
                refine lv_goto (tgt := 94) S.1 S.2.1 dX8_reach_90 (by decide) ?_
                refine lv_ior S.1 S.2.1 dX8_reach_94 ?_
                refine lv_topi (fun v67 e67 => ?_)
                have m68 : (x35_4 ||| (m_X8_walks (AB ad F) (nI q535) ((AB ad F) 62 (rl (nI 5))))) = v67 := cg2 (fun (x : Int32) (y : Int32) => x ||| y) (Eq.refl (x35_4 : Int32)) m66 e67
                refine lv_istore (lv' := [(4, .int v67), (5, .int (nI q535)), (3, .int (nI q321)), (2, .int x21_2), (0, .ref (ad 58)), (1, .int p1)]) S.1 S.2.1 dX8_reach_95 hl35 (by decide) rfl (fun ls69 hl69 => ?_)
                have m71 : ((nI q535) + Int32.ofInt (1)) = (nI (q535 + 1)) := (congrArg (fun q : Int32 => q + Int32.ofInt (1)) rfl).trans (nI_add _ 1)
                refine lv_iinc (v := (nI (q535 + 1))) (lv' := [(5, .int (nI (q535 + 1))), (4, .int v67), (3, .int (nI q321)), (2, .int x21_2), (0, .ref (ad 58)), (1, .int p1)]) S.1 S.2.1 dX8_reach_97 hl69 (k := 1) rfl (nI_add _ 1) (by decide) rfl (fun ls70 hl70 => ?_)
                refine lv_goto (tgt := 55) S.1 S.2.1 dX8_reach_100 (by decide) ?_
                have hE72 : M = (m_X8_reach_L55_35 (m_X8_reach_L32_21 n21) n35) (AB ad F) (nI (q535 + 1)) v67 (nI q321) x21_2 p1 := hE36.trans ((show m_X8_reach_L55_35_b (m_X8_reach_L32_21 n21) (m_X8_reach_L55_35 (m_X8_reach_L32_21 n21) n35) (AB ad F) (nI q535) x35_4 (nI q321) x21_2 p1 = (m_X8_reach_L55_35 (m_X8_reach_L32_21 n21) n35) (AB ad F) ((nI q535) + Int32.ofInt (1)) (x35_4 ||| (m_X8_walks (AB ad F) (nI q535) ((AB ad F) 62 (rl (nI 5))))) (nI q321) x21_2 p1 from by unfold m_X8_reach_L55_35_b; rw [if_neg (nle_cg m41 rfl c42), if_pos (eq_cg m52 rfl c53)]).trans (congr (congr (congr (congr (congr (congrArg ((m_X8_reach_L55_35 (m_X8_reach_L32_21 n21) n35)) (rfl : AB ad F = AB ad F)) m71) m68) (Eq.refl ((nI q321) : Int32))) (Eq.refl (x21_2 : Int32))) (Eq.refl (p1 : Int32))))
                exact ih35 (q535 + 1) (v67) (by omega) (by omega) hE72 ls70 (lv_sub hl70 [0, 1, 2, 3, 4, 5] rfl)
            have hE73 : M = m_X8_reach_L55_35 (m_X8_reach_L32_21 n21) 2000 (AB ad F) (nI 0) x21_2 (nI q321) x21_2 p1 := hE22.trans ((show m_X8_reach_L32_21_b (m_X8_reach_L32_21 n21) (AB ad F) (nI q321) x21_2 p1 = m_X8_reach_L55_35 (m_X8_reach_L32_21 n21) 2000 (AB ad F) (nI 0) x21_2 (nI q321) x21_2 p1 from by unfold m_X8_reach_L32_21_b; rw [if_neg (nlt_cg rfl rfl c23), if_neg (neq_cg m30 rfl c31)]).trans (congr (congr (congr (congr (congr (congrArg (m_X8_reach_L55_35 (m_X8_reach_L32_21 n21) 2000) (rfl : AB ad F = AB ad F)) (Eq.refl ((nI 0) : Int32))) (Eq.refl (x21_2 : Int32))) (Eq.refl ((nI q321) : Int32))) (Eq.refl (x21_2 : Int32))) (Eq.refl (p1 : Int32))))
            exact lp35 2000 (0) (x21_2) (by omega) (by omega) hE73 ls34 (lv_sub hl34 [0, 1, 2, 3, 4, 5] rfl)
          have k74 := ci_eq rfl (nI_toInt (n := 1) (by decide)) c31
          refine lv_iload_n S.1 S.2.1 dX8_reach_47 rfl (lv_at hl21 0 rfl) ?_
          have hE75 : M = (nI q321) := hE22.trans ((show m_X8_reach_L32_21_b (m_X8_reach_L32_21 n21) (AB ad F) (nI q321) x21_2 p1 = (nI q321) from by unfold m_X8_reach_L32_21_b; rw [if_neg (nlt_cg rfl rfl c23), if_pos (eq_cg m30 rfl c31)]).trans rfl)
          exact hret 48 _ _ dX8_reach_48 rfl (⟨trivial, hM.symm.trans hE75⟩)
      have hE76 : M = m_X8_reach_L32_21 2000 (AB ad F) (nI 0) v17 p1 := hM.trans ((show m_X8_reach (AB ad F) p1 = m_X8_reach_L32_21 2000 (AB ad F) (nI 0) ((nI 1) <<< (((AB ad F) 62 (rl (nI 0))) &&& 31)) p1 from by unfold m_X8_reach; rw [if_neg (neq_cg m4 rfl c5), if_neg (neq_cg m9 rfl c10)]).trans (congr (congr (congr (congrArg (m_X8_reach_L32_21 2000) (rfl : AB ad F = AB ad F)) (Eq.refl ((nI 0) : Int32))) m18) (Eq.refl (p1 : Int32))))
      exact lp21 2000 (0) (v17) (by omega) (by omega) hE76 ls20 (lv_sub hl20 [0, 1, 2, 3] rfl)
    have k77 := ci_eq (nI_toInt (n := b8) (Nat.lt_of_le_of_lt hb8 (by decide))) z_ti c10
    refine lv_ldc (v := (-1000000003)) S.1 S.2.1 S.2.2.2.1 (S.2.2.2.2 (.constant RX8 139 (-1000000003)) (am_at in_wsX8_reach_0 1 rfl)) dX8_reach_18 ?_
    have hE78 : M = (-1000000003) := hM.trans ((show m_X8_reach (AB ad F) p1 = ((-1000000003) : Int32) from by unfold m_X8_reach; rw [if_neg (neq_cg m4 rfl c5), if_pos (eq_cg m9 rfl c10)]).trans rfl)
    exact hret 20 _ _ dX8_reach_20 rfl (⟨trivial, hM.symm.trans hE78⟩)
  have k79 := ci_eq (nI_toInt (n := b3) (Nat.lt_of_le_of_lt hb3 (by decide))) z_ti c5
  refine lv_ldc (v := (-1000000001)) S.1 S.2.1 S.2.2.2.1 (S.2.2.2.2 (.constant RX8 126 (-1000000001)) (am_at in_wsX8_reach_0 0 rfl)) dX8_reach_8 ?_
  have hE80 : M = (-1000000001) := hM.trans ((show m_X8_reach (AB ad F) p1 = ((-1000000001) : Int32) from by unfold m_X8_reach; rw [if_pos (eq_cg m4 rfl c5)]).trans rfl)
  exact hret 10 _ _ dX8_reach_10 rfl (⟨trivial, hM.symm.trans hE80⟩)
