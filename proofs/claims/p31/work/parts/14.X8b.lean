set_option maxHeartbeats 4000000 in
set_option maxRecDepth 100000 in
theorem c_X8_isBanned (l : Launch) (D : va_G) (cA ad : Nat → Nat) (t : Nat) (hI : rI ad) (F : Nat → va_E) (hW : WT cA ad F) (t1 : Nat) (ht1 : t1 ≤ 7) : MP l D cA ad t yX8_isBanned wsX8_isBanned { frames := 0, cells := 0, slots := 0, locals := 0 } [.ref (ad 58), .int (nI t1)] F (fun r => le32 1 r) := by
  refine en_P rfl (by decide +kernel) (Nat.le_of_ble_eq_true rfl) ?_
  intro p e s m args below meth c ls0 Q S hK hZ hP hS hl0 hret
  have hl0 : lv_has ls0 2 [(0, .ref (ad 58)), (1, .int (nI t1))] := hl0
  have hiX8 : ∀ w ∈ u_ws RX8 TX8 23, w ∈ wsX8_isBanned := by decide +kernel
  refine lv_aload_n S.1 S.2.1 dX8_isBanned_0 rfl (lv_at hl0 0 rfl) ?_
  obtain ⟨ty1, kn1, no1, en1, at1, sa1, sd1, wr1, pl1, va1, hF1, hb1_1, hb1_2, hb1_3, hb1_4, hb1_5, hb1_6⟩ := wt_m hW
  refine r_get S hK hP 58 (by decide) hF1 (C := RX8) (T := TX8) (N := 23) hiX8 rfl 2 (by decide) (by decide +kernel) (v := .ref (ad 60)) rfl dX8_isBanned_1 ?_
  refine lv_iconst (v := (nI 4)) S.1 S.2.1 dX8_isBanned_4 (by decide +kernel) ?_
  refine lv_iload_n S.1 S.2.1 dX8_isBanned_5 rfl (lv_at hl0 1 rfl) ?_
  refine lv_iadd S.1 S.2.1 dX8_isBanned_6 ?_
  refine lv_topi (fun v2 e2 => ?_)
  obtain rfl : v2 = nI (4 + t1) := e2.trans (nI_add _ _)
  obtain ⟨g3, hF3, hg3⟩ := wt_I hW (show (60, 52) ∈ rLI by decide)
  refine r_iald S hK hP 60 (by decide) hF3 (vp_in_nI (show 4 + t1 < 52 by omega) (by omega)) dX8_isBanned_7 ?_
  refine lv_topi (fun v5 e5 => ?_)
  refine lv_bipush (v := (nI 50)) S.1 S.2.1 dX8_isBanned_8 (by decide +kernel) ?_
  refine lv_icmp_ge (tgt := 17) S.1 S.2.1 dX8_isBanned_10 (by decide) (fun c6 => ?_) (fun c6 => ?_)
  · skip
    have k7 := ci_le (nI_toInt (n := 50) (by omega)) rfl c6
    refine lv_iconst (v := (nI 0)) S.1 S.2.1 dX8_isBanned_17 (by decide +kernel) ?_
    exact hret 18 _ _ dX8_isBanned_18 rfl (⟨0, by omega, rfl⟩)
  have k8 := ci_nle (nI_toInt (n := 50) (by omega)) rfl c6
  refine lv_iconst (v := (nI 1)) S.1 S.2.1 dX8_isBanned_13 (by decide +kernel) ?_
  refine lv_goto (tgt := 18) S.1 S.2.1 dX8_isBanned_14 (by decide) ?_
  exact hret 18 _ _ dX8_isBanned_18 rfl (⟨1, by omega, rfl⟩)
set_option maxHeartbeats 4000000 in
set_option maxRecDepth 100000 in
theorem c_X8_leads (l : Launch) (D : va_G) (cA ad : Nat → Nat) (t : Nat) (hI : rI ad) (F : Nat → va_E) (hW : WT cA ad F) (p1 : Int32) (p2 : Int32) : MP l D cA ad t yX8_leads wsX8_leads { frames := 0, cells := 0, slots := 0, locals := 0 } [.ref (ad 58), .int p1, .int p2] F (fun r => True) := by
  refine en_P rfl (by decide +kernel) (Nat.le_of_ble_eq_true rfl) ?_
  intro p e s m args below meth c ls0 Q S hK hZ hP hS hl0 hret
  have hl0 : lv_has ls0 5 [(0, .ref (ad 58)), (1, .int p1), (2, .int p2)] := hl0
  have hiX8 : ∀ w ∈ u_ws RX8 TX8 23, w ∈ wsX8_leads := by decide +kernel
  refine lv_iconst (v := (nI 0)) S.1 S.2.1 dX8_leads_0 (by decide +kernel) ?_
  refine lv_istore_n (lv' := [(3, .int (nI 0)), (0, .ref (ad 58)), (1, .int p1), (2, .int p2)]) S.1 S.2.1 dX8_leads_1 rfl hl0 (by decide) rfl (fun ls1 hl1 => ?_)
  refine lv_iconst (v := (nI 0)) S.1 S.2.1 dX8_leads_2 (by decide +kernel) ?_
  refine lv_istore (lv' := [(4, .int (nI 0)), (3, .int (nI 0)), (0, .ref (ad 58)), (1, .int p1), (2, .int p2)]) S.1 S.2.1 dX8_leads_3 hl1 (by decide) rfl (fun ls2 hl2 => ?_)
  have lp3 : ∀ (n3 : Nat) (q43 : Nat) (x3_3 : Int32), q43 ≤ 12 → 12 - q43 < n3 → ∀ (ls : Array Slot), lv_has ls 5 [(4, .int (nI q43)), (3, .int x3_3), (0, .ref (ad 58)), (1, .int p1), (2, .int p2)] → W p l e { frames := 0, cells := 0, slots := 0, locals := 0 } s m args below meth c s.heap [] 0 0 Q (F0 m 5 ls []) := by
    intro n3
    induction n3 with
    | zero =>
      intro q43 x3_3 iv3_0 hm3 ls3 hl3
      exact absurd hm3 (Nat.not_lt_zero _)
    | succ n3 ih3 =>
      intro q43 x3_3 iv3_0 hm3 ls3 hl3
      refine lv_iload S.1 S.2.1 dX8_leads_5 (lv_at hl3 0 rfl) ?_
      refine lv_aload_n S.1 S.2.1 dX8_leads_7 rfl (lv_at hl3 2 rfl) ?_
      obtain ⟨ty4, kn4, no4, en4, at4, sa4, sd4, wr4, pl4, va4, hF4, hb4_1, hb4_2, hb4_3, hb4_4, hb4_5, hb4_6⟩ := wt_m hW
      refine r_get S hK hP 58 (by decide) hF4 (C := RX8) (T := TX8) (N := 23) hiX8 rfl 2 (by decide) (by decide +kernel) (v := .ref (ad 60)) rfl dX8_leads_8 ?_
      refine lv_iconst (v := (nI 3)) S.1 S.2.1 dX8_leads_11 (by decide +kernel) ?_
      obtain ⟨g5, hF5, hg5⟩ := wt_I hW (show (60, 52) ∈ rLI by decide)
      refine r_iald S hK hP 60 (by decide) hF5 (vp_in_nI (show 3 < 52 by omega) (by omega)) dX8_leads_12 ?_
      refine lv_topi (fun v7 e7 => ?_)
      obtain ⟨b8, hb8, he8⟩ := (pr_T (by decide) (hg5 3 (by decide))).2.2 rfl
      obtain rfl : v7 = nI b8 := e7.trans he8
      refine lv_icmp_ge (tgt := 97) S.1 S.2.1 dX8_leads_13 (by decide) (fun c9 => ?_) (fun c9 => ?_)
      · skip
        have k10 := ci_le (nI_toInt (n := b8) (by omega)) (nI_toInt (n := q43) (by omega)) c9
        refine lv_iload_n S.1 S.2.1 dX8_leads_97 rfl (lv_at hl3 1 rfl) ?_
        exact hret 98 _ _ dX8_leads_98 rfl (trivial)
      have k11 := ci_nle (nI_toInt (n := b8) (by omega)) (nI_toInt (n := q43) (by omega)) c9
      refine lv_iload_n S.1 S.2.1 dX8_leads_16 rfl (lv_at hl3 4 rfl) ?_
      refine lv_iload S.1 S.2.1 dX8_leads_17 (lv_at hl3 0 rfl) ?_
      refine lv_ishr S.1 S.2.1 dX8_leads_19 ?_
      refine lv_topi (fun v12 e12 => ?_)
      refine lv_iconst (v := (nI 1)) S.1 S.2.1 dX8_leads_20 (by decide +kernel) ?_
      refine lv_iand S.1 S.2.1 dX8_leads_21 ?_
      refine lv_topi (fun v13 e13 => ?_)
      refine lv_if_ne (tgt := 91) S.1 S.2.1 dX8_leads_22 (by decide) (fun c14 => ?_) (fun c14 => ?_)
      · skip
        have k15 := ci_ne rfl z_ti c14
        refine lv_iinc (v := (nI (q43 + 1))) (lv' := [(4, .int (nI (q43 + 1))), (3, .int x3_3), (0, .ref (ad 58)), (1, .int p1), (2, .int p2)]) S.1 S.2.1 dX8_leads_91 hl3 (k := 0) rfl (nI_add _ 1) (by decide) rfl (fun ls16 hl16 => ?_)
        refine lv_goto (tgt := 5) S.1 S.2.1 dX8_leads_94 (by decide) ?_
        exact ih3 (q43 + 1) (x3_3) (by omega) (by omega) ls16 (lv_sub hl16 [0, 1, 2, 3, 4] rfl)
      have k17 := ci_eq rfl z_ti c14
      refine lv_iload_n S.1 S.2.1 dX8_leads_25 rfl (lv_at hl3 1 rfl) ?_
      refine lv_aload_n S.1 S.2.1 dX8_leads_26 rfl (lv_at hl3 2 rfl) ?_
      refine r_get S hK hP 58 (by decide) hF4 (C := RX8) (T := TX8) (N := 23) hiX8 rfl 2 (by decide) (by decide +kernel) (v := .ref (ad 60)) rfl dX8_leads_27 ?_
      refine lv_bipush (v := (nI 28)) S.1 S.2.1 dX8_leads_30 (by decide +kernel) ?_
      refine lv_iload S.1 S.2.1 dX8_leads_32 (lv_at hl3 0 rfl) ?_
      refine lv_iadd S.1 S.2.1 dX8_leads_34 ?_
      refine lv_topi (fun v18 e18 => ?_)
      obtain rfl : v18 = nI (28 + q43) := e18.trans (nI_add _ _)
      refine r_iald S hK hP 60 (by decide) hF5 (vp_in_nI (show 28 + q43 < 52 by omega) (by omega)) dX8_leads_35 ?_
      refine lv_topi (fun v20 e20 => ?_)
      refine lv_iload_n S.1 S.2.1 dX8_leads_36 rfl (lv_at hl3 3 rfl) ?_
      refine lv_icmp_ne (tgt := 55) S.1 S.2.1 dX8_leads_37 (by decide) (fun c21 => ?_) (fun c21 => ?_)
      · skip
        have k22 := ci_ne rfl rfl c21
        refine lv_iconst (v := (nI 0)) S.1 S.2.1 dX8_leads_55 (by decide +kernel) ?_
        refine lv_ior S.1 S.2.1 dX8_leads_56 ?_
        refine lv_topi (fun v23 e23 => ?_)
        refine lv_istore_n (lv' := [(3, .int v23), (4, .int (nI q43)), (0, .ref (ad 58)), (1, .int p1), (2, .int p2)]) S.1 S.2.1 dX8_leads_57 rfl hl3 (by decide) rfl (fun ls24 hl24 => ?_)
        refine lv_iload_n S.1 S.2.1 dX8_leads_58 rfl (lv_at hl24 0 rfl) ?_
        refine lv_aload_n S.1 S.2.1 dX8_leads_59 rfl (lv_at hl24 2 rfl) ?_
        refine r_get S hK hP 58 (by decide) hF4 (C := RX8) (T := TX8) (N := 23) hiX8 rfl 2 (by decide) (by decide +kernel) (v := .ref (ad 60)) rfl dX8_leads_60 ?_
        refine lv_bipush (v := (nI 40)) S.1 S.2.1 dX8_leads_63 (by decide +kernel) ?_
        refine lv_iload S.1 S.2.1 dX8_leads_65 (lv_at hl24 1 rfl) ?_
        refine lv_iadd S.1 S.2.1 dX8_leads_67 ?_
        refine lv_topi (fun v25 e25 => ?_)
        obtain rfl : v25 = nI (40 + q43) := e25.trans (nI_add _ _)
        refine r_iald S hK hP 60 (by decide) hF5 (vp_in_nI (show 40 + q43 < 52 by omega) (by omega)) dX8_leads_68 ?_
        refine lv_topi (fun v27 e27 => ?_)
        refine lv_iload_n S.1 S.2.1 dX8_leads_69 rfl (lv_at hl24 3 rfl) ?_
        refine lv_icmp_ne (tgt := 88) S.1 S.2.1 dX8_leads_70 (by decide) (fun c28 => ?_) (fun c28 => ?_)
        · skip
          have k29 := ci_ne rfl rfl c28
          refine lv_iconst (v := (nI 0)) S.1 S.2.1 dX8_leads_88 (by decide +kernel) ?_
          refine lv_ior S.1 S.2.1 dX8_leads_89 ?_
          refine lv_topi (fun v30 e30 => ?_)
          refine lv_istore_n (lv' := [(3, .int v30), (4, .int (nI q43)), (0, .ref (ad 58)), (1, .int p1), (2, .int p2)]) S.1 S.2.1 dX8_leads_90 rfl hl24 (by decide) rfl (fun ls31 hl31 => ?_)
          refine lv_iinc (v := (nI (q43 + 1))) (lv' := [(4, .int (nI (q43 + 1))), (3, .int v30), (0, .ref (ad 58)), (1, .int p1), (2, .int p2)]) S.1 S.2.1 dX8_leads_91 hl31 (k := 1) rfl (nI_add _ 1) (by decide) rfl (fun ls32 hl32 => ?_)
          refine lv_goto (tgt := 5) S.1 S.2.1 dX8_leads_94 (by decide) ?_
          exact ih3 (q43 + 1) (v30) (by omega) (by omega) ls32 (lv_sub hl32 [0, 1, 2, 3, 4] rfl)
        have k33 := ci_eq rfl rfl c28
        refine lv_iconst (v := (nI 1)) S.1 S.2.1 dX8_leads_73 (by decide +kernel) ?_
        refine lv_aload_n S.1 S.2.1 dX8_leads_74 rfl (lv_at hl24 2 rfl) ?_
        refine r_get S hK hP 58 (by decide) hF4 (C := RX8) (T := TX8) (N := 23) hiX8 rfl 2 (by decide) (by decide +kernel) (v := .ref (ad 60)) rfl dX8_leads_75 ?_
        refine lv_bipush (v := (nI 28)) S.1 S.2.1 dX8_leads_78 (by decide +kernel) ?_
        refine lv_iload S.1 S.2.1 dX8_leads_80 (lv_at hl24 1 rfl) ?_
        refine lv_iadd S.1 S.2.1 dX8_leads_82 ?_
        refine lv_topi (fun v34 e34 => ?_)
        obtain rfl : v34 = nI (28 + q43) := e34.trans (nI_add _ _)
        refine r_iald S hK hP 60 (by decide) hF5 (vp_in_nI (show 28 + q43 < 52 by omega) (by omega)) dX8_leads_83 ?_
        refine lv_topi (fun v36 e36 => ?_)
        refine lv_ishl S.1 S.2.1 dX8_leads_84 ?_
        refine lv_topi (fun v37 e37 => ?_)
        refine lv_goto (tgt := 89) S.1 S.2.1 dX8_leads_85 (by decide) ?_
        refine lv_ior S.1 S.2.1 dX8_leads_89 ?_
        refine lv_topi (fun v38 e38 => ?_)
        refine lv_istore_n (lv' := [(3, .int v38), (4, .int (nI q43)), (0, .ref (ad 58)), (1, .int p1), (2, .int p2)]) S.1 S.2.1 dX8_leads_90 rfl hl24 (by decide) rfl (fun ls39 hl39 => ?_)
        refine lv_iinc (v := (nI (q43 + 1))) (lv' := [(4, .int (nI (q43 + 1))), (3, .int v38), (0, .ref (ad 58)), (1, .int p1), (2, .int p2)]) S.1 S.2.1 dX8_leads_91 hl39 (k := 1) rfl (nI_add _ 1) (by decide) rfl (fun ls40 hl40 => ?_)
        refine lv_goto (tgt := 5) S.1 S.2.1 dX8_leads_94 (by decide) ?_
        exact ih3 (q43 + 1) (v38) (by omega) (by omega) ls40 (lv_sub hl40 [0, 1, 2, 3, 4] rfl)
      have k41 := ci_eq rfl rfl c21
      refine lv_iconst (v := (nI 1)) S.1 S.2.1 dX8_leads_40 (by decide +kernel) ?_
      refine lv_aload_n S.1 S.2.1 dX8_leads_41 rfl (lv_at hl3 2 rfl) ?_
      refine r_get S hK hP 58 (by decide) hF4 (C := RX8) (T := TX8) (N := 23) hiX8 rfl 2 (by decide) (by decide +kernel) (v := .ref (ad 60)) rfl dX8_leads_42 ?_
      refine lv_bipush (v := (nI 40)) S.1 S.2.1 dX8_leads_45 (by decide +kernel) ?_
      refine lv_iload S.1 S.2.1 dX8_leads_47 (lv_at hl3 0 rfl) ?_
      refine lv_iadd S.1 S.2.1 dX8_leads_49 ?_
      refine lv_topi (fun v42 e42 => ?_)
      obtain rfl : v42 = nI (40 + q43) := e42.trans (nI_add _ _)
      refine r_iald S hK hP 60 (by decide) hF5 (vp_in_nI (show 40 + q43 < 52 by omega) (by omega)) dX8_leads_50 ?_
      refine lv_topi (fun v44 e44 => ?_)
      refine lv_ishl S.1 S.2.1 dX8_leads_51 ?_
      refine lv_topi (fun v45 e45 => ?_)
      refine lv_goto (tgt := 56) S.1 S.2.1 dX8_leads_52 (by decide) ?_
      refine lv_ior S.1 S.2.1 dX8_leads_56 ?_
      refine lv_topi (fun v46 e46 => ?_)
      refine lv_istore_n (lv' := [(3, .int v46), (4, .int (nI q43)), (0, .ref (ad 58)), (1, .int p1), (2, .int p2)]) S.1 S.2.1 dX8_leads_57 rfl hl3 (by decide) rfl (fun ls47 hl47 => ?_)
      refine lv_iload_n S.1 S.2.1 dX8_leads_58 rfl (lv_at hl47 0 rfl) ?_
      refine lv_aload_n S.1 S.2.1 dX8_leads_59 rfl (lv_at hl47 2 rfl) ?_
      refine r_get S hK hP 58 (by decide) hF4 (C := RX8) (T := TX8) (N := 23) hiX8 rfl 2 (by decide) (by decide +kernel) (v := .ref (ad 60)) rfl dX8_leads_60 ?_
      refine lv_bipush (v := (nI 40)) S.1 S.2.1 dX8_leads_63 (by decide +kernel) ?_
      refine lv_iload S.1 S.2.1 dX8_leads_65 (lv_at hl47 1 rfl) ?_
      refine lv_iadd S.1 S.2.1 dX8_leads_67 ?_
      refine lv_topi (fun v48 e48 => ?_)
      obtain rfl : v48 = nI (40 + q43) := e48.trans (nI_add _ _)
      refine r_iald S hK hP 60 (by decide) hF5 (vp_in_nI (show 40 + q43 < 52 by omega) (by omega)) dX8_leads_68 ?_
      refine lv_topi (fun v50 e50 => ?_)
      refine lv_iload_n S.1 S.2.1 dX8_leads_69 rfl (lv_at hl47 3 rfl) ?_
      refine lv_icmp_ne (tgt := 88) S.1 S.2.1 dX8_leads_70 (by decide) (fun c51 => ?_) (fun c51 => ?_)
      · skip
        have k52 := ci_ne rfl rfl c51
        refine lv_iconst (v := (nI 0)) S.1 S.2.1 dX8_leads_88 (by decide +kernel) ?_
        refine lv_ior S.1 S.2.1 dX8_leads_89 ?_
        refine lv_topi (fun v53 e53 => ?_)
        refine lv_istore_n (lv' := [(3, .int v53), (4, .int (nI q43)), (0, .ref (ad 58)), (1, .int p1), (2, .int p2)]) S.1 S.2.1 dX8_leads_90 rfl hl47 (by decide) rfl (fun ls54 hl54 => ?_)
        refine lv_iinc (v := (nI (q43 + 1))) (lv' := [(4, .int (nI (q43 + 1))), (3, .int v53), (0, .ref (ad 58)), (1, .int p1), (2, .int p2)]) S.1 S.2.1 dX8_leads_91 hl54 (k := 1) rfl (nI_add _ 1) (by decide) rfl (fun ls55 hl55 => ?_)
        refine lv_goto (tgt := 5) S.1 S.2.1 dX8_leads_94 (by decide) ?_
        exact ih3 (q43 + 1) (v53) (by omega) (by omega) ls55 (lv_sub hl55 [0, 1, 2, 3, 4] rfl)
      have k56 := ci_eq rfl rfl c51
      refine lv_iconst (v := (nI 1)) S.1 S.2.1 dX8_leads_73 (by decide +kernel) ?_
      refine lv_aload_n S.1 S.2.1 dX8_leads_74 rfl (lv_at hl47 2 rfl) ?_
      refine r_get S hK hP 58 (by decide) hF4 (C := RX8) (T := TX8) (N := 23) hiX8 rfl 2 (by decide) (by decide +kernel) (v := .ref (ad 60)) rfl dX8_leads_75 ?_
      refine lv_bipush (v := (nI 28)) S.1 S.2.1 dX8_leads_78 (by decide +kernel) ?_
      refine lv_iload S.1 S.2.1 dX8_leads_80 (lv_at hl47 1 rfl) ?_
      refine lv_iadd S.1 S.2.1 dX8_leads_82 ?_
      refine lv_topi (fun v57 e57 => ?_)
      obtain rfl : v57 = nI (28 + q43) := e57.trans (nI_add _ _)
      refine r_iald S hK hP 60 (by decide) hF5 (vp_in_nI (show 28 + q43 < 52 by omega) (by omega)) dX8_leads_83 ?_
      refine lv_topi (fun v59 e59 => ?_)
      refine lv_ishl S.1 S.2.1 dX8_leads_84 ?_
      refine lv_topi (fun v60 e60 => ?_)
      refine lv_goto (tgt := 89) S.1 S.2.1 dX8_leads_85 (by decide) ?_
      refine lv_ior S.1 S.2.1 dX8_leads_89 ?_
      refine lv_topi (fun v61 e61 => ?_)
      refine lv_istore_n (lv' := [(3, .int v61), (4, .int (nI q43)), (0, .ref (ad 58)), (1, .int p1), (2, .int p2)]) S.1 S.2.1 dX8_leads_90 rfl hl47 (by decide) rfl (fun ls62 hl62 => ?_)
      refine lv_iinc (v := (nI (q43 + 1))) (lv' := [(4, .int (nI (q43 + 1))), (3, .int v61), (0, .ref (ad 58)), (1, .int p1), (2, .int p2)]) S.1 S.2.1 dX8_leads_91 hl62 (k := 1) rfl (nI_add _ 1) (by decide) rfl (fun ls63 hl63 => ?_)
      refine lv_goto (tgt := 5) S.1 S.2.1 dX8_leads_94 (by decide) ?_
      exact ih3 (q43 + 1) (v61) (by omega) (by omega) ls63 (lv_sub hl63 [0, 1, 2, 3, 4] rfl)
  exact lp3 (12 - (0) + 1) (0) ((nI 0)) (by omega) (by omega) ls2 (lv_sub hl2 [0, 1, 2, 3, 4] rfl)
set_option maxHeartbeats 4000000 in
set_option maxRecDepth 100000 in
theorem c_X8_walks (l : Launch) (D : va_G) (cA ad : Nat → Nat) (t : Nat) (hI : rI ad) (F : Nat → va_E) (hW : WT cA ad F) (p1 : Int32) (p2 : Int32) : MP l D cA ad t yX8_walks wsX8_walks { frames := 1, cells := 0, slots := 0, locals := 24 } [.ref (ad 58), .int p1, .int p2] F (fun r => True) := by
  refine en_P rfl (by decide +kernel) (Nat.le_of_ble_eq_true rfl) ?_
  intro p e s m args below meth c ls0 Q S hK hZ hP hS hl0 hret
  have hl0 : lv_has ls0 5 [(0, .ref (ad 58)), (1, .int p1), (2, .int p2)] := hl0
  have hiX8 : ∀ w ∈ u_ws RX8 TX8 23, w ∈ wsX8_walks := by decide +kernel
  refine lv_aload_n S.1 S.2.1 dX8_walks_0 rfl (lv_at hl0 0 rfl) ?_
  refine lv_iload_n S.1 S.2.1 dX8_walks_1 rfl (lv_at hl0 1 rfl) ?_
  refine lv_iload_n S.1 S.2.1 dX8_walks_2 rfl (lv_at hl0 2 rfl) ?_
  obtain ⟨ty2, kn2, no2, en2, at2, sa2, sd2, wr2, pl2, va2, hF2, hb2_1, hb2_2, hb2_3, hb2_4, hb2_5, hb2_6⟩ := wt_m hW
  refine r_cVp (As := [.int p1, .int p2]) (rest := []) S hK hZ hP hS hl0.1 58 (by decide) hF2 (C := RX8) rfl (c_X8_leads l D cA ad t hI F hW p1 p2) (cwV 2 S.2.2.2.2 gX8_walks_X8_leads rfl rfl rfl (by decide +kernel) ⟨Nat.le_of_ble_eq_true rfl, Nat.le_of_ble_eq_true rfl⟩) rfl rfl (Nat.le_of_ble_eq_true rfl) ⟨Nat.zero_le _, Nat.zero_le _⟩ dX8_walks_3 (fun r1 hr1 => ?_)
  refine lv_istore_n (lv' := [(3, .int r1), (0, .ref (ad 58)), (1, .int p1), (2, .int p2)]) S.1 S.2.1 dX8_walks_6 rfl hl0 (by decide) rfl (fun ls3 hl3 => ?_)
  refine lv_iconst (v := (nI 0)) S.1 S.2.1 dX8_walks_7 (by decide +kernel) ?_
  refine lv_istore (lv' := [(4, .int (nI 0)), (3, .int r1), (0, .ref (ad 58)), (1, .int p1), (2, .int p2)]) S.1 S.2.1 dX8_walks_8 hl3 (by decide) rfl (fun ls4 hl4 => ?_)
  have lp5 : ∀ (n5 : Nat) (q45 : Nat) (x5_3 : Int32), q45 ≤ 8 → 8 - q45 < n5 → ∀ (ls : Array Slot), lv_has ls 5 [(4, .int (nI q45)), (3, .int x5_3), (0, .ref (ad 58)), (1, .int p1), (2, .int p2)] → W p l e { frames := 1, cells := 0, slots := 0, locals := 24 } s m args below meth c s.heap [] 0 0 Q (F0 m 10 ls []) := by
    intro n5
    induction n5 with
    | zero =>
      intro q45 x5_3 iv5_0 hm5 ls5 hl5
      exact absurd hm5 (Nat.not_lt_zero _)
    | succ n5 ih5 =>
      intro q45 x5_3 iv5_0 hm5 ls5 hl5
      refine lv_iload S.1 S.2.1 dX8_walks_10 (lv_at hl5 0 rfl) ?_
      refine lv_aload_n S.1 S.2.1 dX8_walks_12 rfl (lv_at hl5 2 rfl) ?_
      refine r_get S hK hP 58 (by decide) hF2 (C := RX8) (T := TX8) (N := 23) hiX8 rfl 2 (by decide) (by decide +kernel) (v := .ref (ad 60)) rfl dX8_walks_13 ?_
      refine lv_iconst (v := (nI 2)) S.1 S.2.1 dX8_walks_16 (by decide +kernel) ?_
      obtain ⟨g6, hF6, hg6⟩ := wt_I hW (show (60, 52) ∈ rLI by decide)
      refine r_iald S hK hP 60 (by decide) hF6 (vp_in_nI (show 2 < 52 by omega) (by omega)) dX8_walks_17 ?_
      refine lv_topi (fun v8 e8 => ?_)
      obtain ⟨b9, hb9, he9⟩ := (pr_T (by decide) (hg6 2 (by decide))).2.1 rfl
      obtain rfl : v8 = nI b9 := e8.trans he9
      refine lv_icmp_ge (tgt := 49) S.1 S.2.1 dX8_walks_18 (by decide) (fun c10 => ?_) (fun c10 => ?_)
      · skip
        have k11 := ci_le (nI_toInt (n := b9) (by omega)) (nI_toInt (n := q45) (by omega)) c10
        refine lv_iload_n S.1 S.2.1 dX8_walks_49 rfl (lv_at hl5 1 rfl) ?_
        exact hret 50 _ _ dX8_walks_50 rfl (trivial)
      have k12 := ci_nle (nI_toInt (n := b9) (by omega)) (nI_toInt (n := q45) (by omega)) c10
      refine lv_iload_n S.1 S.2.1 dX8_walks_21 rfl (lv_at hl5 1 rfl) ?_
      refine lv_aload_n S.1 S.2.1 dX8_walks_22 rfl (lv_at hl5 2 rfl) ?_
      refine lv_iload S.1 S.2.1 dX8_walks_23 (lv_at hl5 0 rfl) ?_
      refine r_cVp (As := [.int (nI q45)]) (rest := [.int x5_3]) S hK hZ hP hS hl5.1 58 (by decide) hF2 (C := RX8) rfl (c_X8_isBanned l D cA ad t hI F hW (q45) (by omega)) (cwV 1 S.2.2.2.2 gX8_walks_X8_isBanned rfl rfl rfl (by decide +kernel) ⟨Nat.le_of_ble_eq_true rfl, Nat.le_of_ble_eq_true rfl⟩) rfl rfl (Nat.le_of_ble_eq_true rfl) ⟨Nat.zero_le _, Nat.zero_le _⟩ dX8_walks_25 (fun r13 hr13 => ?_)
      obtain ⟨b14, hb14, rfl⟩ := hr13
      refine lv_if_eq (tgt := 40) S.1 S.2.1 dX8_walks_28 (by decide) (fun c15 => ?_) (fun c15 => ?_)
      · skip
        have k16 := ci_eq (nI_toInt (n := b14) (by omega)) z_ti c15
        refine lv_iconst (v := (-1)) S.1 S.2.1 dX8_walks_40 (by decide +kernel) ?_
        refine lv_iand S.1 S.2.1 dX8_walks_41 ?_
        refine lv_topi (fun v17 e17 => ?_)
        refine lv_istore_n (lv' := [(3, .int v17), (4, .int (nI q45)), (0, .ref (ad 58)), (1, .int p1), (2, .int p2)]) S.1 S.2.1 dX8_walks_42 rfl hl5 (by decide) rfl (fun ls18 hl18 => ?_)
        refine lv_iinc (v := (nI (q45 + 1))) (lv' := [(4, .int (nI (q45 + 1))), (3, .int v17), (0, .ref (ad 58)), (1, .int p1), (2, .int p2)]) S.1 S.2.1 dX8_walks_43 hl18 (k := 1) rfl (nI_add _ 1) (by decide) rfl (fun ls19 hl19 => ?_)
        refine lv_goto (tgt := 10) S.1 S.2.1 dX8_walks_46 (by decide) ?_
        exact ih5 (q45 + 1) (v17) (by omega) (by omega) ls19 (lv_sub hl19 [0, 1, 2, 3, 4] rfl)
      have k20 := ci_ne (nI_toInt (n := b14) (by omega)) z_ti c15
      refine lv_iconst (v := (nI 1)) S.1 S.2.1 dX8_walks_31 (by decide +kernel) ?_
      refine lv_iload S.1 S.2.1 dX8_walks_32 (lv_at hl5 0 rfl) ?_
      refine lv_ishl S.1 S.2.1 dX8_walks_34 ?_
      refine lv_topi (fun v21 e21 => ?_)
      refine lv_iconst (v := (-1)) S.1 S.2.1 dX8_walks_35 (by decide +kernel) ?_
      refine lv_ixor S.1 S.2.1 dX8_walks_36 ?_
      refine lv_topi (fun v22 e22 => ?_)
      refine lv_goto (tgt := 41) S.1 S.2.1 dX8_walks_37 (by decide) ?_
      refine lv_iand S.1 S.2.1 dX8_walks_41 ?_
      refine lv_topi (fun v23 e23 => ?_)
      refine lv_istore_n (lv' := [(3, .int v23), (4, .int (nI q45)), (0, .ref (ad 58)), (1, .int p1), (2, .int p2)]) S.1 S.2.1 dX8_walks_42 rfl hl5 (by decide) rfl (fun ls24 hl24 => ?_)
      refine lv_iinc (v := (nI (q45 + 1))) (lv' := [(4, .int (nI (q45 + 1))), (3, .int v23), (0, .ref (ad 58)), (1, .int p1), (2, .int p2)]) S.1 S.2.1 dX8_walks_43 hl24 (k := 1) rfl (nI_add _ 1) (by decide) rfl (fun ls25 hl25 => ?_)
      refine lv_goto (tgt := 10) S.1 S.2.1 dX8_walks_46 (by decide) ?_
      exact ih5 (q45 + 1) (v23) (by omega) (by omega) ls25 (lv_sub hl25 [0, 1, 2, 3, 4] rfl)
  exact lp5 (8 - (0) + 1) (0) (r1) (by omega) (by omega) ls4 (lv_sub hl4 [0, 1, 2, 3, 4] rfl)
set_option maxHeartbeats 4000000 in
set_option maxRecDepth 100000 in
theorem c_X8_town (l : Launch) (D : va_G) (cA ad : Nat → Nat) (t : Nat) (hI : rI ad) (F : Nat → va_E) (hW : WT cA ad F) (p1 : Int32) (p2 : Int32) : MP l D cA ad t yX8_town wsX8_town { frames := 2, cells := 0, slots := 0, locals := 43 } [.ref (ad 58), .int p1, .int p2] F (fun r => True) := by
  refine en_P rfl (by decide +kernel) (Nat.le_of_ble_eq_true rfl) ?_
  intro p e s m args below meth c ls0 Q S hK hZ hP hS hl0 hret
  have hl0 : lv_has ls0 3 [(0, .ref (ad 58)), (1, .int p1), (2, .int p2)] := hl0
  have hiX8 : ∀ w ∈ u_ws RX8 TX8 23, w ∈ wsX8_town := by decide +kernel
  refine lv_aload_n S.1 S.2.1 dX8_town_0 rfl (lv_at hl0 0 rfl) ?_
  refine lv_iload_n S.1 S.2.1 dX8_town_1 rfl (lv_at hl0 1 rfl) ?_
  obtain ⟨ty2, kn2, no2, en2, at2, sa2, sd2, wr2, pl2, va2, hF2, hb2_1, hb2_2, hb2_3, hb2_4, hb2_5, hb2_6⟩ := wt_m hW
  refine r_cVp (As := [.int p1]) (rest := []) S hK hZ hP hS hl0.1 58 (by decide) hF2 (C := RX8) rfl (c_X8_isTown l D cA ad t hI F hW p1) (cwV 1 S.2.2.2.2 gX8_town_X8_isTown rfl rfl rfl (by decide +kernel) ⟨Nat.le_of_ble_eq_true rfl, Nat.le_of_ble_eq_true rfl⟩) rfl rfl (Nat.le_of_ble_eq_true rfl) ⟨Nat.zero_le _, Nat.zero_le _⟩ dX8_town_2 (fun r1 hr1 => ?_)
  obtain ⟨⟨b3, hb3, rfl⟩, hx3⟩ := hr1
  have hx3 : b3 ≠ 0 → 0 ≤ p1.toInt ∧ p1.toInt ≤ _ := fun q => hx3 (nI_ne0 (by omega) (by omega))
  refine lv_if_ne (tgt := 11) S.1 S.2.1 dX8_town_5 (by decide) (fun c4 => ?_) (fun c4 => ?_)
  · skip
    have k5 := ci_ne (nI_toInt (n := b3) (by omega)) z_ti c4
    obtain ⟨j6, hj6, rfl⟩ := nI_of_le (x := p1) (B := 7) (by omega) (by omega)
    have kj6 := nI_toInt (n := j6) (by omega)
    refine lv_iload_n S.1 S.2.1 dX8_town_11 rfl (lv_at hl0 2 rfl) ?_
    by_cases hs7_0 : p2.toInt = 0
    · refine lv_tableIn (off := 36) (tgt := 48) S.1 S.2.1 dX8_town_12 (by omega) (by omega) (by rw [hs7_0]; rfl) (by decide) ?_
      refine lv_aload_n S.1 S.2.1 dX8_town_48 rfl (lv_at hl0 0 rfl) ?_
      refine r_get S hK hP 58 (by decide) hF2 (C := RX8) (T := TX8) (N := 23) hiX8 rfl 2 (by decide) (by decide +kernel) (v := .ref (ad 60)) rfl dX8_town_49 ?_
      refine lv_iconst (v := (nI 4)) S.1 S.2.1 dX8_town_52 (by decide +kernel) ?_
      refine lv_iload_n S.1 S.2.1 dX8_town_53 rfl (lv_at hl0 1 rfl) ?_
      refine lv_iadd S.1 S.2.1 dX8_town_54 ?_
      refine lv_topi (fun v8 e8 => ?_)
      obtain rfl : v8 = nI (4 + j6) := e8.trans (nI_add _ _)
      obtain ⟨g9, hF9, hg9⟩ := wt_I hW (show (60, 52) ∈ rLI by decide)
      refine r_iald S hK hP 60 (by decide) hF9 (vp_in_nI (show 4 + j6 < 52 by omega) (by omega)) dX8_town_55 ?_
      refine lv_topi (fun v11 e11 => ?_)
      exact hret 56 _ _ dX8_town_56 rfl (trivial)
    by_cases hs7_1 : p2.toInt = 1
    · refine lv_tableIn (off := 45) (tgt := 57) S.1 S.2.1 dX8_town_12 (by omega) (by omega) (by rw [hs7_1]; rfl) (by decide) ?_
      refine lv_aload_n S.1 S.2.1 dX8_town_57 rfl (lv_at hl0 0 rfl) ?_
      refine r_get S hK hP 58 (by decide) hF2 (C := RX8) (T := TX8) (N := 23) hiX8 rfl 2 (by decide) (by decide +kernel) (v := .ref (ad 60)) rfl dX8_town_58 ?_
      refine lv_bipush (v := (nI 12)) S.1 S.2.1 dX8_town_61 (by decide +kernel) ?_
      refine lv_iload_n S.1 S.2.1 dX8_town_63 rfl (lv_at hl0 1 rfl) ?_
      refine lv_iadd S.1 S.2.1 dX8_town_64 ?_
      refine lv_topi (fun v12 e12 => ?_)
      obtain rfl : v12 = nI (12 + j6) := e12.trans (nI_add _ _)
      obtain ⟨g13, hF13, hg13⟩ := wt_I hW (show (60, 52) ∈ rLI by decide)
      refine r_iald S hK hP 60 (by decide) hF13 (vp_in_nI (show 12 + j6 < 52 by omega) (by omega)) dX8_town_65 ?_
      refine lv_topi (fun v15 e15 => ?_)
      exact hret 66 _ _ dX8_town_66 rfl (trivial)
    by_cases hs7_2 : p2.toInt = 2
    · refine lv_tableIn (off := 55) (tgt := 67) S.1 S.2.1 dX8_town_12 (by omega) (by omega) (by rw [hs7_2]; rfl) (by decide) ?_
      refine lv_aload_n S.1 S.2.1 dX8_town_67 rfl (lv_at hl0 0 rfl) ?_
      refine r_get S hK hP 58 (by decide) hF2 (C := RX8) (T := TX8) (N := 23) hiX8 rfl 2 (by decide) (by decide +kernel) (v := .ref (ad 60)) rfl dX8_town_68 ?_
      refine lv_bipush (v := (nI 20)) S.1 S.2.1 dX8_town_71 (by decide +kernel) ?_
      refine lv_iload_n S.1 S.2.1 dX8_town_73 rfl (lv_at hl0 1 rfl) ?_
      refine lv_iadd S.1 S.2.1 dX8_town_74 ?_
      refine lv_topi (fun v16 e16 => ?_)
      obtain rfl : v16 = nI (20 + j6) := e16.trans (nI_add _ _)
      obtain ⟨g17, hF17, hg17⟩ := wt_I hW (show (60, 52) ∈ rLI by decide)
      refine r_iald S hK hP 60 (by decide) hF17 (vp_in_nI (show 20 + j6 < 52 by omega) (by omega)) dX8_town_75 ?_
      refine lv_topi (fun v19 e19 => ?_)
      exact hret 76 _ _ dX8_town_76 rfl (trivial)
    by_cases hs7_3 : p2.toInt = 3
    · refine lv_tableIn (off := 65) (tgt := 77) S.1 S.2.1 dX8_town_12 (by omega) (by omega) (by rw [hs7_3]; rfl) (by decide) ?_
      refine lv_aload_n S.1 S.2.1 dX8_town_77 rfl (lv_at hl0 0 rfl) ?_
      refine lv_iload_n S.1 S.2.1 dX8_town_78 rfl (lv_at hl0 1 rfl) ?_
      refine lv_iconst (v := (nI 0)) S.1 S.2.1 dX8_town_79 (by decide +kernel) ?_
      refine r_cVp (As := [.int (nI j6), .int (nI 0)]) (rest := []) S hK hZ hP hS hl0.1 58 (by decide) hF2 (C := RX8) rfl (c_X8_leads l D cA ad t hI F hW (nI j6) (nI 0)) (cwV 2 S.2.2.2.2 gX8_town_X8_leads rfl rfl rfl (by decide +kernel) ⟨Nat.le_of_ble_eq_true rfl, Nat.le_of_ble_eq_true rfl⟩) rfl rfl (Nat.le_of_ble_eq_true rfl) ⟨Nat.zero_le _, Nat.zero_le _⟩ dX8_town_80 (fun r20 hr20 => ?_)
      exact hret 83 _ _ dX8_town_83 rfl (trivial)
    by_cases hs7_4 : p2.toInt = 4
    · refine lv_tableIn (off := 72) (tgt := 84) S.1 S.2.1 dX8_town_12 (by omega) (by omega) (by rw [hs7_4]; rfl) (by decide) ?_
      refine lv_aload_n S.1 S.2.1 dX8_town_84 rfl (lv_at hl0 0 rfl) ?_
      refine lv_iload_n S.1 S.2.1 dX8_town_85 rfl (lv_at hl0 1 rfl) ?_
      refine r_cVp (As := [.int (nI j6)]) (rest := []) S hK hZ hP hS hl0.1 58 (by decide) hF2 (C := RX8) rfl (c_X8_isBanned l D cA ad t hI F hW (j6) (by omega)) (cwV 1 S.2.2.2.2 gX8_town_X8_isBanned rfl rfl rfl (by decide +kernel) ⟨Nat.le_of_ble_eq_true rfl, Nat.le_of_ble_eq_true rfl⟩) rfl rfl (Nat.le_of_ble_eq_true rfl) ⟨Nat.zero_le _, Nat.zero_le _⟩ dX8_town_86 (fun r21 hr21 => ?_)
      obtain ⟨b22, hb22, rfl⟩ := hr21
      refine lv_if_eq (tgt := 96) S.1 S.2.1 dX8_town_89 (by decide) (fun c23 => ?_) (fun c23 => ?_)
      · skip
        have k24 := ci_eq (nI_toInt (n := b22) (by omega)) z_ti c23
        refine lv_iconst (v := (nI 0)) S.1 S.2.1 dX8_town_96 (by decide +kernel) ?_
        exact hret 97 _ _ dX8_town_97 rfl (trivial)
      have k25 := ci_ne (nI_toInt (n := b22) (by omega)) z_ti c23
      refine lv_iconst (v := (nI 1)) S.1 S.2.1 dX8_town_92 (by decide +kernel) ?_
      refine lv_goto (tgt := 97) S.1 S.2.1 dX8_town_93 (by decide) ?_
      exact hret 97 _ _ dX8_town_97 rfl (trivial)
    refine lv_tableOut (tgt := 98) S.1 S.2.1 dX8_town_12 (by omega) (by decide) ?_
    refine lv_ldc (v := (-1000000002)) S.1 S.2.1 S.2.2.2.1 (S.2.2.2.2 (.constant RX8 59 (-1000000002)) (by decide +kernel)) dX8_town_98 ?_
    exact hret 100 _ _ dX8_town_100 rfl (trivial)
  have k26 := ci_eq (nI_toInt (n := b3) (by omega)) z_ti c4
  refine lv_ldc (v := (-1000000001)) S.1 S.2.1 S.2.2.2.1 (S.2.2.2.2 (.constant RX8 126 (-1000000001)) (by decide +kernel)) dX8_town_8 ?_
  exact hret 10 _ _ dX8_town_10 rfl (trivial)
set_option maxHeartbeats 4000000 in
set_option maxRecDepth 100000 in
theorem c_X8_road (l : Launch) (D : va_G) (cA ad : Nat → Nat) (t : Nat) (hI : rI ad) (F : Nat → va_E) (hW : WT cA ad F) (p1 : Int32) (p2 : Int32) : MP l D cA ad t yX8_road wsX8_road { frames := 2, cells := 0, slots := 0, locals := 43 } [.ref (ad 58), .int p1, .int p2] F (fun r => True) := by
  refine en_P rfl (by decide +kernel) (Nat.le_of_ble_eq_true rfl) ?_
  intro p e s m args below meth c ls0 Q S hK hZ hP hS hl0 hret
  have hl0 : lv_has ls0 3 [(0, .ref (ad 58)), (1, .int p1), (2, .int p2)] := hl0
  have hiX8 : ∀ w ∈ u_ws RX8 TX8 23, w ∈ wsX8_road := by decide +kernel
  refine lv_aload_n S.1 S.2.1 dX8_road_0 rfl (lv_at hl0 0 rfl) ?_
  refine lv_iload_n S.1 S.2.1 dX8_road_1 rfl (lv_at hl0 1 rfl) ?_
  obtain ⟨ty2, kn2, no2, en2, at2, sa2, sd2, wr2, pl2, va2, hF2, hb2_1, hb2_2, hb2_3, hb2_4, hb2_5, hb2_6⟩ := wt_m hW
  refine r_cVp (As := [.int p1]) (rest := []) S hK hZ hP hS hl0.1 58 (by decide) hF2 (C := RX8) rfl (c_X8_isRoad l D cA ad t hI F hW p1) (cwV 1 S.2.2.2.2 gX8_road_X8_isRoad rfl rfl rfl (by decide +kernel) ⟨Nat.le_of_ble_eq_true rfl, Nat.le_of_ble_eq_true rfl⟩) rfl rfl (Nat.le_of_ble_eq_true rfl) ⟨Nat.zero_le _, Nat.zero_le _⟩ dX8_road_2 (fun r1 hr1 => ?_)
  obtain ⟨⟨b3, hb3, rfl⟩, hx3⟩ := hr1
  have hx3 : b3 ≠ 0 → 0 ≤ p1.toInt ∧ p1.toInt ≤ _ := fun q => hx3 (nI_ne0 (by omega) (by omega))
  refine lv_if_ne (tgt := 11) S.1 S.2.1 dX8_road_5 (by decide) (fun c4 => ?_) (fun c4 => ?_)
  · skip
    have k5 := ci_ne (nI_toInt (n := b3) (by omega)) z_ti c4
    obtain ⟨j6, hj6, rfl⟩ := nI_of_le (x := p1) (B := 11) (by omega) (by omega)
    have kj6 := nI_toInt (n := j6) (by omega)
    refine lv_iload_n S.1 S.2.1 dX8_road_11 rfl (lv_at hl0 2 rfl) ?_
    by_cases hs7_0 : p2.toInt = 0
    · refine lv_tableIn (off := 28) (tgt := 40) S.1 S.2.1 dX8_road_12 (by omega) (by omega) (by rw [hs7_0]; rfl) (by decide) ?_
      refine lv_aload_n S.1 S.2.1 dX8_road_40 rfl (lv_at hl0 0 rfl) ?_
      refine r_get S hK hP 58 (by decide) hF2 (C := RX8) (T := TX8) (N := 23) hiX8 rfl 2 (by decide) (by decide +kernel) (v := .ref (ad 60)) rfl dX8_road_41 ?_
      refine lv_bipush (v := (nI 28)) S.1 S.2.1 dX8_road_44 (by decide +kernel) ?_
      refine lv_iload_n S.1 S.2.1 dX8_road_46 rfl (lv_at hl0 1 rfl) ?_
      refine lv_iadd S.1 S.2.1 dX8_road_47 ?_
      refine lv_topi (fun v8 e8 => ?_)
      obtain rfl : v8 = nI (28 + j6) := e8.trans (nI_add _ _)
      obtain ⟨g9, hF9, hg9⟩ := wt_I hW (show (60, 52) ∈ rLI by decide)
      refine r_iald S hK hP 60 (by decide) hF9 (vp_in_nI (show 28 + j6 < 52 by omega) (by omega)) dX8_road_48 ?_
      refine lv_topi (fun v11 e11 => ?_)
      exact hret 49 _ _ dX8_road_49 rfl (trivial)
    by_cases hs7_1 : p2.toInt = 1
    · refine lv_tableIn (off := 38) (tgt := 50) S.1 S.2.1 dX8_road_12 (by omega) (by omega) (by rw [hs7_1]; rfl) (by decide) ?_
      refine lv_aload_n S.1 S.2.1 dX8_road_50 rfl (lv_at hl0 0 rfl) ?_
      refine r_get S hK hP 58 (by decide) hF2 (C := RX8) (T := TX8) (N := 23) hiX8 rfl 2 (by decide) (by decide +kernel) (v := .ref (ad 60)) rfl dX8_road_51 ?_
      refine lv_bipush (v := (nI 40)) S.1 S.2.1 dX8_road_54 (by decide +kernel) ?_
      refine lv_iload_n S.1 S.2.1 dX8_road_56 rfl (lv_at hl0 1 rfl) ?_
      refine lv_iadd S.1 S.2.1 dX8_road_57 ?_
      refine lv_topi (fun v12 e12 => ?_)
      obtain rfl : v12 = nI (40 + j6) := e12.trans (nI_add _ _)
      obtain ⟨g13, hF13, hg13⟩ := wt_I hW (show (60, 52) ∈ rLI by decide)
      refine r_iald S hK hP 60 (by decide) hF13 (vp_in_nI (show 40 + j6 < 52 by omega) (by omega)) dX8_road_58 ?_
      refine lv_topi (fun v15 e15 => ?_)
      exact hret 59 _ _ dX8_road_59 rfl (trivial)
    by_cases hs7_2 : p2.toInt = 2
    · refine lv_tableIn (off := 48) (tgt := 60) S.1 S.2.1 dX8_road_12 (by omega) (by omega) (by rw [hs7_2]; rfl) (by decide) ?_
      refine lv_aload_n S.1 S.2.1 dX8_road_60 rfl (lv_at hl0 0 rfl) ?_
      refine r_get S hK hP 58 (by decide) hF2 (C := RX8) (T := TX8) (N := 23) hiX8 rfl 4 (by decide) (by decide +kernel) (v := .ref (ad 62)) rfl dX8_road_61 ?_
      refine lv_iconst (v := (nI 5)) S.1 S.2.1 dX8_road_64 (by decide +kernel) ?_
      obtain ⟨g16, hF16, hg16⟩ := wt_I hW (show (62, 7) ∈ rLI by decide)
      refine r_iald S hK hP 62 (by decide) hF16 (vp_in_nI (show 5 < 7 by omega) (by omega)) dX8_road_65 ?_
      refine lv_topi (fun v18 e18 => ?_)
      refine lv_iload_n S.1 S.2.1 dX8_road_66 rfl (lv_at hl0 1 rfl) ?_
      refine lv_ishr S.1 S.2.1 dX8_road_67 ?_
      refine lv_topi (fun v19 e19 => ?_)
      refine lv_iconst (v := (nI 1)) S.1 S.2.1 dX8_road_68 (by decide +kernel) ?_
      refine lv_iand S.1 S.2.1 dX8_road_69 ?_
      refine lv_topi (fun v20 e20 => ?_)
      exact hret 70 _ _ dX8_road_70 rfl (trivial)
    refine lv_tableOut (tgt := 71) S.1 S.2.1 dX8_road_12 (by omega) (by decide) ?_
    refine lv_ldc (v := (-1000000002)) S.1 S.2.1 S.2.2.2.1 (S.2.2.2.2 (.constant RX8 59 (-1000000002)) (by decide +kernel)) dX8_road_71 ?_
    exact hret 73 _ _ dX8_road_73 rfl (trivial)
  have k21 := ci_eq (nI_toInt (n := b3) (by omega)) z_ti c4
  refine lv_ldc (v := (-1000000001)) S.1 S.2.1 S.2.2.2.1 (S.2.2.2.2 (.constant RX8 126 (-1000000001)) (by decide +kernel)) dX8_road_8 ?_
  exact hret 10 _ _ dX8_road_10 rfl (trivial)
set_option maxHeartbeats 4000000 in
set_option maxRecDepth 100000 in
theorem c_X8_keeps (l : Launch) (D : va_G) (cA ad : Nat → Nat) (t : Nat) (hI : rI ad) (F : Nat → va_E) (hW : WT cA ad F) : MV l D cA ad t yX8_keeps wsX8_keeps { frames := 0, cells := 0, slots := 0, locals := 0 } [.ref (ad 58)] F (fun F' => WT cA ad F' ∧ rFr [58, 63] F F' ∧ (True)) := by
  refine en_V rfl (by decide +kernel) (Nat.le_of_ble_eq_true rfl) ?_
  intro p e s m args below meth c ls0 Q S hK hZ hP hS hl0 hret
  have hl0 : lv_has ls0 2 [(0, .ref (ad 58))] := hl0
  have hFr : rFr [58, 63] F F := rFr.rf
  have hiX8 : ∀ w ∈ u_ws RX8 TX8 23, w ∈ wsX8_keeps := by decide +kernel
  refine lv_aload_n S.1 S.2.1 dX8_keeps_0 rfl (lv_at hl0 0 rfl) ?_
  obtain ⟨ty1, kn1, no1, en1, at1, sa1, sd1, wr1, pl1, va1, hF1, hb1_1, hb1_2, hb1_3, hb1_4, hb1_5, hb1_6⟩ := wt_m hW
  refine r_get S hK hP 58 (by decide) hF1 (C := RX8) (T := TX8) (N := 23) hiX8 rfl 6 (by decide) (by decide +kernel) (v := .int (nI kn1)) rfl dX8_keeps_1 ?_
  refine lv_bipush (v := (nI 20)) S.1 S.2.1 dX8_keeps_4 (by decide +kernel) ?_
  refine lv_icmp_ne (tgt := 49) S.1 S.2.1 dX8_keeps_6 (by decide) (fun c2 => ?_) (fun c2 => ?_)
  · skip
    have k3 := ci_ne (nI_toInt (n := kn1) (by omega)) (nI_toInt (n := 20) (by omega)) c2
    refine lv_iconst (v := (nI 0)) S.1 S.2.1 dX8_keeps_49 (by decide +kernel) ?_
    refine lv_istore_n (lv' := [(1, .int (nI 0)), (0, .ref (ad 58))]) S.1 S.2.1 dX8_keeps_50 rfl hl0 (by decide) rfl (fun ls4 hl4 => ?_)
    have lp5 : ∀ (n5 : Nat) (q15 : Nat), ∀ (Fl5 : Nat → va_E) (Hl5 : Heap) (lol5 : List Loc), q15 ≤ 7 → fN (Fl5 58) 6 < 20 → 7 - q15 < n5 → WT cA ad Fl5 → rFr [58, 63] F Fl5 → va_P D vwCl (rW ad Fl5) Hl5 → va_S (rA ad) s.heap Hl5 lol5 → ∀ (ls : Array Slot), lv_has ls 2 [(1, .int (nI q15)), (0, .ref (ad 58))] → W p l e { frames := 0, cells := 0, slots := 0, locals := 0 } s m args below meth c Hl5 lol5 0 0 Q (F0 m 51 ls []) := by
      intro n5
      induction n5 with
      | zero =>
        intro q15 Fl5 Hl5 lol5 iv5_0 ix5_kn hm5 hWl5 hFl5 hPl5 hSl5 ls5 hl5
        exact absurd hm5 (Nat.not_lt_zero _)
      | succ n5 ih5 =>
        intro q15 Fl5 Hl5 lol5 iv5_0 ix5_kn hm5 hWl5 hFl5 hPl5 hSl5 ls5 hl5
        obtain ⟨ty6, kn6, no6, en6, at6, sa6, sd6, wr6, pl6, va6, hF6, hb6_1, hb6_2, hb6_3, hb6_4, hb6_5, hb6_6⟩ := wt_m hWl5
        have hK7 := fN_of (k := 6) (a := kn6) hF6 rfl (by omega)
        refine lv_iload_n S.1 S.2.1 dX8_keeps_51 rfl (lv_at hl5 0 rfl) ?_
        refine lv_bipush (v := (nI 7)) S.1 S.2.1 dX8_keeps_52 (by decide +kernel) ?_
        refine lv_icmp_ge (tgt := 83) S.1 S.2.1 dX8_keeps_54 (by decide) (fun c8 => ?_) (fun c8 => ?_)
        · skip
          have k9 := ci_le (nI_toInt (n := 7) (by omega)) (nI_toInt (n := q15) (by omega)) c8
          refine lv_aload_n S.1 S.2.1 dX8_keeps_83 rfl (lv_at hl5 1 rfl) ?_
          refine lv_dup S.1 S.2.1 dX8_keeps_84 rfl ?_
          refine r_get S hK hPl5 58 (by decide) hF6 (C := RX8) (T := TX8) (N := 23) hiX8 rfl 6 (by decide) (by decide +kernel) (v := .int (nI kn6)) rfl dX8_keeps_85 ?_
          refine lv_iconst (v := (nI 1)) S.1 S.2.1 dX8_keeps_88 (by decide +kernel) ?_
          refine lv_iadd S.1 S.2.1 dX8_keeps_89 ?_
          refine lv_topi (fun v10 e10 => ?_)
          obtain rfl : v10 = nI (kn6 + 1) := e10.trans (nI_add _ _)
          refine r_put S hI hK hPl5 hSl5 58 (by decide) hF6 (C := RX8) (T := TX8) (N := 23) hiX8 tyX8_ok nmX8 rfl 6 (by decide) (by decide +kernel) rfl rfl rfl (Nat.le_of_ble_eq_true rfl) dX8_keeps_90 (fun F11 H11 locs11 eF11 hP11 hS11 => ?_)
          have hF11 : F11 58 = .inr (8, [.ref (ad 59), .int (nI ty6), .ref (ad 60), .ref (ad 61), .ref (ad 62), .ref (ad 63), .int (nI (kn6 + 1)), .ref (ad 64), .ref (ad 65), .int sd6, .ref (ad 66), .int (nI no6), .ref (ad 67), .int (nI en6), .int (nI at6), .int wr6, .int pl6, .int va6, .int (nI sa6), .ref (ad 68), .ref (ad 69), .ref (ad 70), .ref (ad 71)]) := by rw [eF11]; exact va_up_self _ _ _
          have hW11 := hWl5.up eF11 (ok_m ⟨ty6, kn6 + 1, no6, en6, at6, sa6, sd6, wr6, pl6, va6, rfl, by omega, by omega, by omega, by omega, by omega, by omega⟩)
          have hFr11 := hFl5.up eF11 (by simp <;> first | omega | (simp only [isC, isJ] at *; omega))
          exact hret 93 _ _ _ _ dX8_keeps_93 hP11 hS11 ⟨hW11, hFr11, trivial⟩
        have k12 := ci_nle (nI_toInt (n := 7) (by omega)) (nI_toInt (n := q15) (by omega)) c8
        refine lv_aload_n S.1 S.2.1 dX8_keeps_57 rfl (lv_at hl5 1 rfl) ?_
        refine r_get S hK hPl5 58 (by decide) hF6 (C := RX8) (T := TX8) (N := 23) hiX8 rfl 5 (by decide) (by decide +kernel) (v := .ref (ad 63)) rfl dX8_keeps_58 ?_
        refine lv_bipush (v := (nI 7)) S.1 S.2.1 dX8_keeps_61 (by decide +kernel) ?_
        refine lv_aload_n S.1 S.2.1 dX8_keeps_63 rfl (lv_at hl5 1 rfl) ?_
        refine r_get S hK hPl5 58 (by decide) hF6 (C := RX8) (T := TX8) (N := 23) hiX8 rfl 6 (by decide) (by decide +kernel) (v := .int (nI kn6)) rfl dX8_keeps_64 ?_
        refine lv_imul S.1 S.2.1 dX8_keeps_67 ?_
        refine lv_topi (fun v13 e13 => ?_)
        obtain rfl : v13 = nI (7 * kn6) := e13.trans (pk_mul _ _)
        refine lv_iload_n S.1 S.2.1 dX8_keeps_68 rfl (lv_at hl5 0 rfl) ?_
        refine lv_iadd S.1 S.2.1 dX8_keeps_69 ?_
        refine lv_topi (fun v14 e14 => ?_)
        obtain rfl : v14 = nI ((7 * kn6) + q15) := e14.trans (nI_add _ _)
        refine lv_aload_n S.1 S.2.1 dX8_keeps_70 rfl (lv_at hl5 1 rfl) ?_
        refine r_get S hK hPl5 58 (by decide) hF6 (C := RX8) (T := TX8) (N := 23) hiX8 rfl 4 (by decide) (by decide +kernel) (v := .ref (ad 62)) rfl dX8_keeps_71 ?_
        refine lv_iload_n S.1 S.2.1 dX8_keeps_74 rfl (lv_at hl5 0 rfl) ?_
        obtain ⟨g15, hF15, hg15⟩ := wt_I hWl5 (show (62, 7) ∈ rLI by decide)
        refine r_iald S hK hPl5 62 (by decide) hF15 (vp_in_nI (show q15 < 7 by omega) (by omega)) dX8_keeps_75 ?_
        refine lv_topi (fun v17 e17 => ?_)
        obtain ⟨g18, hF18, hg18⟩ := wt_I hWl5 (show (63, 140) ∈ rLI by decide)
        refine r_iast S hI hK hPl5 hSl5 63 (by decide) hF18 (vp_in_nI (show (7 * kn6) + q15 < 140 by omega) (by omega)) dX8_keeps_76 (fun F19 H19 locs19 eF19 hP19 hS19 => ?_)
        have hW19 := hWl5.up eF19 (ok_I (show (63, 140) ∈ rLI by decide) (okI_up hg18 (by rw [nI_clamp (by omega)]; apply to_S7; rw [e17, nI_clamp (by omega)]; exact okS_cg (by omega) (pr_S (hg15 (q15) (by omega))))))
        have hFr19 := hFl5.up eF19 (by simp <;> first | omega | (simp only [isC, isJ] at *; omega))
        refine lv_iinc (v := (nI (q15 + 1))) (lv' := [(1, .int (nI (q15 + 1))), (0, .ref (ad 58))]) S.1 S.2.1 dX8_keeps_77 hl5 (k := 0) rfl (nI_add _ 1) (by decide) rfl (fun ls20 hl20 => ?_)
        refine lv_goto (tgt := 51) S.1 S.2.1 dX8_keeps_80 (by decide) ?_
        have hF21 := (show F19 58 = Fl5 58 by rw [eF19]; exact va_up_ne _ _ (by decide)).trans hF6
        have hK22 := fN_of (k := 6) (a := kn6) hF21 rfl (by omega)
        exact ih5 (q15 + 1) F19 H19 locs19 (by omega) (by omega) (by omega) hW19 hFr19 hP19 hS19 ls20 (lv_sub hl20 [0, 1] rfl)
    have hK23 := fN_of (k := 6) (a := kn1) hF1 rfl (by omega)
    exact lp5 (7 - (0) + 1) (0) F s.heap [] (by omega) (by omega) (by omega) hW hFr hP hS ls4 (lv_sub hl4 [0, 1] rfl)
  have k24 := ci_eq (nI_toInt (n := kn1) (by omega)) (nI_toInt (n := 20) (by omega)) c2
  refine lv_iconst (v := (nI 0)) S.1 S.2.1 dX8_keeps_9 (by decide +kernel) ?_
  refine lv_istore_n (lv' := [(1, .int (nI 0)), (0, .ref (ad 58))]) S.1 S.2.1 dX8_keeps_10 rfl hl0 (by decide) rfl (fun ls25 hl25 => ?_)
  have lp26 : ∀ (n26 : Nat) (q126 : Nat), ∀ (Fl26 : Nat → va_E) (Hl26 : Heap) (lol26 : List Loc), q126 ≤ 133 → fN (Fl26 58) 6 = 20 → 133 - q126 < n26 → WT cA ad Fl26 → rFr [58, 63] F Fl26 → va_P D vwCl (rW ad Fl26) Hl26 → va_S (rA ad) s.heap Hl26 lol26 → ∀ (ls : Array Slot), lv_has ls 2 [(1, .int (nI q126)), (0, .ref (ad 58))] → W p l e { frames := 0, cells := 0, slots := 0, locals := 0 } s m args below meth c Hl26 lol26 0 0 Q (F0 m 11 ls []) := by
    intro n26
    induction n26 with
    | zero =>
      intro q126 Fl26 Hl26 lol26 iv26_0 ix26_kn hm26 hWl26 hFl26 hPl26 hSl26 ls26 hl26
      exact absurd hm26 (Nat.not_lt_zero _)
    | succ n26 ih26 =>
      intro q126 Fl26 Hl26 lol26 iv26_0 ix26_kn hm26 hWl26 hFl26 hPl26 hSl26 ls26 hl26
      obtain ⟨ty27, kn27, no27, en27, at27, sa27, sd27, wr27, pl27, va27, hF27, hb27_1, hb27_2, hb27_3, hb27_4, hb27_5, hb27_6⟩ := wt_m hWl26
      have hK28 := fN_of (k := 6) (a := kn27) hF27 rfl (by omega)
      refine lv_iload_n S.1 S.2.1 dX8_keeps_11 rfl (lv_at hl26 0 rfl) ?_
      refine lv_sipush (v := (nI 133)) S.1 S.2.1 dX8_keeps_12 (by decide +kernel) ?_
      refine lv_icmp_ge (tgt := 39) S.1 S.2.1 dX8_keeps_15 (by decide) (fun c29 => ?_) (fun c29 => ?_)
      · skip
        have k30 := ci_le (nI_toInt (n := 133) (by omega)) (nI_toInt (n := q126) (by omega)) c29
        refine lv_aload_n S.1 S.2.1 dX8_keeps_39 rfl (lv_at hl26 1 rfl) ?_
        refine lv_dup S.1 S.2.1 dX8_keeps_40 rfl ?_
        refine r_get S hK hPl26 58 (by decide) hF27 (C := RX8) (T := TX8) (N := 23) hiX8 rfl 6 (by decide) (by decide +kernel) (v := .int (nI kn27)) rfl dX8_keeps_41 ?_
        refine lv_iconst (v := (nI 1)) S.1 S.2.1 dX8_keeps_44 (by decide +kernel) ?_
        refine lv_isub S.1 S.2.1 dX8_keeps_45 ?_
        refine lv_topi (fun v31 e31 => ?_)
        obtain rfl : v31 = nI (kn27 - 1) := e31.trans (pk_sub (by omega))
        refine r_put S hI hK hPl26 hSl26 58 (by decide) hF27 (C := RX8) (T := TX8) (N := 23) hiX8 tyX8_ok nmX8 rfl 6 (by decide) (by decide +kernel) rfl rfl rfl (Nat.le_of_ble_eq_true rfl) dX8_keeps_46 (fun F32 H32 locs32 eF32 hP32 hS32 => ?_)
        have hF32 : F32 58 = .inr (8, [.ref (ad 59), .int (nI ty27), .ref (ad 60), .ref (ad 61), .ref (ad 62), .ref (ad 63), .int (nI (kn27 - 1)), .ref (ad 64), .ref (ad 65), .int sd27, .ref (ad 66), .int (nI no27), .ref (ad 67), .int (nI en27), .int (nI at27), .int wr27, .int pl27, .int va27, .int (nI sa27), .ref (ad 68), .ref (ad 69), .ref (ad 70), .ref (ad 71)]) := by rw [eF32]; exact va_up_self _ _ _
        have hW32 := hWl26.up eF32 (ok_m ⟨ty27, kn27 - 1, no27, en27, at27, sa27, sd27, wr27, pl27, va27, rfl, by omega, by omega, by omega, by omega, by omega, by omega⟩)
        have hFr32 := hFl26.up eF32 (by simp <;> first | omega | (simp only [isC, isJ] at *; omega))
        refine lv_iconst (v := (nI 0)) S.1 S.2.1 dX8_keeps_49 (by decide +kernel) ?_
        refine lv_istore_n (lv' := [(1, .int (nI 0)), (0, .ref (ad 58))]) S.1 S.2.1 dX8_keeps_50 rfl hl26 (by decide) rfl (fun ls33 hl33 => ?_)
        have lp34 : ∀ (n34 : Nat) (q134 : Nat), ∀ (Fl34 : Nat → va_E) (Hl34 : Heap) (lol34 : List Loc), q134 ≤ 7 → fN (Fl34 58) 6 < 20 → 7 - q134 < n34 → WT cA ad Fl34 → rFr [58, 63] F Fl34 → va_P D vwCl (rW ad Fl34) Hl34 → va_S (rA ad) s.heap Hl34 lol34 → ∀ (ls : Array Slot), lv_has ls 2 [(1, .int (nI q134)), (0, .ref (ad 58))] → W p l e { frames := 0, cells := 0, slots := 0, locals := 0 } s m args below meth c Hl34 lol34 0 0 Q (F0 m 51 ls []) := by
          intro n34
          induction n34 with
          | zero =>
            intro q134 Fl34 Hl34 lol34 iv34_0 ix34_kn hm34 hWl34 hFl34 hPl34 hSl34 ls34 hl34
            exact absurd hm34 (Nat.not_lt_zero _)
          | succ n34 ih34 =>
            intro q134 Fl34 Hl34 lol34 iv34_0 ix34_kn hm34 hWl34 hFl34 hPl34 hSl34 ls34 hl34
            obtain ⟨ty35, kn35, no35, en35, at35, sa35, sd35, wr35, pl35, va35, hF35, hb35_1, hb35_2, hb35_3, hb35_4, hb35_5, hb35_6⟩ := wt_m hWl34
            have hK36 := fN_of (k := 6) (a := kn35) hF35 rfl (by omega)
            refine lv_iload_n S.1 S.2.1 dX8_keeps_51 rfl (lv_at hl34 0 rfl) ?_
            refine lv_bipush (v := (nI 7)) S.1 S.2.1 dX8_keeps_52 (by decide +kernel) ?_
            refine lv_icmp_ge (tgt := 83) S.1 S.2.1 dX8_keeps_54 (by decide) (fun c37 => ?_) (fun c37 => ?_)
            · skip
              have k38 := ci_le (nI_toInt (n := 7) (by omega)) (nI_toInt (n := q134) (by omega)) c37
              refine lv_aload_n S.1 S.2.1 dX8_keeps_83 rfl (lv_at hl34 1 rfl) ?_
              refine lv_dup S.1 S.2.1 dX8_keeps_84 rfl ?_
              refine r_get S hK hPl34 58 (by decide) hF35 (C := RX8) (T := TX8) (N := 23) hiX8 rfl 6 (by decide) (by decide +kernel) (v := .int (nI kn35)) rfl dX8_keeps_85 ?_
              refine lv_iconst (v := (nI 1)) S.1 S.2.1 dX8_keeps_88 (by decide +kernel) ?_
              refine lv_iadd S.1 S.2.1 dX8_keeps_89 ?_
              refine lv_topi (fun v39 e39 => ?_)
              obtain rfl : v39 = nI (kn35 + 1) := e39.trans (nI_add _ _)
              refine r_put S hI hK hPl34 hSl34 58 (by decide) hF35 (C := RX8) (T := TX8) (N := 23) hiX8 tyX8_ok nmX8 rfl 6 (by decide) (by decide +kernel) rfl rfl rfl (Nat.le_of_ble_eq_true rfl) dX8_keeps_90 (fun F40 H40 locs40 eF40 hP40 hS40 => ?_)
              have hF40 : F40 58 = .inr (8, [.ref (ad 59), .int (nI ty35), .ref (ad 60), .ref (ad 61), .ref (ad 62), .ref (ad 63), .int (nI (kn35 + 1)), .ref (ad 64), .ref (ad 65), .int sd35, .ref (ad 66), .int (nI no35), .ref (ad 67), .int (nI en35), .int (nI at35), .int wr35, .int pl35, .int va35, .int (nI sa35), .ref (ad 68), .ref (ad 69), .ref (ad 70), .ref (ad 71)]) := by rw [eF40]; exact va_up_self _ _ _
              have hW40 := hWl34.up eF40 (ok_m ⟨ty35, kn35 + 1, no35, en35, at35, sa35, sd35, wr35, pl35, va35, rfl, by omega, by omega, by omega, by omega, by omega, by omega⟩)
              have hFr40 := hFl34.up eF40 (by simp <;> first | omega | (simp only [isC, isJ] at *; omega))
              exact hret 93 _ _ _ _ dX8_keeps_93 hP40 hS40 ⟨hW40, hFr40, trivial⟩
            have k41 := ci_nle (nI_toInt (n := 7) (by omega)) (nI_toInt (n := q134) (by omega)) c37
            refine lv_aload_n S.1 S.2.1 dX8_keeps_57 rfl (lv_at hl34 1 rfl) ?_
            refine r_get S hK hPl34 58 (by decide) hF35 (C := RX8) (T := TX8) (N := 23) hiX8 rfl 5 (by decide) (by decide +kernel) (v := .ref (ad 63)) rfl dX8_keeps_58 ?_
            refine lv_bipush (v := (nI 7)) S.1 S.2.1 dX8_keeps_61 (by decide +kernel) ?_
            refine lv_aload_n S.1 S.2.1 dX8_keeps_63 rfl (lv_at hl34 1 rfl) ?_
            refine r_get S hK hPl34 58 (by decide) hF35 (C := RX8) (T := TX8) (N := 23) hiX8 rfl 6 (by decide) (by decide +kernel) (v := .int (nI kn35)) rfl dX8_keeps_64 ?_
            refine lv_imul S.1 S.2.1 dX8_keeps_67 ?_
            refine lv_topi (fun v42 e42 => ?_)
            obtain rfl : v42 = nI (7 * kn35) := e42.trans (pk_mul _ _)
            refine lv_iload_n S.1 S.2.1 dX8_keeps_68 rfl (lv_at hl34 0 rfl) ?_
            refine lv_iadd S.1 S.2.1 dX8_keeps_69 ?_
            refine lv_topi (fun v43 e43 => ?_)
            obtain rfl : v43 = nI ((7 * kn35) + q134) := e43.trans (nI_add _ _)
            refine lv_aload_n S.1 S.2.1 dX8_keeps_70 rfl (lv_at hl34 1 rfl) ?_
            refine r_get S hK hPl34 58 (by decide) hF35 (C := RX8) (T := TX8) (N := 23) hiX8 rfl 4 (by decide) (by decide +kernel) (v := .ref (ad 62)) rfl dX8_keeps_71 ?_
            refine lv_iload_n S.1 S.2.1 dX8_keeps_74 rfl (lv_at hl34 0 rfl) ?_
            obtain ⟨g44, hF44, hg44⟩ := wt_I hWl34 (show (62, 7) ∈ rLI by decide)
            refine r_iald S hK hPl34 62 (by decide) hF44 (vp_in_nI (show q134 < 7 by omega) (by omega)) dX8_keeps_75 ?_
            refine lv_topi (fun v46 e46 => ?_)
            obtain ⟨g47, hF47, hg47⟩ := wt_I hWl34 (show (63, 140) ∈ rLI by decide)
            refine r_iast S hI hK hPl34 hSl34 63 (by decide) hF47 (vp_in_nI (show (7 * kn35) + q134 < 140 by omega) (by omega)) dX8_keeps_76 (fun F48 H48 locs48 eF48 hP48 hS48 => ?_)
            have hW48 := hWl34.up eF48 (ok_I (show (63, 140) ∈ rLI by decide) (okI_up hg47 (by rw [nI_clamp (by omega)]; apply to_S7; rw [e46, nI_clamp (by omega)]; exact okS_cg (by omega) (pr_S (hg44 (q134) (by omega))))))
            have hFr48 := hFl34.up eF48 (by simp <;> first | omega | (simp only [isC, isJ] at *; omega))
            refine lv_iinc (v := (nI (q134 + 1))) (lv' := [(1, .int (nI (q134 + 1))), (0, .ref (ad 58))]) S.1 S.2.1 dX8_keeps_77 hl34 (k := 0) rfl (nI_add _ 1) (by decide) rfl (fun ls49 hl49 => ?_)
            refine lv_goto (tgt := 51) S.1 S.2.1 dX8_keeps_80 (by decide) ?_
            have hF50 := (show F48 58 = Fl34 58 by rw [eF48]; exact va_up_ne _ _ (by decide)).trans hF35
            have hK51 := fN_of (k := 6) (a := kn35) hF50 rfl (by omega)
            exact ih34 (q134 + 1) F48 H48 locs48 (by omega) (by omega) (by omega) hW48 hFr48 hP48 hS48 ls49 (lv_sub hl49 [0, 1] rfl)
        have hK52 := fN_of (k := 6) (a := kn27 - 1) hF32 rfl (by omega)
        exact lp34 (7 - (0) + 1) (0) F32 H32 locs32 (by omega) (by omega) (by omega) hW32 hFr32 hP32 hS32 ls33 (lv_sub hl33 [0, 1] rfl)
      have k53 := ci_nle (nI_toInt (n := 133) (by omega)) (nI_toInt (n := q126) (by omega)) c29
      refine lv_aload_n S.1 S.2.1 dX8_keeps_18 rfl (lv_at hl26 1 rfl) ?_
      refine r_get S hK hPl26 58 (by decide) hF27 (C := RX8) (T := TX8) (N := 23) hiX8 rfl 5 (by decide) (by decide +kernel) (v := .ref (ad 63)) rfl dX8_keeps_19 ?_
      refine lv_iload_n S.1 S.2.1 dX8_keeps_22 rfl (lv_at hl26 0 rfl) ?_
      refine lv_aload_n S.1 S.2.1 dX8_keeps_23 rfl (lv_at hl26 1 rfl) ?_
      refine r_get S hK hPl26 58 (by decide) hF27 (C := RX8) (T := TX8) (N := 23) hiX8 rfl 5 (by decide) (by decide +kernel) (v := .ref (ad 63)) rfl dX8_keeps_24 ?_
      refine lv_iload_n S.1 S.2.1 dX8_keeps_27 rfl (lv_at hl26 0 rfl) ?_
      refine lv_bipush (v := (nI 7)) S.1 S.2.1 dX8_keeps_28 (by decide +kernel) ?_
      refine lv_iadd S.1 S.2.1 dX8_keeps_30 ?_
      refine lv_topi (fun v54 e54 => ?_)
      obtain rfl : v54 = nI (q126 + 7) := e54.trans (nI_add _ _)
      obtain ⟨g55, hF55, hg55⟩ := wt_I hWl26 (show (63, 140) ∈ rLI by decide)
      refine r_iald S hK hPl26 63 (by decide) hF55 (vp_in_nI (show q126 + 7 < 140 by omega) (by omega)) dX8_keeps_31 ?_
      refine lv_topi (fun v57 e57 => ?_)
      refine r_iast S hI hK hPl26 hSl26 63 (by decide) hF55 (vp_in_nI (show q126 < 140 by omega) (by omega)) dX8_keeps_32 (fun F58 H58 locs58 eF58 hP58 hS58 => ?_)
      have hW58 := hWl26.up eF58 (ok_I (show (63, 140) ∈ rLI by decide) (okI_up hg55 (by rw [nI_clamp (by omega)]; apply to_S7; rw [e57, nI_clamp (by omega)]; exact okS_cg (by omega) (pr_S7 (hg55 (q126 + 7) (by omega))))))
      have hFr58 := hFl26.up eF58 (by simp <;> first | omega | (simp only [isC, isJ] at *; omega))
      refine lv_iinc (v := (nI (q126 + 1))) (lv' := [(1, .int (nI (q126 + 1))), (0, .ref (ad 58))]) S.1 S.2.1 dX8_keeps_33 hl26 (k := 0) rfl (nI_add _ 1) (by decide) rfl (fun ls59 hl59 => ?_)
      refine lv_goto (tgt := 11) S.1 S.2.1 dX8_keeps_36 (by decide) ?_
      have hF60 := (show F58 58 = Fl26 58 by rw [eF58]; exact va_up_ne _ _ (by decide)).trans hF27
      have hK61 := fN_of (k := 6) (a := kn27) hF60 rfl (by omega)
      exact ih26 (q126 + 1) F58 H58 locs58 (by omega) (by omega) (by omega) hW58 hFr58 hP58 hS58 ls59 (lv_sub hl59 [0, 1] rfl)
  have hK62 := fN_of (k := 6) (a := kn1) hF1 rfl (by omega)
  exact lp26 (133 - (0) + 1) (0) F s.heap [] (by omega) (by omega) (by omega) hW hFr hP hS ls25 (lv_sub hl25 [0, 1] rfl)
set_option maxHeartbeats 4000000 in
set_option maxRecDepth 100000 in
theorem c_X8_hasWork (l : Launch) (D : va_G) (cA ad : Nat → Nat) (t : Nat) (hI : rI ad) (F : Nat → va_E) (hW : WT cA ad F) (p1 : Int32) (p2 : Int32) (ht1 : -1 ≤ p1.toInt ∧ p1.toInt ≤ 39) : MP l D cA ad t yX8_hasWork wsX8_hasWork { frames := 0, cells := 0, slots := 0, locals := 0 } [.ref (ad 58), .int p1, .int p2] F (fun r => le32 1 r) := by
  refine en_P rfl (by decide +kernel) (Nat.le_of_ble_eq_true rfl) ?_
  intro p e s m args below meth c ls0 Q S hK hZ hP hS hl0 hret
  have hl0 : lv_has ls0 3 [(0, .ref (ad 58)), (1, .int p1), (2, .int p2)] := hl0
  have hiX8 : ∀ w ∈ u_ws RX8 TX8 23, w ∈ wsX8_hasWork := by decide +kernel
  refine lv_aload_n S.1 S.2.1 dX8_hasWork_0 rfl (lv_at hl0 0 rfl) ?_
  obtain ⟨ty1, kn1, no1, en1, at1, sa1, sd1, wr1, pl1, va1, hF1, hb1_1, hb1_2, hb1_3, hb1_4, hb1_5, hb1_6⟩ := wt_m hW
  refine r_get S hK hP 58 (by decide) hF1 (C := RX8) (T := TX8) (N := 23) hiX8 rfl 2 (by decide) (by decide +kernel) (v := .ref (ad 60)) rfl dX8_hasWork_1 ?_
  refine lv_bipush (v := (nI 12)) S.1 S.2.1 dX8_hasWork_4 (by decide +kernel) ?_
  refine lv_iload_n S.1 S.2.1 dX8_hasWork_6 rfl (lv_at hl0 1 rfl) ?_
  refine lv_iadd S.1 S.2.1 dX8_hasWork_7 ?_
  refine lv_topi (fun v2 e2 => ?_)
  have kz3 := nI_toInt (n := 12) (by omega)
  have kt2 := ti_add e2 (by omega) (by omega)
  obtain ⟨g4, hF4, hg4⟩ := wt_I hW (show (60, 52) ∈ rLI by decide)
  refine r_iald S hK hP 60 (by decide) hF4 (in_of (n := 52) (a := v2.toInt) rfl (by omega) (by omega)) dX8_hasWork_8 ?_
  refine lv_topi (fun v6 e6 => ?_)
  refine lv_aload_n S.1 S.2.1 dX8_hasWork_9 rfl (lv_at hl0 0 rfl) ?_
  refine r_get S hK hP 58 (by decide) hF1 (C := RX8) (T := TX8) (N := 23) hiX8 rfl 2 (by decide) (by decide +kernel) (v := .ref (ad 60)) rfl dX8_hasWork_10 ?_
  refine lv_iconst (v := (nI 1)) S.1 S.2.1 dX8_hasWork_13 (by decide +kernel) ?_
  refine r_iald S hK hP 60 (by decide) hF4 (vp_in_nI (show 1 < 52 by omega) (by omega)) dX8_hasWork_14 ?_
  refine lv_topi (fun v8 e8 => ?_)
  refine lv_iload_n S.1 S.2.1 dX8_hasWork_15 rfl (lv_at hl0 2 rfl) ?_
  refine lv_iadd S.1 S.2.1 dX8_hasWork_16 ?_
  refine lv_topi (fun v9 e9 => ?_)
  refine lv_bipush (v := (nI 12)) S.1 S.2.1 dX8_hasWork_17 (by decide +kernel) ?_
  refine lv_irem S.1 S.2.1 dX8_hasWork_19 (by decide +kernel) ?_
  refine lv_topi (fun v10 e10 => ?_)
  refine lv_ishr S.1 S.2.1 dX8_hasWork_20 ?_
  refine lv_topi (fun v11 e11 => ?_)
  refine lv_iconst (v := (nI 1)) S.1 S.2.1 dX8_hasWork_21 (by decide +kernel) ?_
  refine lv_iand S.1 S.2.1 dX8_hasWork_22 ?_
  refine lv_topi (fun v12 e12 => ?_)
  refine lv_iconst (v := (nI 1)) S.1 S.2.1 dX8_hasWork_23 (by decide +kernel) ?_
  refine lv_icmp_ne (tgt := 31) S.1 S.2.1 dX8_hasWork_24 (by decide) (fun c13 => ?_) (fun c13 => ?_)
  · skip
    have k14 := ci_ne rfl (nI_toInt (n := 1) (by omega)) c13
    refine lv_iconst (v := (nI 0)) S.1 S.2.1 dX8_hasWork_31 (by decide +kernel) ?_
    exact hret 32 _ _ dX8_hasWork_32 rfl (⟨0, by omega, rfl⟩)
  have k15 := ci_eq rfl (nI_toInt (n := 1) (by omega)) c13
  refine lv_iconst (v := (nI 1)) S.1 S.2.1 dX8_hasWork_27 (by decide +kernel) ?_
  refine lv_goto (tgt := 32) S.1 S.2.1 dX8_hasWork_28 (by decide) ?_
  exact hret 32 _ _ dX8_hasWork_32 rfl (⟨1, by omega, rfl⟩)
set_option maxHeartbeats 4000000 in
set_option maxRecDepth 100000 in
theorem c_X8_goesOn (l : Launch) (D : va_G) (cA ad : Nat → Nat) (t : Nat) (hI : rI ad) (F : Nat → va_E) (hW : WT cA ad F) : MP l D cA ad t yX8_goesOn wsX8_goesOn { frames := 0, cells := 0, slots := 0, locals := 0 } [.ref (ad 58)] F (fun r => le32 1 r) := by
  refine en_P rfl (by decide +kernel) (Nat.le_of_ble_eq_true rfl) ?_
  intro p e s m args below meth c ls0 Q S hK hZ hP hS hl0 hret
  have hl0 : lv_has ls0 1 [(0, .ref (ad 58))] := hl0
  have hiX8 : ∀ w ∈ u_ws RX8 TX8 23, w ∈ wsX8_goesOn := by decide +kernel
  refine lv_aload_n S.1 S.2.1 dX8_goesOn_0 rfl (lv_at hl0 0 rfl) ?_
  obtain ⟨ty1, kn1, no1, en1, at1, sa1, sd1, wr1, pl1, va1, hF1, hb1_1, hb1_2, hb1_3, hb1_4, hb1_5, hb1_6⟩ := wt_m hW
  refine r_get S hK hP 58 (by decide) hF1 (C := RX8) (T := TX8) (N := 23) hiX8 rfl 2 (by decide) (by decide +kernel) (v := .ref (ad 60)) rfl dX8_goesOn_1 ?_
  refine lv_iconst (v := (nI 2)) S.1 S.2.1 dX8_goesOn_4 (by decide +kernel) ?_
  obtain ⟨g2, hF2, hg2⟩ := wt_I hW (show (60, 52) ∈ rLI by decide)
  refine r_iald S hK hP 60 (by decide) hF2 (vp_in_nI (show 2 < 52 by omega) (by omega)) dX8_goesOn_5 ?_
  refine lv_topi (fun v4 e4 => ?_)
  obtain ⟨b5, hb5, he5⟩ := (pr_T (by decide) (hg2 2 (by decide))).2.1 rfl
  obtain rfl : v4 = nI b5 := e4.trans he5
  refine lv_if_le (tgt := 23) S.1 S.2.1 dX8_goesOn_6 (by decide) (fun c6 => ?_) (fun c6 => ?_)
  · skip
    have k7 := ci_le (nI_toInt (n := b5) (by omega)) z_ti c6
    refine lv_iconst (v := (nI 0)) S.1 S.2.1 dX8_goesOn_23 (by decide +kernel) ?_
    exact hret 24 _ _ dX8_goesOn_24 rfl (⟨0, by omega, rfl⟩)
  have k8 := ci_nle (nI_toInt (n := b5) (by omega)) z_ti c6
  refine lv_aload_n S.1 S.2.1 dX8_goesOn_9 rfl (lv_at hl0 0 rfl) ?_
  refine r_get S hK hP 58 (by decide) hF1 (C := RX8) (T := TX8) (N := 23) hiX8 rfl 4 (by decide) (by decide +kernel) (v := .ref (ad 62)) rfl dX8_goesOn_10 ?_
  refine lv_bipush (v := (nI 6)) S.1 S.2.1 dX8_goesOn_13 (by decide +kernel) ?_
  obtain ⟨g9, hF9, hg9⟩ := wt_I hW (show (62, 7) ∈ rLI by decide)
  refine r_iald S hK hP 62 (by decide) hF9 (vp_in_nI (show 6 < 7 by omega) (by omega)) dX8_goesOn_15 ?_
  refine lv_topi (fun v11 e11 => ?_)
  refine lv_if_ne (tgt := 23) S.1 S.2.1 dX8_goesOn_16 (by decide) (fun c12 => ?_) (fun c12 => ?_)
  · skip
    have k13 := ci_ne rfl z_ti c12
    refine lv_iconst (v := (nI 0)) S.1 S.2.1 dX8_goesOn_23 (by decide +kernel) ?_
    exact hret 24 _ _ dX8_goesOn_24 rfl (⟨0, by omega, rfl⟩)
  have k14 := ci_eq rfl z_ti c12
  refine lv_iconst (v := (nI 1)) S.1 S.2.1 dX8_goesOn_19 (by decide +kernel) ?_
  refine lv_goto (tgt := 24) S.1 S.2.1 dX8_goesOn_20 (by decide) ?_
  exact hret 24 _ _ dX8_goesOn_24 rfl (⟨1, by omega, rfl⟩)
set_option maxHeartbeats 4000000 in
set_option maxRecDepth 100000 in
theorem c_X8_mayStay (l : Launch) (D : va_G) (cA ad : Nat → Nat) (t : Nat) (hI : rI ad) (F : Nat → va_E) (hW : WT cA ad F) : MP l D cA ad t yX8_mayStay wsX8_mayStay { frames := 0, cells := 0, slots := 0, locals := 0 } [.ref (ad 58)] F (fun r => le32 1 r ∧ (r ≠ 0 → aN (F 62) 2 < aN (F 60) 0)) := by
  refine en_P rfl (by decide +kernel) (Nat.le_of_ble_eq_true rfl) ?_
  intro p e s m args below meth c ls0 Q S hK hZ hP hS hl0 hret
  have hl0 : lv_has ls0 1 [(0, .ref (ad 58))] := hl0
  have hiX8 : ∀ w ∈ u_ws RX8 TX8 23, w ∈ wsX8_mayStay := by decide +kernel
  refine lv_aload_n S.1 S.2.1 dX8_mayStay_0 rfl (lv_at hl0 0 rfl) ?_
  obtain ⟨ty1, kn1, no1, en1, at1, sa1, sd1, wr1, pl1, va1, hF1, hb1_1, hb1_2, hb1_3, hb1_4, hb1_5, hb1_6⟩ := wt_m hW
  refine r_get S hK hP 58 (by decide) hF1 (C := RX8) (T := TX8) (N := 23) hiX8 rfl 4 (by decide) (by decide +kernel) (v := .ref (ad 62)) rfl dX8_mayStay_1 ?_
  refine lv_iconst (v := (nI 2)) S.1 S.2.1 dX8_mayStay_4 (by decide +kernel) ?_
  obtain ⟨g2, hF2, hg2⟩ := wt_I hW (show (62, 7) ∈ rLI by decide)
  refine r_iald S hK hP 62 (by decide) hF2 (vp_in_nI (show 2 < 7 by omega) (by omega)) dX8_mayStay_5 ?_
  refine lv_topi (fun v4 e4 => ?_)
  obtain ⟨b5, hb5, he5⟩ := (pr_S (hg2 2 (by decide))).2.1 rfl
  obtain rfl : v4 = nI b5 := e4.trans he5
  refine lv_aload_n S.1 S.2.1 dX8_mayStay_6 rfl (lv_at hl0 0 rfl) ?_
  refine r_get S hK hP 58 (by decide) hF1 (C := RX8) (T := TX8) (N := 23) hiX8 rfl 2 (by decide) (by decide +kernel) (v := .ref (ad 60)) rfl dX8_mayStay_7 ?_
  refine lv_iconst (v := (nI 0)) S.1 S.2.1 dX8_mayStay_10 (by decide +kernel) ?_
  obtain ⟨g6, hF6, hg6⟩ := wt_I hW (show (60, 52) ∈ rLI by decide)
  refine r_iald S hK hP 60 (by decide) hF6 (vp_in_nI (show 0 < 52 by omega) (by omega)) dX8_mayStay_11 ?_
  refine lv_topi (fun v8 e8 => ?_)
  obtain ⟨b9, hb9, he9⟩ := (pr_T (by decide) (hg6 0 (by decide))).1 rfl
  obtain rfl : v8 = nI b9 := e8.trans he9
  refine lv_icmp_ge (tgt := 19) S.1 S.2.1 dX8_mayStay_12 (by decide) (fun c10 => ?_) (fun c10 => ?_)
  · skip
    have k11 := ci_le (nI_toInt (n := b9) (by omega)) (nI_toInt (n := b5) (by omega)) c10
    refine lv_iconst (v := (nI 0)) S.1 S.2.1 dX8_mayStay_19 (by decide +kernel) ?_
    have hN12 := aN_of (j := 2) hF2 he5 (by omega)
    have hN13 := aN_of (j := 0) hF6 he9 (by omega)
    exact hret 20 _ _ dX8_mayStay_20 rfl (⟨⟨0, by omega, rfl⟩, fun h => absurd rfl h⟩)
  have k14 := ci_nle (nI_toInt (n := b9) (by omega)) (nI_toInt (n := b5) (by omega)) c10
  refine lv_iconst (v := (nI 1)) S.1 S.2.1 dX8_mayStay_15 (by decide +kernel) ?_
  refine lv_goto (tgt := 20) S.1 S.2.1 dX8_mayStay_16 (by decide) ?_
  have hN15 := aN_of (j := 2) hF2 he5 (by omega)
  have hN16 := aN_of (j := 0) hF6 he9 (by omega)
  exact hret 20 _ _ dX8_mayStay_20 rfl (⟨⟨1, by omega, rfl⟩, fun _ => by omega⟩)
set_option maxHeartbeats 4000000 in
set_option maxRecDepth 100000 in
theorem c_X8_stays (l : Launch) (D : va_G) (cA ad : Nat → Nat) (t : Nat) (hI : rI ad) (F : Nat → va_E) (hW : WT cA ad F) (hst : aN (F 62) 2 < aN (F 60) 0) : MI l D cA ad t yX8_stays wsX8_stays { frames := 1, cells := 0, slots := 0, locals := 22 } [.ref (ad 58)] F (fun r F' => WT cA ad F' ∧ rFr [62] F F' ∧ (True)) := by
  refine en_I rfl (by decide +kernel) (Nat.le_of_ble_eq_true rfl) ?_
  intro p e s m args below meth c ls0 Q S hK hZ hP hS hl0 hret
  have hl0 : lv_has ls0 3 [(0, .ref (ad 58))] := hl0
  have hFr : rFr [62] F F := rFr.rf
  have hiX8 : ∀ w ∈ u_ws RX8 TX8 23, w ∈ wsX8_stays := by decide +kernel
  obtain ⟨g1, hF1, hg1⟩ := wt_I hW (show (62, 7) ∈ rLI by decide)
  obtain ⟨b2, hb2, he2⟩ := (pr_S (hg1 2 (by decide))).2.1 rfl
  have hN3 := aN_of (j := 2) hF1 he2 (by omega)
  obtain ⟨g4, hF4, hg4⟩ := wt_I hW (show (60, 52) ∈ rLI by decide)
  obtain ⟨b5, hb5, he5⟩ := (pr_T (by decide) (hg4 0 (by decide))).1 rfl
  have hN6 := aN_of (j := 0) hF4 he5 (by omega)
  refine lv_aload_n S.1 S.2.1 dX8_stays_0 rfl (lv_at hl0 0 rfl) ?_
  obtain ⟨ty7, kn7, no7, en7, at7, sa7, sd7, wr7, pl7, va7, hF7, hb7_1, hb7_2, hb7_3, hb7_4, hb7_5, hb7_6⟩ := wt_m hW
  refine r_get S hK hP 58 (by decide) hF7 (C := RX8) (T := TX8) (N := 23) hiX8 rfl 4 (by decide) (by decide +kernel) (v := .ref (ad 62)) rfl dX8_stays_1 ?_
  refine lv_iconst (v := (nI 0)) S.1 S.2.1 dX8_stays_4 (by decide +kernel) ?_
  refine r_iald S hK hP 62 (by decide) hF1 (vp_in_nI (show 0 < 7 by omega) (by omega)) dX8_stays_5 ?_
  refine lv_topi (fun v9 e9 => ?_)
  obtain ⟨b10, hb10, he10⟩ := (pr_S (hg1 0 (by decide))).1 rfl
  obtain rfl : v9 = nI b10 := e9.trans he10
  refine lv_istore_n (lv' := [(1, .int (nI b10)), (0, .ref (ad 58))]) S.1 S.2.1 dX8_stays_6 rfl hl0 (by decide) rfl (fun ls11 hl11 => ?_)
  refine lv_aload_n S.1 S.2.1 dX8_stays_7 rfl (lv_at hl11 1 rfl) ?_
  refine lv_iload_n S.1 S.2.1 dX8_stays_8 rfl (lv_at hl11 0 rfl) ?_
  refine lv_aload_n S.1 S.2.1 dX8_stays_9 rfl (lv_at hl11 1 rfl) ?_
  refine r_get S hK hP 58 (by decide) hF7 (C := RX8) (T := TX8) (N := 23) hiX8 rfl 4 (by decide) (by decide +kernel) (v := .ref (ad 62)) rfl dX8_stays_10 ?_
  refine lv_iconst (v := (nI 1)) S.1 S.2.1 dX8_stays_13 (by decide +kernel) ?_
  refine r_iald S hK hP 62 (by decide) hF1 (vp_in_nI (show 1 < 7 by omega) (by omega)) dX8_stays_14 ?_
  refine lv_topi (fun v13 e13 => ?_)
  have ta15 : ((nI b10) : Int32).toInt = ((b10 : Nat) : Int) := (nI_toInt (n := b10) (by omega))
  refine r_cVp (As := [.int (nI b10), .int v13]) (rest := []) S hK hZ hP hS hl11.1 58 (by decide) hF7 (C := RX8) rfl (c_X8_hasWork l D cA ad t hI F hW (nI b10) v13 (by omega)) (cwV 2 S.2.2.2.2 gX8_stays_X8_hasWork rfl rfl rfl (by decide +kernel) ⟨Nat.le_of_ble_eq_true rfl, Nat.le_of_ble_eq_true rfl⟩) rfl rfl (Nat.le_of_ble_eq_true rfl) ⟨Nat.zero_le _, Nat.zero_le _⟩ dX8_stays_15 (fun r14 hr14 => ?_)
  obtain ⟨b16, hb16, rfl⟩ := hr14
  refine lv_istore_n (lv' := [(2, .int (nI b16)), (1, .int (nI b10)), (0, .ref (ad 58))]) S.1 S.2.1 dX8_stays_18 rfl hl11 (by decide) rfl (fun ls17 hl17 => ?_)
  refine lv_aload_n S.1 S.2.1 dX8_stays_19 rfl (lv_at hl17 2 rfl) ?_
  refine r_get S hK hP 58 (by decide) hF7 (C := RX8) (T := TX8) (N := 23) hiX8 rfl 4 (by decide) (by decide +kernel) (v := .ref (ad 62)) rfl dX8_stays_20 ?_
  refine lv_iconst (v := (nI 3)) S.1 S.2.1 dX8_stays_23 (by decide +kernel) ?_
  refine lv_dup2_11 S.1 S.2.1 dX8_stays_24 rfl rfl ?_
  refine r_iald S hK hP 62 (by decide) hF1 (vp_in_nI (show 3 < 7 by omega) (by omega)) dX8_stays_25 ?_
  refine lv_topi (fun v19 e19 => ?_)
  refine lv_iload_n S.1 S.2.1 dX8_stays_26 rfl (lv_at hl17 0 rfl) ?_
  refine lv_if_eq (tgt := 42) S.1 S.2.1 dX8_stays_27 (by decide) (fun c20 => ?_) (fun c20 => ?_)
  · skip
    have k21 := ci_eq (nI_toInt (n := b16) (by omega)) z_ti c20
    refine lv_iconst (v := (nI 0)) S.1 S.2.1 dX8_stays_42 (by decide +kernel) ?_
    refine lv_iadd S.1 S.2.1 dX8_stays_43 ?_
    refine lv_topi (fun v22 e22 => ?_)
    refine r_iast S hI hK hP hS 62 (by decide) hF1 (vp_in_nI (show 3 < 7 by omega) (by omega)) dX8_stays_44 (fun F23 H23 locs23 eF23 hP23 hS23 => ?_)
    have hW23 := hW.up eF23 (ok_I (show (62, 7) ∈ rLI by decide) (okI_up hg1 (by rw [nI_clamp (by omega)]; exact to_S (okS_o (by decide) (by decide) (by decide)))))
    have hFr23 := hFr.up eF23 (by simp <;> first | omega | (simp only [isC, isJ] at *; omega))
    obtain ⟨gg23, eg23⟩ : ∃ g9, g9 = upd g1 (nI 3).toNatClampNeg v22 := ⟨_, rfl⟩
    have hF23 : F23 62 = .inl (cA 0, 7, .inl gg23) := by rw [eF23, eg23]; exact va_up_self _ _ _
    have hg23 : ∀ j, j < 7 → rPr 62 j (gg23 j) := by rw [eg23]; exact pr_up hg1 (by rw [nI_clamp (by omega)]; exact to_S (okS_o (by decide) (by decide) (by decide)))
    have he24 : gg23 2 = nI b2 := by rw [eg23, pk_un (by rw [nI_clamp (by omega)]; omega)]; exact he2
    have he25 : gg23 0 = nI b10 := by rw [eg23, pk_un (by rw [nI_clamp (by omega)]; omega)]; exact he10
    refine lv_aload_n S.1 S.2.1 dX8_stays_45 rfl (lv_at hl17 2 rfl) ?_
    have hF26 := (show F23 58 = F 58 by rw [eF23]; exact va_up_ne _ _ (by decide)).trans hF7
    refine r_get S hK hP23 58 (by decide) hF26 (C := RX8) (T := TX8) (N := 23) hiX8 rfl 4 (by decide) (by decide +kernel) (v := .ref (ad 62)) rfl dX8_stays_46 ?_
    refine lv_iconst (v := (nI 4)) S.1 S.2.1 dX8_stays_49 (by decide +kernel) ?_
    refine lv_dup2_11 S.1 S.2.1 dX8_stays_50 rfl rfl ?_
    refine r_iald S hK hP23 62 (by decide) hF23 (vp_in_nI (show 4 < 7 by omega) (by omega)) dX8_stays_51 ?_
    refine lv_topi (fun v28 e28 => ?_)
    obtain ⟨b29, hb29, he29⟩ := (pr_S (hg23 4 (by decide))).2.2 rfl
    obtain rfl : v28 = nI b29 := e28.trans he29
    refine lv_iload_n S.1 S.2.1 dX8_stays_52 rfl (lv_at hl17 0 rfl) ?_
    refine lv_if_eq (tgt := 62) S.1 S.2.1 dX8_stays_53 (by decide) (fun c30 => ?_) (fun c30 => absurd c20 c30)
    have k31 := ci_eq (nI_toInt (n := b16) (by omega)) z_ti c30
    refine lv_iconst (v := (nI 0)) S.1 S.2.1 dX8_stays_62 (by decide +kernel) ?_
    refine lv_ior S.1 S.2.1 dX8_stays_63 ?_
    refine lv_topi (fun v32 e32 => ?_)
    obtain rfl : v32 = nI b29 := e32.trans or_z
    refine r_iast S hI hK hP23 hS23 62 (by decide) hF23 (vp_in_nI (show 4 < 7 by omega) (by omega)) dX8_stays_64 (fun F34 H34 locs34 eF34 hP34 hS34 => ?_)
    have hW34 := hW23.up eF34 (ok_I (show (62, 7) ∈ rLI by decide) (okI_up hg23 (by rw [nI_clamp (by omega)]; exact to_S (okS_4 ⟨b29, by omega, rfl⟩))))
    have hFr34 := hFr23.up eF34 (by simp <;> first | omega | (simp only [isC, isJ] at *; omega))
    obtain ⟨gg34, eg34⟩ : ∃ g9, g9 = upd gg23 (nI 4).toNatClampNeg (nI b29) := ⟨_, rfl⟩
    have hF34 : F34 62 = .inl (cA 0, 7, .inl gg34) := by rw [eF34, eg34]; exact va_up_self _ _ _
    have hg34 : ∀ j, j < 7 → rPr 62 j (gg34 j) := by rw [eg34]; exact pr_up hg23 (by rw [nI_clamp (by omega)]; exact to_S (okS_4 ⟨b29, by omega, rfl⟩))
    have he35 : gg34 2 = nI b2 := by rw [eg34, pk_un (by rw [nI_clamp (by omega)]; omega)]; exact he24
    have he36 : gg34 0 = nI b10 := by rw [eg34, pk_un (by rw [nI_clamp (by omega)]; omega)]; exact he25
    refine lv_aload_n S.1 S.2.1 dX8_stays_65 rfl (lv_at hl17 2 rfl) ?_
    have hF37 := (show F34 58 = F23 58 by rw [eF34]; exact va_up_ne _ _ (by decide)).trans hF26
    refine r_get S hK hP34 58 (by decide) hF37 (C := RX8) (T := TX8) (N := 23) hiX8 rfl 4 (by decide) (by decide +kernel) (v := .ref (ad 62)) rfl dX8_stays_66 ?_
    refine lv_iconst (v := (nI 2)) S.1 S.2.1 dX8_stays_69 (by decide +kernel) ?_
    refine lv_dup2_11 S.1 S.2.1 dX8_stays_70 rfl rfl ?_
    refine r_iald S hK hP34 62 (by decide) hF34 (vp_in_nI (show 2 < 7 by omega) (by omega)) dX8_stays_71 ?_
    refine lv_topi (fun v39 e39 => ?_)
    obtain rfl : v39 = nI b2 := e39.trans he35
    refine lv_iconst (v := (nI 1)) S.1 S.2.1 dX8_stays_72 (by decide +kernel) ?_
    refine lv_iadd S.1 S.2.1 dX8_stays_73 ?_
    refine lv_topi (fun v40 e40 => ?_)
    obtain rfl : v40 = nI (b2 + 1) := e40.trans (nI_add _ _)
    refine r_iast S hI hK hP34 hS34 62 (by decide) hF34 (vp_in_nI (show 2 < 7 by omega) (by omega)) dX8_stays_74 (fun F41 H41 locs41 eF41 hP41 hS41 => ?_)
    have hW41 := hW34.up eF41 (ok_I (show (62, 7) ∈ rLI by decide) (okI_up hg34 (by rw [nI_clamp (by omega)]; exact to_S (okS_2 ⟨b2 + 1, by omega, rfl⟩))))
    have hFr41 := hFr34.up eF41 (by simp <;> first | omega | (simp only [isC, isJ] at *; omega))
    obtain ⟨gg41, eg41⟩ : ∃ g9, g9 = upd gg34 (nI 2).toNatClampNeg (nI (b2 + 1)) := ⟨_, rfl⟩
    have hF41 : F41 62 = .inl (cA 0, 7, .inl gg41) := by rw [eF41, eg41]; exact va_up_self _ _ _
    have hg41 : ∀ j, j < 7 → rPr 62 j (gg41 j) := by rw [eg41]; exact pr_up hg34 (by rw [nI_clamp (by omega)]; exact to_S (okS_2 ⟨b2 + 1, by omega, rfl⟩))
    have he42 : gg41 0 = nI b10 := by rw [eg41, pk_un (by rw [nI_clamp (by omega)]; omega)]; exact he36
    refine lv_aload_n S.1 S.2.1 dX8_stays_75 rfl (lv_at hl17 2 rfl) ?_
    have hF43 := (show F41 58 = F34 58 by rw [eF41]; exact va_up_ne _ _ (by decide)).trans hF37
    refine r_get S hK hP41 58 (by decide) hF43 (C := RX8) (T := TX8) (N := 23) hiX8 rfl 4 (by decide) (by decide +kernel) (v := .ref (ad 62)) rfl dX8_stays_76 ?_
    refine lv_iconst (v := (nI 1)) S.1 S.2.1 dX8_stays_79 (by decide +kernel) ?_
    refine lv_dup2_11 S.1 S.2.1 dX8_stays_80 rfl rfl ?_
    refine r_iald S hK hP41 62 (by decide) hF41 (vp_in_nI (show 1 < 7 by omega) (by omega)) dX8_stays_81 ?_
    refine lv_topi (fun v45 e45 => ?_)
    refine lv_iconst (v := (nI 1)) S.1 S.2.1 dX8_stays_82 (by decide +kernel) ?_
    refine lv_iadd S.1 S.2.1 dX8_stays_83 ?_
    refine lv_topi (fun v46 e46 => ?_)
    refine r_iast S hI hK hP41 hS41 62 (by decide) hF41 (vp_in_nI (show 1 < 7 by omega) (by omega)) dX8_stays_84 (fun F47 H47 locs47 eF47 hP47 hS47 => ?_)
    have hW47 := hW41.up eF47 (ok_I (show (62, 7) ∈ rLI by decide) (okI_up hg41 (by rw [nI_clamp (by omega)]; exact to_S (okS_o (by decide) (by decide) (by decide)))))
    have hFr47 := hFr41.up eF47 (by simp <;> first | omega | (simp only [isC, isJ] at *; omega))
    obtain ⟨gg47, eg47⟩ : ∃ g9, g9 = upd gg41 (nI 1).toNatClampNeg v46 := ⟨_, rfl⟩
    have hF47 : F47 62 = .inl (cA 0, 7, .inl gg47) := by rw [eF47, eg47]; exact va_up_self _ _ _
    have hg47 : ∀ j, j < 7 → rPr 62 j (gg47 j) := by rw [eg47]; exact pr_up hg41 (by rw [nI_clamp (by omega)]; exact to_S (okS_o (by decide) (by decide) (by decide)))
    have he48 : gg47 0 = nI b10 := by rw [eg47, pk_un (by rw [nI_clamp (by omega)]; omega)]; exact he42
    refine lv_iload_n S.1 S.2.1 dX8_stays_85 rfl (lv_at hl17 0 rfl) ?_
    refine lv_if_eq (tgt := 101) S.1 S.2.1 dX8_stays_86 (by decide) (fun c49 => ?_) (fun c49 => absurd c30 c49)
    have k50 := ci_eq (nI_toInt (n := b16) (by omega)) z_ti c49
    refine lv_iconst (v := (nI 0)) S.1 S.2.1 dX8_stays_101 (by decide +kernel) ?_
    exact hret 102 _ _ _ _ _ dX8_stays_102 rfl hP47 hS47 ⟨hW47, hFr47, trivial⟩
  have k51 := ci_ne (nI_toInt (n := b16) (by omega)) z_ti c20
  refine lv_aload_n S.1 S.2.1 dX8_stays_30 rfl (lv_at hl17 2 rfl) ?_
  refine r_get S hK hP 58 (by decide) hF7 (C := RX8) (T := TX8) (N := 23) hiX8 rfl 2 (by decide) (by decide +kernel) (v := .ref (ad 60)) rfl dX8_stays_31 ?_
  refine lv_bipush (v := (nI 20)) S.1 S.2.1 dX8_stays_34 (by decide +kernel) ?_
  refine lv_iload_n S.1 S.2.1 dX8_stays_36 rfl (lv_at hl17 1 rfl) ?_
  refine lv_iadd S.1 S.2.1 dX8_stays_37 ?_
  refine lv_topi (fun v52 e52 => ?_)
  obtain rfl : v52 = nI (20 + b10) := e52.trans (nI_add _ _)
  refine r_iald S hK hP 60 (by decide) hF4 (vp_in_nI (show 20 + b10 < 52 by omega) (by omega)) dX8_stays_38 ?_
  refine lv_topi (fun v54 e54 => ?_)
  refine lv_goto (tgt := 43) S.1 S.2.1 dX8_stays_39 (by decide) ?_
  refine lv_iadd S.1 S.2.1 dX8_stays_43 ?_
  refine lv_topi (fun v55 e55 => ?_)
  refine r_iast S hI hK hP hS 62 (by decide) hF1 (vp_in_nI (show 3 < 7 by omega) (by omega)) dX8_stays_44 (fun F56 H56 locs56 eF56 hP56 hS56 => ?_)
  have hW56 := hW.up eF56 (ok_I (show (62, 7) ∈ rLI by decide) (okI_up hg1 (by rw [nI_clamp (by omega)]; exact to_S (okS_o (by decide) (by decide) (by decide)))))
  have hFr56 := hFr.up eF56 (by simp <;> first | omega | (simp only [isC, isJ] at *; omega))
  obtain ⟨gg56, eg56⟩ : ∃ g9, g9 = upd g1 (nI 3).toNatClampNeg v55 := ⟨_, rfl⟩
  have hF56 : F56 62 = .inl (cA 0, 7, .inl gg56) := by rw [eF56, eg56]; exact va_up_self _ _ _
  have hg56 : ∀ j, j < 7 → rPr 62 j (gg56 j) := by rw [eg56]; exact pr_up hg1 (by rw [nI_clamp (by omega)]; exact to_S (okS_o (by decide) (by decide) (by decide)))
  have he57 : gg56 2 = nI b2 := by rw [eg56, pk_un (by rw [nI_clamp (by omega)]; omega)]; exact he2
  have he58 : gg56 0 = nI b10 := by rw [eg56, pk_un (by rw [nI_clamp (by omega)]; omega)]; exact he10
  refine lv_aload_n S.1 S.2.1 dX8_stays_45 rfl (lv_at hl17 2 rfl) ?_
  have hF59 := (show F56 58 = F 58 by rw [eF56]; exact va_up_ne _ _ (by decide)).trans hF7
  refine r_get S hK hP56 58 (by decide) hF59 (C := RX8) (T := TX8) (N := 23) hiX8 rfl 4 (by decide) (by decide +kernel) (v := .ref (ad 62)) rfl dX8_stays_46 ?_
  refine lv_iconst (v := (nI 4)) S.1 S.2.1 dX8_stays_49 (by decide +kernel) ?_
  refine lv_dup2_11 S.1 S.2.1 dX8_stays_50 rfl rfl ?_
  refine r_iald S hK hP56 62 (by decide) hF56 (vp_in_nI (show 4 < 7 by omega) (by omega)) dX8_stays_51 ?_
  refine lv_topi (fun v61 e61 => ?_)
  obtain ⟨b62, hb62, he62⟩ := (pr_S (hg56 4 (by decide))).2.2 rfl
  obtain rfl : v61 = nI b62 := e61.trans he62
  refine lv_iload_n S.1 S.2.1 dX8_stays_52 rfl (lv_at hl17 0 rfl) ?_
  refine lv_if_eq (tgt := 62) S.1 S.2.1 dX8_stays_53 (by decide) (fun c63 => absurd c63 c20) (fun c63 => ?_)
  have k64 := ci_ne (nI_toInt (n := b16) (by omega)) z_ti c63
  refine lv_iconst (v := (nI 1)) S.1 S.2.1 dX8_stays_56 (by decide +kernel) ?_
  refine lv_iload_n S.1 S.2.1 dX8_stays_57 rfl (lv_at hl17 1 rfl) ?_
  refine lv_ishl S.1 S.2.1 dX8_stays_58 ?_
  refine lv_topi (fun v65 e65 => ?_)
  refine lv_goto (tgt := 63) S.1 S.2.1 dX8_stays_59 (by decide) ?_
  refine lv_ior S.1 S.2.1 dX8_stays_63 ?_
  refine lv_topi (fun v66 e66 => ?_)
  obtain ⟨w67, hw67, ew67⟩ := or_t (w := b62) (k := b10) (by omega) (by omega)
  obtain rfl : v66 = nI w67 := by rw [e66, e65]; exact ew67
  refine r_iast S hI hK hP56 hS56 62 (by decide) hF56 (vp_in_nI (show 4 < 7 by omega) (by omega)) dX8_stays_64 (fun F68 H68 locs68 eF68 hP68 hS68 => ?_)
  have hW68 := hW56.up eF68 (ok_I (show (62, 7) ∈ rLI by decide) (okI_up hg56 (by rw [nI_clamp (by omega)]; exact to_S (okS_4 ⟨w67, by omega, rfl⟩))))
  have hFr68 := hFr56.up eF68 (by simp <;> first | omega | (simp only [isC, isJ] at *; omega))
  obtain ⟨gg68, eg68⟩ : ∃ g9, g9 = upd gg56 (nI 4).toNatClampNeg (nI w67) := ⟨_, rfl⟩
  have hF68 : F68 62 = .inl (cA 0, 7, .inl gg68) := by rw [eF68, eg68]; exact va_up_self _ _ _
  have hg68 : ∀ j, j < 7 → rPr 62 j (gg68 j) := by rw [eg68]; exact pr_up hg56 (by rw [nI_clamp (by omega)]; exact to_S (okS_4 ⟨w67, by omega, rfl⟩))
  have he69 : gg68 2 = nI b2 := by rw [eg68, pk_un (by rw [nI_clamp (by omega)]; omega)]; exact he57
  have he70 : gg68 0 = nI b10 := by rw [eg68, pk_un (by rw [nI_clamp (by omega)]; omega)]; exact he58
  refine lv_aload_n S.1 S.2.1 dX8_stays_65 rfl (lv_at hl17 2 rfl) ?_
  have hF71 := (show F68 58 = F56 58 by rw [eF68]; exact va_up_ne _ _ (by decide)).trans hF59
  refine r_get S hK hP68 58 (by decide) hF71 (C := RX8) (T := TX8) (N := 23) hiX8 rfl 4 (by decide) (by decide +kernel) (v := .ref (ad 62)) rfl dX8_stays_66 ?_
  refine lv_iconst (v := (nI 2)) S.1 S.2.1 dX8_stays_69 (by decide +kernel) ?_
  refine lv_dup2_11 S.1 S.2.1 dX8_stays_70 rfl rfl ?_
  refine r_iald S hK hP68 62 (by decide) hF68 (vp_in_nI (show 2 < 7 by omega) (by omega)) dX8_stays_71 ?_
  refine lv_topi (fun v73 e73 => ?_)
  obtain rfl : v73 = nI b2 := e73.trans he69
  refine lv_iconst (v := (nI 1)) S.1 S.2.1 dX8_stays_72 (by decide +kernel) ?_
  refine lv_iadd S.1 S.2.1 dX8_stays_73 ?_
  refine lv_topi (fun v74 e74 => ?_)
  obtain rfl : v74 = nI (b2 + 1) := e74.trans (nI_add _ _)
  refine r_iast S hI hK hP68 hS68 62 (by decide) hF68 (vp_in_nI (show 2 < 7 by omega) (by omega)) dX8_stays_74 (fun F75 H75 locs75 eF75 hP75 hS75 => ?_)
  have hW75 := hW68.up eF75 (ok_I (show (62, 7) ∈ rLI by decide) (okI_up hg68 (by rw [nI_clamp (by omega)]; exact to_S (okS_2 ⟨b2 + 1, by omega, rfl⟩))))
  have hFr75 := hFr68.up eF75 (by simp <;> first | omega | (simp only [isC, isJ] at *; omega))
  obtain ⟨gg75, eg75⟩ : ∃ g9, g9 = upd gg68 (nI 2).toNatClampNeg (nI (b2 + 1)) := ⟨_, rfl⟩
  have hF75 : F75 62 = .inl (cA 0, 7, .inl gg75) := by rw [eF75, eg75]; exact va_up_self _ _ _
  have hg75 : ∀ j, j < 7 → rPr 62 j (gg75 j) := by rw [eg75]; exact pr_up hg68 (by rw [nI_clamp (by omega)]; exact to_S (okS_2 ⟨b2 + 1, by omega, rfl⟩))
  have he76 : gg75 0 = nI b10 := by rw [eg75, pk_un (by rw [nI_clamp (by omega)]; omega)]; exact he70
  refine lv_aload_n S.1 S.2.1 dX8_stays_75 rfl (lv_at hl17 2 rfl) ?_
  have hF77 := (show F75 58 = F68 58 by rw [eF75]; exact va_up_ne _ _ (by decide)).trans hF71
  refine r_get S hK hP75 58 (by decide) hF77 (C := RX8) (T := TX8) (N := 23) hiX8 rfl 4 (by decide) (by decide +kernel) (v := .ref (ad 62)) rfl dX8_stays_76 ?_
  refine lv_iconst (v := (nI 1)) S.1 S.2.1 dX8_stays_79 (by decide +kernel) ?_
  refine lv_dup2_11 S.1 S.2.1 dX8_stays_80 rfl rfl ?_
  refine r_iald S hK hP75 62 (by decide) hF75 (vp_in_nI (show 1 < 7 by omega) (by omega)) dX8_stays_81 ?_
  refine lv_topi (fun v79 e79 => ?_)
  refine lv_iconst (v := (nI 1)) S.1 S.2.1 dX8_stays_82 (by decide +kernel) ?_
  refine lv_iadd S.1 S.2.1 dX8_stays_83 ?_
  refine lv_topi (fun v80 e80 => ?_)
  refine r_iast S hI hK hP75 hS75 62 (by decide) hF75 (vp_in_nI (show 1 < 7 by omega) (by omega)) dX8_stays_84 (fun F81 H81 locs81 eF81 hP81 hS81 => ?_)
  have hW81 := hW75.up eF81 (ok_I (show (62, 7) ∈ rLI by decide) (okI_up hg75 (by rw [nI_clamp (by omega)]; exact to_S (okS_o (by decide) (by decide) (by decide)))))
  have hFr81 := hFr75.up eF81 (by simp <;> first | omega | (simp only [isC, isJ] at *; omega))
  obtain ⟨gg81, eg81⟩ : ∃ g9, g9 = upd gg75 (nI 1).toNatClampNeg v80 := ⟨_, rfl⟩
  have hF81 : F81 62 = .inl (cA 0, 7, .inl gg81) := by rw [eF81, eg81]; exact va_up_self _ _ _
  have hg81 : ∀ j, j < 7 → rPr 62 j (gg81 j) := by rw [eg81]; exact pr_up hg75 (by rw [nI_clamp (by omega)]; exact to_S (okS_o (by decide) (by decide) (by decide)))
  have he82 : gg81 0 = nI b10 := by rw [eg81, pk_un (by rw [nI_clamp (by omega)]; omega)]; exact he76
  refine lv_iload_n S.1 S.2.1 dX8_stays_85 rfl (lv_at hl17 0 rfl) ?_
  refine lv_if_eq (tgt := 101) S.1 S.2.1 dX8_stays_86 (by decide) (fun c83 => absurd c83 c63) (fun c83 => ?_)
  have k84 := ci_ne (nI_toInt (n := b16) (by omega)) z_ti c83
  refine lv_aload_n S.1 S.2.1 dX8_stays_89 rfl (lv_at hl17 2 rfl) ?_
  have hF85 := (show F81 58 = F75 58 by rw [eF81]; exact va_up_ne _ _ (by decide)).trans hF77
  refine r_get S hK hP81 58 (by decide) hF85 (C := RX8) (T := TX8) (N := 23) hiX8 rfl 2 (by decide) (by decide +kernel) (v := .ref (ad 60)) rfl dX8_stays_90 ?_
  refine lv_bipush (v := (nI 20)) S.1 S.2.1 dX8_stays_93 (by decide +kernel) ?_
  refine lv_iload_n S.1 S.2.1 dX8_stays_95 rfl (lv_at hl17 1 rfl) ?_
  refine lv_iadd S.1 S.2.1 dX8_stays_96 ?_
  refine lv_topi (fun v86 e86 => ?_)
  obtain rfl : v86 = nI (20 + b10) := e86.trans (nI_add _ _)
  have hF87 := (show F56 60 = F 60 by rw [eF56]; exact va_up_ne _ _ (by decide)).trans hF4
  have hF88 := (show F68 60 = F56 60 by rw [eF68]; exact va_up_ne _ _ (by decide)).trans hF87
  have hF89 := (show F75 60 = F68 60 by rw [eF75]; exact va_up_ne _ _ (by decide)).trans hF88
  have hF90 := (show F81 60 = F75 60 by rw [eF81]; exact va_up_ne _ _ (by decide)).trans hF89
  refine r_iald S hK hP81 60 (by decide) hF90 (vp_in_nI (show 20 + b10 < 52 by omega) (by omega)) dX8_stays_97 ?_
  refine lv_topi (fun v92 e92 => ?_)
  refine lv_goto (tgt := 102) S.1 S.2.1 dX8_stays_98 (by decide) ?_
  exact hret 102 _ _ _ _ _ dX8_stays_102 rfl hP81 hS81 ⟨hW81, hFr81, trivial⟩
set_option maxHeartbeats 4000000 in
set_option maxRecDepth 100000 in
theorem c_X8_goesTo (l : Launch) (D : va_G) (cA ad : Nat → Nat) (t : Nat) (hI : rI ad) (F : Nat → va_E) (hW : WT cA ad F) (t1 : Nat) (ht1 : t1 ≤ 7) : MV l D cA ad t yX8_goesTo wsX8_goesTo { frames := 0, cells := 0, slots := 0, locals := 0 } [.ref (ad 58), .int (nI t1)] F (fun F' => WT cA ad F' ∧ rFr [62] F F' ∧ (True)) := by
  refine en_V rfl (by decide +kernel) (Nat.le_of_ble_eq_true rfl) ?_
  intro p e s m args below meth c ls0 Q S hK hZ hP hS hl0 hret
  have hl0 : lv_has ls0 2 [(0, .ref (ad 58)), (1, .int (nI t1))] := hl0
  have hFr : rFr [62] F F := rFr.rf
  have hiX8 : ∀ w ∈ u_ws RX8 TX8 23, w ∈ wsX8_goesTo := by decide +kernel
  refine lv_aload_n S.1 S.2.1 dX8_goesTo_0 rfl (lv_at hl0 0 rfl) ?_
  obtain ⟨ty1, kn1, no1, en1, at1, sa1, sd1, wr1, pl1, va1, hF1, hb1_1, hb1_2, hb1_3, hb1_4, hb1_5, hb1_6⟩ := wt_m hW
  refine r_get S hK hP 58 (by decide) hF1 (C := RX8) (T := TX8) (N := 23) hiX8 rfl 4 (by decide) (by decide +kernel) (v := .ref (ad 62)) rfl dX8_goesTo_1 ?_
  refine lv_iconst (v := (nI 0)) S.1 S.2.1 dX8_goesTo_4 (by decide +kernel) ?_
  refine lv_iload_n S.1 S.2.1 dX8_goesTo_5 rfl (lv_at hl0 1 rfl) ?_
  obtain ⟨g2, hF2, hg2⟩ := wt_I hW (show (62, 7) ∈ rLI by decide)
  refine r_iast S hI hK hP hS 62 (by decide) hF2 (vp_in_nI (show 0 < 7 by omega) (by omega)) dX8_goesTo_6 (fun F3 H3 locs3 eF3 hP3 hS3 => ?_)
  have hW3 := hW.up eF3 (ok_I (show (62, 7) ∈ rLI by decide) (okI_up hg2 (by rw [nI_clamp (by omega)]; exact to_S (okS_0 ⟨t1, by omega, rfl⟩))))
  have hFr3 := hFr.up eF3 (by simp <;> first | omega | (simp only [isC, isJ] at *; omega))
  obtain ⟨gg3, eg3⟩ : ∃ g9, g9 = upd g2 (nI 0).toNatClampNeg (nI t1) := ⟨_, rfl⟩
  have hF3 : F3 62 = .inl (cA 0, 7, .inl gg3) := by rw [eF3, eg3]; exact va_up_self _ _ _
  have hg3 : ∀ j, j < 7 → rPr 62 j (gg3 j) := by rw [eg3]; exact pr_up hg2 (by rw [nI_clamp (by omega)]; exact to_S (okS_0 ⟨t1, by omega, rfl⟩))
  refine lv_aload_n S.1 S.2.1 dX8_goesTo_7 rfl (lv_at hl0 0 rfl) ?_
  have hF4 := (show F3 58 = F 58 by rw [eF3]; exact va_up_ne _ _ (by decide)).trans hF1
  refine r_get S hK hP3 58 (by decide) hF4 (C := RX8) (T := TX8) (N := 23) hiX8 rfl 4 (by decide) (by decide +kernel) (v := .ref (ad 62)) rfl dX8_goesTo_8 ?_
  refine lv_iconst (v := (nI 2)) S.1 S.2.1 dX8_goesTo_11 (by decide +kernel) ?_
  refine lv_iconst (v := (nI 0)) S.1 S.2.1 dX8_goesTo_12 (by decide +kernel) ?_
  refine r_iast S hI hK hP3 hS3 62 (by decide) hF3 (vp_in_nI (show 2 < 7 by omega) (by omega)) dX8_goesTo_13 (fun F5 H5 locs5 eF5 hP5 hS5 => ?_)
  have hW5 := hW3.up eF5 (ok_I (show (62, 7) ∈ rLI by decide) (okI_up hg3 (by rw [nI_clamp (by omega)]; exact to_S (okS_z _))))
  have hFr5 := hFr3.up eF5 (by simp <;> first | omega | (simp only [isC, isJ] at *; omega))
  obtain ⟨gg5, eg5⟩ : ∃ g9, g9 = upd gg3 (nI 2).toNatClampNeg (nI 0) := ⟨_, rfl⟩
  have hF5 : F5 62 = .inl (cA 0, 7, .inl gg5) := by rw [eF5, eg5]; exact va_up_self _ _ _
  have hg5 : ∀ j, j < 7 → rPr 62 j (gg5 j) := by rw [eg5]; exact pr_up hg3 (by rw [nI_clamp (by omega)]; exact to_S (okS_z _))
  refine lv_aload_n S.1 S.2.1 dX8_goesTo_14 rfl (lv_at hl0 0 rfl) ?_
  have hF6 := (show F5 58 = F3 58 by rw [eF5]; exact va_up_ne _ _ (by decide)).trans hF4
  refine r_get S hK hP5 58 (by decide) hF6 (C := RX8) (T := TX8) (N := 23) hiX8 rfl 4 (by decide) (by decide +kernel) (v := .ref (ad 62)) rfl dX8_goesTo_15 ?_
  refine lv_iconst (v := (nI 1)) S.1 S.2.1 dX8_goesTo_18 (by decide +kernel) ?_
  refine lv_dup2_11 S.1 S.2.1 dX8_goesTo_19 rfl rfl ?_
  refine r_iald S hK hP5 62 (by decide) hF5 (vp_in_nI (show 1 < 7 by omega) (by omega)) dX8_goesTo_20 ?_
  refine lv_topi (fun v8 e8 => ?_)
  refine lv_iconst (v := (nI 1)) S.1 S.2.1 dX8_goesTo_21 (by decide +kernel) ?_
  refine lv_iadd S.1 S.2.1 dX8_goesTo_22 ?_
  refine lv_topi (fun v9 e9 => ?_)
  refine r_iast S hI hK hP5 hS5 62 (by decide) hF5 (vp_in_nI (show 1 < 7 by omega) (by omega)) dX8_goesTo_23 (fun F10 H10 locs10 eF10 hP10 hS10 => ?_)
  have hW10 := hW5.up eF10 (ok_I (show (62, 7) ∈ rLI by decide) (okI_up hg5 (by rw [nI_clamp (by omega)]; exact to_S (okS_o (by decide) (by decide) (by decide)))))
  have hFr10 := hFr5.up eF10 (by simp <;> first | omega | (simp only [isC, isJ] at *; omega))
  obtain ⟨gg10, eg10⟩ : ∃ g9, g9 = upd gg5 (nI 1).toNatClampNeg v9 := ⟨_, rfl⟩
  have hF10 : F10 62 = .inl (cA 0, 7, .inl gg10) := by rw [eF10, eg10]; exact va_up_self _ _ _
  have hg10 : ∀ j, j < 7 → rPr 62 j (gg10 j) := by rw [eg10]; exact pr_up hg5 (by rw [nI_clamp (by omega)]; exact to_S (okS_o (by decide) (by decide) (by decide)))
  exact hret 24 _ _ _ _ dX8_goesTo_24 hP10 hS10 ⟨hW10, hFr10, trivial⟩
set_option maxHeartbeats 4000000 in
set_option maxRecDepth 100000 in
theorem c_X8_stay (l : Launch) (D : va_G) (cA ad : Nat → Nat) (t : Nat) (hI : rI ad) (F : Nat → va_E) (hW : WT cA ad F) : MI l D cA ad t yX8_stay wsX8_stay { frames := 2, cells := 0, slots := 0, locals := 44 } [.ref (ad 58)] F (fun r F' => WT cA ad F' ∧ rFr [58, 62, 63] F F' ∧ (True)) := by
  refine en_I rfl (by decide +kernel) (Nat.le_of_ble_eq_true rfl) ?_
  intro p e s m args below meth c ls0 Q S hK hZ hP hS hl0 hret
  have hl0 : lv_has ls0 1 [(0, .ref (ad 58))] := hl0
  have hFr : rFr [58, 62, 63] F F := rFr.rf
  have hiX8 : ∀ w ∈ u_ws RX8 TX8 23, w ∈ wsX8_stay := by decide +kernel
  refine lv_aload_n S.1 S.2.1 dX8_stay_0 rfl (lv_at hl0 0 rfl) ?_
  obtain ⟨ty2, kn2, no2, en2, at2, sa2, sd2, wr2, pl2, va2, hF2, hb2_1, hb2_2, hb2_3, hb2_4, hb2_5, hb2_6⟩ := wt_m hW
  refine r_cVp (As := []) (rest := []) S hK hZ hP hS hl0.1 58 (by decide) hF2 (C := RX8) rfl (c_X8_goesOn l D cA ad t hI F hW ) (cwV 0 S.2.2.2.2 gX8_stay_X8_goesOn rfl rfl rfl (by decide +kernel) ⟨Nat.le_of_ble_eq_true rfl, Nat.le_of_ble_eq_true rfl⟩) rfl rfl (Nat.le_of_ble_eq_true rfl) ⟨Nat.zero_le _, Nat.zero_le _⟩ dX8_stay_1 (fun r1 hr1 => ?_)
  obtain ⟨b3, hb3, rfl⟩ := hr1
  refine lv_if_eq (tgt := 14) S.1 S.2.1 dX8_stay_4 (by decide) (fun c4 => ?_) (fun c4 => ?_)
  · skip
    have k5 := ci_eq (nI_toInt (n := b3) (by omega)) z_ti c4
    refine lv_ldc (v := (-1000000003)) S.1 S.2.1 S.2.2.2.1 (S.2.2.2.2 (.constant RX8 139 (-1000000003)) (by decide +kernel)) dX8_stay_14 ?_
    exact hret 16 _ _ _ _ _ dX8_stay_16 rfl hP hS ⟨hW, hFr, trivial⟩
  have k6 := ci_ne (nI_toInt (n := b3) (by omega)) z_ti c4
  refine lv_aload_n S.1 S.2.1 dX8_stay_7 rfl (lv_at hl0 0 rfl) ?_
  refine r_cVp (As := []) (rest := []) S hK hZ hP hS hl0.1 58 (by decide) hF2 (C := RX8) rfl (c_X8_mayStay l D cA ad t hI F hW ) (cwV 0 S.2.2.2.2 gX8_stay_X8_mayStay rfl rfl rfl (by decide +kernel) ⟨Nat.le_of_ble_eq_true rfl, Nat.le_of_ble_eq_true rfl⟩) rfl rfl (Nat.le_of_ble_eq_true rfl) ⟨Nat.zero_le _, Nat.zero_le _⟩ dX8_stay_8 (fun r7 hr7 => ?_)
  obtain ⟨⟨b8, hb8, rfl⟩, hx8⟩ := hr7
  obtain ⟨g9, hF9, hg9⟩ := wt_I hW (show (62, 7) ∈ rLI by decide)
  obtain ⟨b10, hb10, he10⟩ := (pr_S (hg9 2 (by decide))).2.1 rfl
  have hN11 := aN_of (j := 2) hF9 he10 (by omega)
  obtain ⟨g12, hF12, hg12⟩ := wt_I hW (show (60, 52) ∈ rLI by decide)
  obtain ⟨b13, hb13, he13⟩ := (pr_T (by decide) (hg12 0 (by decide))).1 rfl
  have hN14 := aN_of (j := 0) hF12 he13 (by omega)
  have hy8 : b8 ≠ 0 → b10 < b13 := fun q => by have h9 := hx8 (nI_ne0 (by omega) (by omega)); omega
  refine lv_if_ne (tgt := 17) S.1 S.2.1 dX8_stay_11 (by decide) (fun c15 => ?_) (fun c15 => ?_)
  · skip
    have k16 := ci_ne (nI_toInt (n := b8) (by omega)) z_ti c15
    refine lv_aload_n S.1 S.2.1 dX8_stay_17 rfl (lv_at hl0 0 rfl) ?_
    refine r_get S hK hP 58 (by decide) hF2 (C := RX8) (T := TX8) (N := 23) hiX8 rfl 4 (by decide) (by decide +kernel) (v := .ref (ad 62)) rfl dX8_stay_18 ?_
    refine lv_iconst (v := (nI 1)) S.1 S.2.1 dX8_stay_21 (by decide +kernel) ?_
    refine r_iald S hK hP 62 (by decide) hF9 (vp_in_nI (show 1 < 7 by omega) (by omega)) dX8_stay_22 ?_
    refine lv_topi (fun v18 e18 => ?_)
    refine lv_sipush (v := (nI 9000)) S.1 S.2.1 dX8_stay_23 (by decide +kernel) ?_
    refine lv_icmp_le (tgt := 32) S.1 S.2.1 dX8_stay_26 (by decide) (fun c19 => ?_) (fun c19 => ?_)
    · skip
      have k20 := ci_le rfl (nI_toInt (n := 9000) (by omega)) c19
      refine lv_aload_n S.1 S.2.1 dX8_stay_32 rfl (lv_at hl0 0 rfl) ?_
      refine r_cVv (As := []) (rest := []) S hK hZ hP hS hl0.1 58 (by decide) hF2 (C := RX8) rfl (c_X8_keeps l D cA ad t hI F hW ) (cwV 0 S.2.2.2.2 gX8_stay_X8_keeps rfl rfl rfl (by decide +kernel) ⟨Nat.le_of_ble_eq_true rfl, Nat.le_of_ble_eq_true rfl⟩) rfl rfl (Nat.le_of_ble_eq_true rfl) ⟨Nat.zero_le _, Nat.zero_le _⟩ dX8_stay_33 (fun F21 H21 locs21 hr21 hP21 hS21 => ?_)
      obtain ⟨hW21, hFc21, hr21⟩ := hr21
      have hFr21 := hFr.tr hFc21 (by simp <;> first | omega | (simp only [isC, isJ] at *; omega))
      refine lv_aload_n S.1 S.2.1 dX8_stay_36 rfl (lv_at hl0 0 rfl) ?_
      have hF23 := (hFc21 62 (by decide)).trans hF9
      have hN24 := aN_of (j := 2) hF23 he10 (by omega)
      have hF25 := (hFc21 60 (by decide)).trans hF12
      have hN26 := aN_of (j := 0) hF25 he13 (by omega)
      obtain ⟨ty27, kn27, no27, en27, at27, sa27, sd27, wr27, pl27, va27, hF27, hb27_1, hb27_2, hb27_3, hb27_4, hb27_5, hb27_6⟩ := wt_m hW21
      refine r_cVi (As := []) (rest := []) S hK hZ hP21 hS21 hl0.1 58 (by decide) hF27 (C := RX8) rfl (c_X8_stays l D cA ad t hI F21 hW21 (by omega)) (cwV 0 S.2.2.2.2 gX8_stay_X8_stays rfl rfl rfl (by decide +kernel) ⟨Nat.le_of_ble_eq_true rfl, Nat.le_of_ble_eq_true rfl⟩) rfl rfl (Nat.le_of_ble_eq_true rfl) ⟨Nat.zero_le _, Nat.zero_le _⟩ dX8_stay_37 (fun r22 F22 H22 locs22 hr22 hP22 hS22 => ?_)
      obtain ⟨hW22, hFc22, hr22⟩ := hr22
      have hFr22 := hFr21.tr hFc22 (by simp <;> first | omega | (simp only [isC, isJ] at *; omega))
      exact hret 40 _ _ _ _ _ dX8_stay_40 rfl hP22 hS22 ⟨hW22, hFr22, trivial⟩
    have k28 := ci_nle rfl (nI_toInt (n := 9000) (by omega)) c19
    refine lv_ldc (v := (-1000000004)) S.1 S.2.1 S.2.2.2.1 (S.2.2.2.2 (.constant RX8 63 (-1000000004)) (by decide +kernel)) dX8_stay_29 ?_
    exact hret 31 _ _ _ _ _ dX8_stay_31 rfl hP hS ⟨hW, hFr, trivial⟩
  have k29 := ci_eq (nI_toInt (n := b8) (by omega)) z_ti c15
  refine lv_ldc (v := (-1000000003)) S.1 S.2.1 S.2.2.2.1 (S.2.2.2.2 (.constant RX8 139 (-1000000003)) (by decide +kernel)) dX8_stay_14 ?_
  exact hret 16 _ _ _ _ _ dX8_stay_16 rfl hP hS ⟨hW, hFr, trivial⟩
set_option maxHeartbeats 4000000 in
set_option maxRecDepth 100000 in
theorem c_X8_walk (l : Launch) (D : va_G) (cA ad : Nat → Nat) (t : Nat) (hI : rI ad) (F : Nat → va_E) (hW : WT cA ad F) (p1 : Int32) : MI l D cA ad t yX8_walk wsX8_walk { frames := 2, cells := 0, slots := 0, locals := 48 } [.ref (ad 58), .int p1] F (fun r F' => WT cA ad F' ∧ rFr [58, 62, 63] F F' ∧ (True)) := by
  refine en_I rfl (by decide +kernel) (Nat.le_of_ble_eq_true rfl) ?_
  intro p e s m args below meth c ls0 Q S hK hZ hP hS hl0 hret
  have hl0 : lv_has ls0 2 [(0, .ref (ad 58)), (1, .int p1)] := hl0
  have hFr : rFr [58, 62, 63] F F := rFr.rf
  have hiX8 : ∀ w ∈ u_ws RX8 TX8 23, w ∈ wsX8_walk := by decide +kernel
  refine lv_aload_n S.1 S.2.1 dX8_walk_0 rfl (lv_at hl0 0 rfl) ?_
  refine lv_iload_n S.1 S.2.1 dX8_walk_1 rfl (lv_at hl0 1 rfl) ?_
  obtain ⟨ty2, kn2, no2, en2, at2, sa2, sd2, wr2, pl2, va2, hF2, hb2_1, hb2_2, hb2_3, hb2_4, hb2_5, hb2_6⟩ := wt_m hW
  refine r_cVp (As := [.int p1]) (rest := []) S hK hZ hP hS hl0.1 58 (by decide) hF2 (C := RX8) rfl (c_X8_isTown l D cA ad t hI F hW p1) (cwV 1 S.2.2.2.2 gX8_walk_X8_isTown rfl rfl rfl (by decide +kernel) ⟨Nat.le_of_ble_eq_true rfl, Nat.le_of_ble_eq_true rfl⟩) rfl rfl (Nat.le_of_ble_eq_true rfl) ⟨Nat.zero_le _, Nat.zero_le _⟩ dX8_walk_2 (fun r1 hr1 => ?_)
  obtain ⟨⟨b3, hb3, rfl⟩, hx3⟩ := hr1
  have hx3 : b3 ≠ 0 → 0 ≤ p1.toInt ∧ p1.toInt ≤ _ := fun q => hx3 (nI_ne0 (by omega) (by omega))
  refine lv_if_ne (tgt := 11) S.1 S.2.1 dX8_walk_5 (by decide) (fun c4 => ?_) (fun c4 => ?_)
  · skip
    have k5 := ci_ne (nI_toInt (n := b3) (by omega)) z_ti c4
    obtain ⟨j6, hj6, rfl⟩ := nI_of_le (x := p1) (B := 7) (by omega) (by omega)
    have kj6 := nI_toInt (n := j6) (by omega)
    refine lv_aload_n S.1 S.2.1 dX8_walk_11 rfl (lv_at hl0 0 rfl) ?_
    refine r_cVp (As := []) (rest := []) S hK hZ hP hS hl0.1 58 (by decide) hF2 (C := RX8) rfl (c_X8_goesOn l D cA ad t hI F hW ) (cwV 0 S.2.2.2.2 gX8_walk_X8_goesOn rfl rfl rfl (by decide +kernel) ⟨Nat.le_of_ble_eq_true rfl, Nat.le_of_ble_eq_true rfl⟩) rfl rfl (Nat.le_of_ble_eq_true rfl) ⟨Nat.zero_le _, Nat.zero_le _⟩ dX8_walk_12 (fun r7 hr7 => ?_)
    obtain ⟨b8, hb8, rfl⟩ := hr7
    refine lv_if_eq (tgt := 41) S.1 S.2.1 dX8_walk_15 (by decide) (fun c9 => ?_) (fun c9 => ?_)
    · skip
      have k10 := ci_eq (nI_toInt (n := b8) (by omega)) z_ti c9
      refine lv_ldc (v := (-1000000003)) S.1 S.2.1 S.2.2.2.1 (S.2.2.2.2 (.constant RX8 139 (-1000000003)) (by decide +kernel)) dX8_walk_41 ?_
      exact hret 43 _ _ _ _ _ dX8_walk_43 rfl hP hS ⟨hW, hFr, trivial⟩
    have k11 := ci_ne (nI_toInt (n := b8) (by omega)) z_ti c9
    refine lv_aload_n S.1 S.2.1 dX8_walk_18 rfl (lv_at hl0 0 rfl) ?_
    refine lv_aload_n S.1 S.2.1 dX8_walk_19 rfl (lv_at hl0 0 rfl) ?_
    refine r_get S hK hP 58 (by decide) hF2 (C := RX8) (T := TX8) (N := 23) hiX8 rfl 4 (by decide) (by decide +kernel) (v := .ref (ad 62)) rfl dX8_walk_20 ?_
    refine lv_iconst (v := (nI 0)) S.1 S.2.1 dX8_walk_23 (by decide +kernel) ?_
    obtain ⟨g12, hF12, hg12⟩ := wt_I hW (show (62, 7) ∈ rLI by decide)
    refine r_iald S hK hP 62 (by decide) hF12 (vp_in_nI (show 0 < 7 by omega) (by omega)) dX8_walk_24 ?_
    refine lv_topi (fun v14 e14 => ?_)
    obtain ⟨b15, hb15, he15⟩ := (pr_S (hg12 0 (by decide))).1 rfl
    obtain rfl : v14 = nI b15 := e14.trans he15
    refine lv_aload_n S.1 S.2.1 dX8_walk_25 rfl (lv_at hl0 0 rfl) ?_
    refine r_get S hK hP 58 (by decide) hF2 (C := RX8) (T := TX8) (N := 23) hiX8 rfl 4 (by decide) (by decide +kernel) (v := .ref (ad 62)) rfl dX8_walk_26 ?_
    refine lv_iconst (v := (nI 5)) S.1 S.2.1 dX8_walk_29 (by decide +kernel) ?_
    refine r_iald S hK hP 62 (by decide) hF12 (vp_in_nI (show 5 < 7 by omega) (by omega)) dX8_walk_30 ?_
    refine lv_topi (fun v17 e17 => ?_)
    refine r_cVp (As := [.int (nI b15), .int v17]) (rest := []) S hK hZ hP hS hl0.1 58 (by decide) hF2 (C := RX8) rfl (c_X8_walks l D cA ad t hI F hW (nI b15) v17) (cwV 2 S.2.2.2.2 gX8_walk_X8_walks rfl rfl rfl (by decide +kernel) ⟨Nat.le_of_ble_eq_true rfl, Nat.le_of_ble_eq_true rfl⟩) rfl rfl (Nat.le_of_ble_eq_true rfl) ⟨Nat.zero_le _, Nat.zero_le _⟩ dX8_walk_31 (fun r18 hr18 => ?_)
    refine lv_iload_n S.1 S.2.1 dX8_walk_34 rfl (lv_at hl0 1 rfl) ?_
    refine lv_ishr S.1 S.2.1 dX8_walk_35 ?_
    refine lv_topi (fun v19 e19 => ?_)
    refine lv_iconst (v := (nI 1)) S.1 S.2.1 dX8_walk_36 (by decide +kernel) ?_
    refine lv_iand S.1 S.2.1 dX8_walk_37 ?_
    refine lv_topi (fun v20 e20 => ?_)
    refine lv_if_ne (tgt := 44) S.1 S.2.1 dX8_walk_38 (by decide) (fun c21 => ?_) (fun c21 => ?_)
    · skip
      have k22 := ci_ne rfl z_ti c21
      refine lv_aload_n S.1 S.2.1 dX8_walk_44 rfl (lv_at hl0 0 rfl) ?_
      refine r_get S hK hP 58 (by decide) hF2 (C := RX8) (T := TX8) (N := 23) hiX8 rfl 4 (by decide) (by decide +kernel) (v := .ref (ad 62)) rfl dX8_walk_45 ?_
      refine lv_iconst (v := (nI 1)) S.1 S.2.1 dX8_walk_48 (by decide +kernel) ?_
      refine r_iald S hK hP 62 (by decide) hF12 (vp_in_nI (show 1 < 7 by omega) (by omega)) dX8_walk_49 ?_
      refine lv_topi (fun v24 e24 => ?_)
      refine lv_sipush (v := (nI 9000)) S.1 S.2.1 dX8_walk_50 (by decide +kernel) ?_
      refine lv_icmp_le (tgt := 59) S.1 S.2.1 dX8_walk_53 (by decide) (fun c25 => ?_) (fun c25 => ?_)
      · skip
        have k26 := ci_le rfl (nI_toInt (n := 9000) (by omega)) c25
        refine lv_aload_n S.1 S.2.1 dX8_walk_59 rfl (lv_at hl0 0 rfl) ?_
        refine r_cVv (As := []) (rest := []) S hK hZ hP hS hl0.1 58 (by decide) hF2 (C := RX8) rfl (c_X8_keeps l D cA ad t hI F hW ) (cwV 0 S.2.2.2.2 gX8_walk_X8_keeps rfl rfl rfl (by decide +kernel) ⟨Nat.le_of_ble_eq_true rfl, Nat.le_of_ble_eq_true rfl⟩) rfl rfl (Nat.le_of_ble_eq_true rfl) ⟨Nat.zero_le _, Nat.zero_le _⟩ dX8_walk_60 (fun F27 H27 locs27 hr27 hP27 hS27 => ?_)
        obtain ⟨hW27, hFc27, hr27⟩ := hr27
        have hFr27 := hFr.tr hFc27 (by simp <;> first | omega | (simp only [isC, isJ] at *; omega))
        refine lv_aload_n S.1 S.2.1 dX8_walk_63 rfl (lv_at hl0 0 rfl) ?_
        refine lv_iload_n S.1 S.2.1 dX8_walk_64 rfl (lv_at hl0 1 rfl) ?_
        obtain ⟨ty29, kn29, no29, en29, at29, sa29, sd29, wr29, pl29, va29, hF29, hb29_1, hb29_2, hb29_3, hb29_4, hb29_5, hb29_6⟩ := wt_m hW27
        refine r_cVv (As := [.int (nI j6)]) (rest := []) S hK hZ hP27 hS27 hl0.1 58 (by decide) hF29 (C := RX8) rfl (c_X8_goesTo l D cA ad t hI F27 hW27 (j6) (by omega)) (cwV 1 S.2.2.2.2 gX8_walk_X8_goesTo rfl rfl rfl (by decide +kernel) ⟨Nat.le_of_ble_eq_true rfl, Nat.le_of_ble_eq_true rfl⟩) rfl rfl (Nat.le_of_ble_eq_true rfl) ⟨Nat.zero_le _, Nat.zero_le _⟩ dX8_walk_65 (fun F28 H28 locs28 hr28 hP28 hS28 => ?_)
        obtain ⟨hW28, hFc28, hr28⟩ := hr28
        have hFr28 := hFr27.tr hFc28 (by simp <;> first | omega | (simp only [isC, isJ] at *; omega))
        refine lv_aload_n S.1 S.2.1 dX8_walk_68 rfl (lv_at hl0 0 rfl) ?_
        have hF30 := (hFc28 58 (by decide)).trans hF29
        refine r_get S hK hP28 58 (by decide) hF30 (C := RX8) (T := TX8) (N := 23) hiX8 rfl 4 (by decide) (by decide +kernel) (v := .ref (ad 62)) rfl dX8_walk_69 ?_
        refine lv_iconst (v := (nI 1)) S.1 S.2.1 dX8_walk_72 (by decide +kernel) ?_
        obtain ⟨g31, hF31, hg31⟩ := wt_I hW28 (show (62, 7) ∈ rLI by decide)
        refine r_iald S hK hP28 62 (by decide) hF31 (vp_in_nI (show 1 < 7 by omega) (by omega)) dX8_walk_73 ?_
        refine lv_topi (fun v33 e33 => ?_)
        exact hret 74 _ _ _ _ _ dX8_walk_74 rfl hP28 hS28 ⟨hW28, hFr28, trivial⟩
      have k34 := ci_nle rfl (nI_toInt (n := 9000) (by omega)) c25
      refine lv_ldc (v := (-1000000004)) S.1 S.2.1 S.2.2.2.1 (S.2.2.2.2 (.constant RX8 63 (-1000000004)) (by decide +kernel)) dX8_walk_56 ?_
      exact hret 58 _ _ _ _ _ dX8_walk_58 rfl hP hS ⟨hW, hFr, trivial⟩
    have k35 := ci_eq rfl z_ti c21
    refine lv_ldc (v := (-1000000003)) S.1 S.2.1 S.2.2.2.1 (S.2.2.2.2 (.constant RX8 139 (-1000000003)) (by decide +kernel)) dX8_walk_41 ?_
    exact hret 43 _ _ _ _ _ dX8_walk_43 rfl hP hS ⟨hW, hFr, trivial⟩
  have k36 := ci_eq (nI_toInt (n := b3) (by omega)) z_ti c4
  refine lv_ldc (v := (-1000000001)) S.1 S.2.1 S.2.2.2.1 (S.2.2.2.2 (.constant RX8 126 (-1000000001)) (by decide +kernel)) dX8_walk_8 ?_
  exact hret 10 _ _ _ _ _ dX8_walk_10 rfl hP hS ⟨hW, hFr, trivial⟩
set_option maxHeartbeats 4000000 in
set_option maxRecDepth 100000 in
theorem c_X8_war (l : Launch) (D : va_G) (cA ad : Nat → Nat) (t : Nat) (hI : rI ad) (F : Nat → va_E) (hW : WT cA ad F) (p1 : Int32) (p2 : Int32) : MI l D cA ad t yX8_war wsX8_war { frames := 2, cells := 0, slots := 0, locals := 43 } [.ref (ad 58), .int p1, .int p2] F (fun r F' => WT cA ad F' ∧ rFr [58, 62, 63] F F' ∧ (True)) := by
  refine en_I rfl (by decide +kernel) (Nat.le_of_ble_eq_true rfl) ?_
  intro p e s m args below meth c ls0 Q S hK hZ hP hS hl0 hret
  have hl0 : lv_has ls0 4 [(0, .ref (ad 58)), (1, .int p1), (2, .int p2)] := hl0
  have hFr : rFr [58, 62, 63] F F := rFr.rf
  have hiX8 : ∀ w ∈ u_ws RX8 TX8 23, w ∈ wsX8_war := by decide +kernel
  refine lv_aload_n S.1 S.2.1 dX8_war_0 rfl (lv_at hl0 0 rfl) ?_
  refine lv_iload_n S.1 S.2.1 dX8_war_1 rfl (lv_at hl0 1 rfl) ?_
  obtain ⟨ty2, kn2, no2, en2, at2, sa2, sd2, wr2, pl2, va2, hF2, hb2_1, hb2_2, hb2_3, hb2_4, hb2_5, hb2_6⟩ := wt_m hW
  refine r_cVp (As := [.int p1]) (rest := []) S hK hZ hP hS hl0.1 58 (by decide) hF2 (C := RX8) rfl (c_X8_isRoad l D cA ad t hI F hW p1) (cwV 1 S.2.2.2.2 gX8_war_X8_isRoad rfl rfl rfl (by decide +kernel) ⟨Nat.le_of_ble_eq_true rfl, Nat.le_of_ble_eq_true rfl⟩) rfl rfl (Nat.le_of_ble_eq_true rfl) ⟨Nat.zero_le _, Nat.zero_le _⟩ dX8_war_2 (fun r1 hr1 => ?_)
  obtain ⟨⟨b3, hb3, rfl⟩, hx3⟩ := hr1
  have hx3 : b3 ≠ 0 → 0 ≤ p1.toInt ∧ p1.toInt ≤ _ := fun q => hx3 (nI_ne0 (by omega) (by omega))
  refine lv_if_ne (tgt := 11) S.1 S.2.1 dX8_war_5 (by decide) (fun c4 => ?_) (fun c4 => ?_)
  · skip
    have k5 := ci_ne (nI_toInt (n := b3) (by omega)) z_ti c4
    refine lv_aload_n S.1 S.2.1 dX8_war_11 rfl (lv_at hl0 0 rfl) ?_
    refine r_cVv (As := []) (rest := []) S hK hZ hP hS hl0.1 58 (by decide) hF2 (C := RX8) rfl (c_X8_keeps l D cA ad t hI F hW ) (cwV 0 S.2.2.2.2 gX8_war_X8_keeps rfl rfl rfl (by decide +kernel) ⟨Nat.le_of_ble_eq_true rfl, Nat.le_of_ble_eq_true rfl⟩) rfl rfl (Nat.le_of_ble_eq_true rfl) ⟨Nat.zero_le _, Nat.zero_le _⟩ dX8_war_12 (fun F6 H6 locs6 hr6 hP6 hS6 => ?_)
    obtain ⟨hW6, hFc6, hr6⟩ := hr6
    have hFr6 := hFr.tr hFc6 (by simp <;> first | omega | (simp only [isC, isJ] at *; omega))
    refine lv_aload_n S.1 S.2.1 dX8_war_15 rfl (lv_at hl0 0 rfl) ?_
    obtain ⟨ty7, kn7, no7, en7, at7, sa7, sd7, wr7, pl7, va7, hF7, hb7_1, hb7_2, hb7_3, hb7_4, hb7_5, hb7_6⟩ := wt_m hW6
    refine r_get S hK hP6 58 (by decide) hF7 (C := RX8) (T := TX8) (N := 23) hiX8 rfl 4 (by decide) (by decide +kernel) (v := .ref (ad 62)) rfl dX8_war_16 ?_
    refine lv_iconst (v := (nI 5)) S.1 S.2.1 dX8_war_19 (by decide +kernel) ?_
    obtain ⟨g8, hF8, hg8⟩ := wt_I hW6 (show (62, 7) ∈ rLI by decide)
    refine r_iald S hK hP6 62 (by decide) hF8 (vp_in_nI (show 5 < 7 by omega) (by omega)) dX8_war_20 ?_
    refine lv_topi (fun v10 e10 => ?_)
    refine lv_iload_n S.1 S.2.1 dX8_war_21 rfl (lv_at hl0 1 rfl) ?_
    refine lv_ishr S.1 S.2.1 dX8_war_22 ?_
    refine lv_topi (fun v11 e11 => ?_)
    refine lv_iconst (v := (nI 1)) S.1 S.2.1 dX8_war_23 (by decide +kernel) ?_
    refine lv_iand S.1 S.2.1 dX8_war_24 ?_
    refine lv_topi (fun v12 e12 => ?_)
    refine lv_istore_n (lv' := [(3, .int v12), (0, .ref (ad 58)), (1, .int p1), (2, .int p2)]) S.1 S.2.1 dX8_war_25 rfl hl0 (by decide) rfl (fun ls13 hl13 => ?_)
    refine lv_aload_n S.1 S.2.1 dX8_war_26 rfl (lv_at hl13 1 rfl) ?_
    refine r_get S hK hP6 58 (by decide) hF7 (C := RX8) (T := TX8) (N := 23) hiX8 rfl 4 (by decide) (by decide +kernel) (v := .ref (ad 62)) rfl dX8_war_27 ?_
    refine lv_iconst (v := (nI 5)) S.1 S.2.1 dX8_war_30 (by decide +kernel) ?_
    refine lv_iload_n S.1 S.2.1 dX8_war_31 rfl (lv_at hl13 3 rfl) ?_
    refine lv_if_eq (tgt := 48) S.1 S.2.1 dX8_war_32 (by decide) (fun c14 => ?_) (fun c14 => ?_)
    · skip
      have k15 := ci_eq rfl z_ti c14
      refine lv_aload_n S.1 S.2.1 dX8_war_48 rfl (lv_at hl13 1 rfl) ?_
      refine r_get S hK hP6 58 (by decide) hF7 (C := RX8) (T := TX8) (N := 23) hiX8 rfl 4 (by decide) (by decide +kernel) (v := .ref (ad 62)) rfl dX8_war_49 ?_
      refine lv_iconst (v := (nI 5)) S.1 S.2.1 dX8_war_52 (by decide +kernel) ?_
      refine r_iald S hK hP6 62 (by decide) hF8 (vp_in_nI (show 5 < 7 by omega) (by omega)) dX8_war_53 ?_
      refine lv_topi (fun v17 e17 => ?_)
      refine lv_iconst (v := (nI 1)) S.1 S.2.1 dX8_war_54 (by decide +kernel) ?_
      refine lv_iload_n S.1 S.2.1 dX8_war_55 rfl (lv_at hl13 2 rfl) ?_
      refine lv_ishl S.1 S.2.1 dX8_war_56 ?_
      refine lv_topi (fun v18 e18 => ?_)
      refine lv_iconst (v := (-1)) S.1 S.2.1 dX8_war_57 (by decide +kernel) ?_
      refine lv_ixor S.1 S.2.1 dX8_war_58 ?_
      refine lv_topi (fun v19 e19 => ?_)
      refine lv_iand S.1 S.2.1 dX8_war_59 ?_
      refine lv_topi (fun v20 e20 => ?_)
      refine r_iast S hI hK hP6 hS6 62 (by decide) hF8 (vp_in_nI (show 5 < 7 by omega) (by omega)) dX8_war_60 (fun F21 H21 locs21 eF21 hP21 hS21 => ?_)
      have hW21 := hW6.up eF21 (ok_I (show (62, 7) ∈ rLI by decide) (okI_up hg8 (by rw [nI_clamp (by omega)]; exact to_S (okS_o (by decide) (by decide) (by decide)))))
      have hFr21 := hFr6.up eF21 (by simp <;> first | omega | (simp only [isC, isJ] at *; omega))
      obtain ⟨gg21, eg21⟩ : ∃ g9, g9 = upd g8 (nI 5).toNatClampNeg v20 := ⟨_, rfl⟩
      have hF21 : F21 62 = .inl (cA 0, 7, .inl gg21) := by rw [eF21, eg21]; exact va_up_self _ _ _
      have hg21 : ∀ j, j < 7 → rPr 62 j (gg21 j) := by rw [eg21]; exact pr_up hg8 (by rw [nI_clamp (by omega)]; exact to_S (okS_o (by decide) (by decide) (by decide)))
      refine lv_iload_n S.1 S.2.1 dX8_war_61 rfl (lv_at hl13 0 rfl) ?_
      exact hret 62 _ _ _ _ _ dX8_war_62 rfl hP21 hS21 ⟨hW21, hFr21, trivial⟩
    have k22 := ci_ne rfl z_ti c14
    refine lv_aload_n S.1 S.2.1 dX8_war_35 rfl (lv_at hl13 1 rfl) ?_
    refine r_get S hK hP6 58 (by decide) hF7 (C := RX8) (T := TX8) (N := 23) hiX8 rfl 4 (by decide) (by decide +kernel) (v := .ref (ad 62)) rfl dX8_war_36 ?_
    refine lv_iconst (v := (nI 5)) S.1 S.2.1 dX8_war_39 (by decide +kernel) ?_
    refine r_iald S hK hP6 62 (by decide) hF8 (vp_in_nI (show 5 < 7 by omega) (by omega)) dX8_war_40 ?_
    refine lv_topi (fun v24 e24 => ?_)
    refine lv_iconst (v := (nI 1)) S.1 S.2.1 dX8_war_41 (by decide +kernel) ?_
    refine lv_iload_n S.1 S.2.1 dX8_war_42 rfl (lv_at hl13 2 rfl) ?_
    refine lv_ishl S.1 S.2.1 dX8_war_43 ?_
    refine lv_topi (fun v25 e25 => ?_)
    refine lv_ior S.1 S.2.1 dX8_war_44 ?_
    refine lv_topi (fun v26 e26 => ?_)
    refine lv_goto (tgt := 60) S.1 S.2.1 dX8_war_45 (by decide) ?_
    refine r_iast S hI hK hP6 hS6 62 (by decide) hF8 (vp_in_nI (show 5 < 7 by omega) (by omega)) dX8_war_60 (fun F27 H27 locs27 eF27 hP27 hS27 => ?_)
    have hW27 := hW6.up eF27 (ok_I (show (62, 7) ∈ rLI by decide) (okI_up hg8 (by rw [nI_clamp (by omega)]; exact to_S (okS_o (by decide) (by decide) (by decide)))))
    have hFr27 := hFr6.up eF27 (by simp <;> first | omega | (simp only [isC, isJ] at *; omega))
    obtain ⟨gg27, eg27⟩ : ∃ g9, g9 = upd g8 (nI 5).toNatClampNeg v26 := ⟨_, rfl⟩
    have hF27 : F27 62 = .inl (cA 0, 7, .inl gg27) := by rw [eF27, eg27]; exact va_up_self _ _ _
    have hg27 : ∀ j, j < 7 → rPr 62 j (gg27 j) := by rw [eg27]; exact pr_up hg8 (by rw [nI_clamp (by omega)]; exact to_S (okS_o (by decide) (by decide) (by decide)))
    refine lv_iload_n S.1 S.2.1 dX8_war_61 rfl (lv_at hl13 0 rfl) ?_
    exact hret 62 _ _ _ _ _ dX8_war_62 rfl hP27 hS27 ⟨hW27, hFr27, trivial⟩
  have k28 := ci_eq (nI_toInt (n := b3) (by omega)) z_ti c4
  refine lv_ldc (v := (-1000000001)) S.1 S.2.1 S.2.2.2.1 (S.2.2.2.2 (.constant RX8 126 (-1000000001)) (by decide +kernel)) dX8_war_8 ?_
  exact hret 10 _ _ _ _ _ dX8_war_10 rfl hP hS ⟨hW, hFr, trivial⟩
set_option maxHeartbeats 4000000 in
set_option maxRecDepth 100000 in
theorem c_X8_home (l : Launch) (D : va_G) (cA ad : Nat → Nat) (t : Nat) (hI : rI ad) (F : Nat → va_E) (hW : WT cA ad F) : MI l D cA ad t yX8_home wsX8_home { frames := 1, cells := 0, slots := 0, locals := 21 } [.ref (ad 58)] F (fun r F' => WT cA ad F' ∧ rFr [58, 62, 63] F F' ∧ (True)) := by
  refine en_I rfl (by decide +kernel) (Nat.le_of_ble_eq_true rfl) ?_
  intro p e s m args below meth c ls0 Q S hK hZ hP hS hl0 hret
  have hl0 : lv_has ls0 1 [(0, .ref (ad 58))] := hl0
  have hFr : rFr [58, 62, 63] F F := rFr.rf
  have hiX8 : ∀ w ∈ u_ws RX8 TX8 23, w ∈ wsX8_home := by decide +kernel
  refine lv_aload_n S.1 S.2.1 dX8_home_0 rfl (lv_at hl0 0 rfl) ?_
  obtain ⟨ty2, kn2, no2, en2, at2, sa2, sd2, wr2, pl2, va2, hF2, hb2_1, hb2_2, hb2_3, hb2_4, hb2_5, hb2_6⟩ := wt_m hW
  refine r_cVp (As := []) (rest := []) S hK hZ hP hS hl0.1 58 (by decide) hF2 (C := RX8) rfl (c_X8_goesOn l D cA ad t hI F hW ) (cwV 0 S.2.2.2.2 gX8_home_X8_goesOn rfl rfl rfl (by decide +kernel) ⟨Nat.le_of_ble_eq_true rfl, Nat.le_of_ble_eq_true rfl⟩) rfl rfl (Nat.le_of_ble_eq_true rfl) ⟨Nat.zero_le _, Nat.zero_le _⟩ dX8_home_1 (fun r1 hr1 => ?_)
  obtain ⟨b3, hb3, rfl⟩ := hr1
  refine lv_if_eq (tgt := 18) S.1 S.2.1 dX8_home_4 (by decide) (fun c4 => ?_) (fun c4 => ?_)
  · skip
    have k5 := ci_eq (nI_toInt (n := b3) (by omega)) z_ti c4
    refine lv_ldc (v := (-1000000003)) S.1 S.2.1 S.2.2.2.1 (S.2.2.2.2 (.constant RX8 139 (-1000000003)) (by decide +kernel)) dX8_home_18 ?_
    exact hret 20 _ _ _ _ _ dX8_home_20 rfl hP hS ⟨hW, hFr, trivial⟩
  have k6 := ci_ne (nI_toInt (n := b3) (by omega)) z_ti c4
  refine lv_aload_n S.1 S.2.1 dX8_home_7 rfl (lv_at hl0 0 rfl) ?_
  refine r_get S hK hP 58 (by decide) hF2 (C := RX8) (T := TX8) (N := 23) hiX8 rfl 4 (by decide) (by decide +kernel) (v := .ref (ad 62)) rfl dX8_home_8 ?_
  refine lv_iconst (v := (nI 1)) S.1 S.2.1 dX8_home_11 (by decide +kernel) ?_
  obtain ⟨g7, hF7, hg7⟩ := wt_I hW (show (62, 7) ∈ rLI by decide)
  refine r_iald S hK hP 62 (by decide) hF7 (vp_in_nI (show 1 < 7 by omega) (by omega)) dX8_home_12 ?_
  refine lv_topi (fun v9 e9 => ?_)
  refine lv_bipush (v := (nI 36)) S.1 S.2.1 dX8_home_13 (by decide +kernel) ?_
  refine lv_icmp_ge (tgt := 21) S.1 S.2.1 dX8_home_15 (by decide) (fun c10 => ?_) (fun c10 => ?_)
  · skip
    have k11 := ci_le (nI_toInt (n := 36) (by omega)) rfl c10
    refine lv_aload_n S.1 S.2.1 dX8_home_21 rfl (lv_at hl0 0 rfl) ?_
    refine r_cVv (As := []) (rest := []) S hK hZ hP hS hl0.1 58 (by decide) hF2 (C := RX8) rfl (c_X8_keeps l D cA ad t hI F hW ) (cwV 0 S.2.2.2.2 gX8_home_X8_keeps rfl rfl rfl (by decide +kernel) ⟨Nat.le_of_ble_eq_true rfl, Nat.le_of_ble_eq_true rfl⟩) rfl rfl (Nat.le_of_ble_eq_true rfl) ⟨Nat.zero_le _, Nat.zero_le _⟩ dX8_home_22 (fun F12 H12 locs12 hr12 hP12 hS12 => ?_)
    obtain ⟨hW12, hFc12, hr12⟩ := hr12
    have hFr12 := hFr.tr hFc12 (by simp <;> first | omega | (simp only [isC, isJ] at *; omega))
    refine lv_aload_n S.1 S.2.1 dX8_home_25 rfl (lv_at hl0 0 rfl) ?_
    obtain ⟨ty13, kn13, no13, en13, at13, sa13, sd13, wr13, pl13, va13, hF13, hb13_1, hb13_2, hb13_3, hb13_4, hb13_5, hb13_6⟩ := wt_m hW12
    refine r_get S hK hP12 58 (by decide) hF13 (C := RX8) (T := TX8) (N := 23) hiX8 rfl 4 (by decide) (by decide +kernel) (v := .ref (ad 62)) rfl dX8_home_26 ?_
    refine lv_bipush (v := (nI 6)) S.1 S.2.1 dX8_home_29 (by decide +kernel) ?_
    refine lv_iconst (v := (nI 1)) S.1 S.2.1 dX8_home_31 (by decide +kernel) ?_
    have hF14 := (hFc12 62 (by decide)).trans hF7
    refine r_iast S hI hK hP12 hS12 62 (by decide) hF14 (vp_in_nI (show 6 < 7 by omega) (by omega)) dX8_home_32 (fun F15 H15 locs15 eF15 hP15 hS15 => ?_)
    have hW15 := hW12.up eF15 (ok_I (show (62, 7) ∈ rLI by decide) (okI_up hg7 (by rw [nI_clamp (by omega)]; exact to_S (okS_o (by decide) (by decide) (by decide)))))
    have hFr15 := hFr12.up eF15 (by simp <;> first | omega | (simp only [isC, isJ] at *; omega))
    obtain ⟨gg15, eg15⟩ : ∃ g9, g9 = upd g7 (nI 6).toNatClampNeg (nI 1) := ⟨_, rfl⟩
    have hF15 : F15 62 = .inl (cA 0, 7, .inl gg15) := by rw [eF15, eg15]; exact va_up_self _ _ _
    have hg15 : ∀ j, j < 7 → rPr 62 j (gg15 j) := by rw [eg15]; exact pr_up hg7 (by rw [nI_clamp (by omega)]; exact to_S (okS_o (by decide) (by decide) (by decide)))
    refine lv_aload_n S.1 S.2.1 dX8_home_33 rfl (lv_at hl0 0 rfl) ?_
    have hF16 := (show F15 58 = F12 58 by rw [eF15]; exact va_up_ne _ _ (by decide)).trans hF13
    refine r_get S hK hP15 58 (by decide) hF16 (C := RX8) (T := TX8) (N := 23) hiX8 rfl 4 (by decide) (by decide +kernel) (v := .ref (ad 62)) rfl dX8_home_34 ?_
    refine lv_iconst (v := (nI 3)) S.1 S.2.1 dX8_home_37 (by decide +kernel) ?_
    refine r_iald S hK hP15 62 (by decide) hF15 (vp_in_nI (show 3 < 7 by omega) (by omega)) dX8_home_38 ?_
    refine lv_topi (fun v18 e18 => ?_)
    exact hret 39 _ _ _ _ _ dX8_home_39 rfl hP15 hS15 ⟨hW15, hFr15, trivial⟩
  have k19 := ci_nle (nI_toInt (n := 36) (by omega)) rfl c10
  refine lv_ldc (v := (-1000000003)) S.1 S.2.1 S.2.2.2.1 (S.2.2.2.2 (.constant RX8 139 (-1000000003)) (by decide +kernel)) dX8_home_18 ?_
  exact hret 20 _ _ _ _ _ dX8_home_20 rfl hP hS ⟨hW, hFr, trivial⟩
set_option maxHeartbeats 4000000 in
set_option maxRecDepth 100000 in
theorem c_X8_draw (l : Launch) (D : va_G) (cA ad : Nat → Nat) (t : Nat) (hI : rI ad) (F : Nat → va_E) (hW : WT cA ad F) (p1 : Int32) (hn : ¬ p1 = 0) : MI l D cA ad t yX8_draw wsX8_draw { frames := 0, cells := 0, slots := 0, locals := 0 } [.ref (ad 58), .int p1] F (fun r F' => WT cA ad F' ∧ rFr [58] F F' ∧ (True)) := by
  refine en_I rfl (by decide +kernel) (Nat.le_of_ble_eq_true rfl) ?_
  intro p e s m args below meth c ls0 Q S hK hZ hP hS hl0 hret
  have hl0 : lv_has ls0 4 [(0, .ref (ad 58)), (1, .int p1)] := hl0
  have hFr : rFr [58] F F := rFr.rf
  have hiX8 : ∀ w ∈ u_ws RX8 TX8 23, w ∈ wsX8_draw := by decide +kernel
  refine lv_aload_n S.1 S.2.1 dX8_draw_0 rfl (lv_at hl0 0 rfl) ?_
  obtain ⟨ty1, kn1, no1, en1, at1, sa1, sd1, wr1, pl1, va1, hF1, hb1_1, hb1_2, hb1_3, hb1_4, hb1_5, hb1_6⟩ := wt_m hW
  refine r_get S hK hP 58 (by decide) hF1 (C := RX8) (T := TX8) (N := 23) hiX8 rfl 9 (by decide) (by decide +kernel) (v := .int sd1) rfl dX8_draw_1 ?_
  refine lv_i2l S.1 S.2.1 dX8_draw_4 rfl ?_
  refine lv_topl (fun v2 e2 => ?_)
  refine lv_ldc2 (v := 1103515245) S.1 S.2.1 S.2.2.2.1 (S.2.2.2.2 (.constantLong RX8 156 (1103515245)) (by decide +kernel)) dX8_draw_5 ?_
  refine lv_lmul S.1 S.2.1 dX8_draw_8 ?_
  refine lv_topl (fun v3 e3 => ?_)
  refine lv_ldc2 (v := 12345) S.1 S.2.1 S.2.2.2.1 (S.2.2.2.2 (.constantLong RX8 158 (12345)) (by decide +kernel)) dX8_draw_9 ?_
  refine lv_ladd S.1 S.2.1 dX8_draw_12 ?_
  refine lv_topl (fun v4 e4 => ?_)
  refine lv_ldc2 (v := 2147483648) S.1 S.2.1 S.2.2.2.1 (S.2.2.2.2 (.constantLong RX8 160 (2147483648)) (by decide +kernel)) dX8_draw_13 ?_
  refine lv_lrem S.1 S.2.1 dX8_draw_16 (by decide +kernel) ?_
  refine lv_topl (fun v5 e5 => ?_)
  refine lv_lstore_n (lv' := [(2, .long v5), (0, .ref (ad 58)), (1, .int p1)]) S.1 S.2.1 dX8_draw_17 rfl hl0 (by decide) rfl (fun ls6 hl6 => ?_)
  refine lv_aload_n S.1 S.2.1 dX8_draw_18 rfl (lv_at hl6 1 rfl) ?_
  refine lv_lload_n S.1 S.2.1 dX8_draw_19 rfl (lv_at hl6 0 rfl) ?_
  refine lv_l2i S.1 S.2.1 dX8_draw_20 rfl ?_
  refine lv_topi (fun v7 e7 => ?_)
  refine r_put S hI hK hP hS 58 (by decide) hF1 (C := RX8) (T := TX8) (N := 23) hiX8 tyX8_ok nmX8 rfl 9 (by decide) (by decide +kernel) rfl rfl rfl (Nat.le_of_ble_eq_true rfl) dX8_draw_21 (fun F8 H8 locs8 eF8 hP8 hS8 => ?_)
  have hF8 : F8 58 = .inr (8, [.ref (ad 59), .int (nI ty1), .ref (ad 60), .ref (ad 61), .ref (ad 62), .ref (ad 63), .int (nI kn1), .ref (ad 64), .ref (ad 65), .int v7, .ref (ad 66), .int (nI no1), .ref (ad 67), .int (nI en1), .int (nI at1), .int wr1, .int pl1, .int va1, .int (nI sa1), .ref (ad 68), .ref (ad 69), .ref (ad 70), .ref (ad 71)]) := by rw [eF8]; exact va_up_self _ _ _
  have hW8 := hW.up eF8 (ok_m ⟨ty1, kn1, no1, en1, at1, sa1, v7, wr1, pl1, va1, rfl, by omega, by omega, by omega, by omega, by omega, by omega⟩)
  have hFr8 := hFr.up eF8 (by simp <;> first | omega | (simp only [isC, isJ] at *; omega))
  refine lv_lload_n S.1 S.2.1 dX8_draw_24 rfl (lv_at hl6 0 rfl) ?_
  refine lv_ldc2 (v := 65536) S.1 S.2.1 S.2.2.2.1 (S.2.2.2.2 (.constantLong RX8 162 (65536)) (by decide +kernel)) dX8_draw_25 ?_
  refine lv_ldiv S.1 S.2.1 dX8_draw_28 (by decide +kernel) ?_
  refine lv_topl (fun v9 e9 => ?_)
  refine lv_l2i S.1 S.2.1 dX8_draw_29 rfl ?_
  refine lv_topi (fun v10 e10 => ?_)
  refine lv_iload_n S.1 S.2.1 dX8_draw_30 rfl (lv_at hl6 2 rfl) ?_
  refine lv_irem S.1 S.2.1 dX8_draw_31 hn ?_
  refine lv_topi (fun v11 e11 => ?_)
  exact hret 32 _ _ _ _ _ dX8_draw_32 rfl hP8 hS8 ⟨hW8, hFr8, trivial⟩
set_option maxHeartbeats 4000000 in
set_option maxRecDepth 100000 in
theorem c_X8_least (l : Launch) (D : va_G) (cA ad : Nat → Nat) (t : Nat) (hI : rI ad) (F : Nat → va_E) (hW : WT cA ad F) (p1 : Int32) : MP l D cA ad t yX8_least wsX8_least { frames := 0, cells := 0, slots := 0, locals := 0 } [.int p1] F (fun r => -1 ≤ r.toInt ∧ r.toInt ≤ 7) := by
  refine en_P rfl (by decide +kernel) (Nat.le_of_ble_eq_true rfl) ?_
  intro p e s m args below meth c ls0 Q S hK hZ hP hS hl0 hret
  have hl0 : lv_has ls0 3 [(0, .int p1)] := hl0
  refine lv_iconst (v := (-1)) S.1 S.2.1 dX8_least_0 (by decide +kernel) ?_
  refine lv_istore_n (lv' := [(1, .int (-1)), (0, .int p1)]) S.1 S.2.1 dX8_least_1 rfl hl0 (by decide) rfl (fun ls1 hl1 => ?_)
  refine lv_bipush (v := (nI 7)) S.1 S.2.1 dX8_least_2 (by decide +kernel) ?_
  refine lv_istore_n (lv' := [(2, .int (nI 7)), (1, .int (-1)), (0, .int p1)]) S.1 S.2.1 dX8_least_4 rfl hl1 (by decide) rfl (fun ls2 hl2 => ?_)
  have lp3 : ∀ (n3 : Nat) (x3_2 : Int32) (x3_1 : Int32), -1 ≤ x3_2.toInt → x3_2.toInt ≤ 7 → -1 ≤ x3_1.toInt ∧ x3_1.toInt ≤ 7 → (x3_2.toInt + 1).toNat < n3 → ∀ (ls : Array Slot), lv_has ls 3 [(2, .int x3_2), (1, .int x3_1), (0, .int p1)] → W p l e { frames := 0, cells := 0, slots := 0, locals := 0 } s m args below meth c s.heap [] 0 0 Q (F0 m 5 ls []) := by
    intro n3
    induction n3 with
    | zero =>
      intro x3_2 x3_1 iv3_0 iv3_1 ix3_f hm3 ls3 hl3
      exact absurd hm3 (Nat.not_lt_zero _)
    | succ n3 ih3 =>
      intro x3_2 x3_1 iv3_0 iv3_1 ix3_f hm3 ls3 hl3
      refine lv_iload_n S.1 S.2.1 dX8_least_5 rfl (lv_at hl3 0 rfl) ?_
      refine lv_if_lt (tgt := 30) S.1 S.2.1 dX8_least_6 (by decide) (fun c4 => ?_) (fun c4 => ?_)
      · skip
        have k5 := ci_lt rfl z_ti c4
        refine lv_iload_n S.1 S.2.1 dX8_least_30 rfl (lv_at hl3 1 rfl) ?_
        exact hret 31 _ _ dX8_least_31 rfl (by omega)
      have k6 := ci_nlt rfl z_ti c4
      obtain ⟨j7, hj7, rfl⟩ := nI_of_le (x := x3_2) (B := 7) (by omega) (by omega)
      have kj7 := nI_toInt (n := j7) (by omega)
      refine lv_iload_n S.1 S.2.1 dX8_least_9 rfl (lv_at hl3 2 rfl) ?_
      refine lv_iload_n S.1 S.2.1 dX8_least_10 rfl (lv_at hl3 0 rfl) ?_
      refine lv_ishr S.1 S.2.1 dX8_least_11 ?_
      refine lv_topi (fun v8 e8 => ?_)
      refine lv_iconst (v := (nI 1)) S.1 S.2.1 dX8_least_12 (by decide +kernel) ?_
      refine lv_iand S.1 S.2.1 dX8_least_13 ?_
      refine lv_topi (fun v9 e9 => ?_)
      refine lv_iconst (v := (nI 1)) S.1 S.2.1 dX8_least_14 (by decide +kernel) ?_
      refine lv_icmp_ne (tgt := 22) S.1 S.2.1 dX8_least_15 (by decide) (fun c10 => ?_) (fun c10 => ?_)
      · skip
        have k11 := ci_ne rfl (nI_toInt (n := 1) (by omega)) c10
        refine lv_iload_n S.1 S.2.1 dX8_least_22 rfl (lv_at hl3 1 rfl) ?_
        refine lv_istore_n (lv' := [(1, .int x3_1), (2, .int (nI j7)), (0, .int p1)]) S.1 S.2.1 dX8_least_23 rfl hl3 (by decide) rfl (fun ls12 hl12 => ?_)
        obtain ⟨v13, e13⟩ : ∃ y : Int32, y = (nI j7) + Int32.ofInt (-1) := ⟨_, rfl⟩
        have kd13 : v13.toInt = ((j7 : Nat) : Int) - 1 := by rw [e13]; exact nI_dec (by omega)
        refine lv_iinc (v := v13) (lv' := [(2, .int v13), (1, .int x3_1), (0, .int p1)]) S.1 S.2.1 dX8_least_24 hl12 (k := 1) rfl e13.symm (by decide) rfl (fun ls13 hl13 => ?_)
        refine lv_goto (tgt := 5) S.1 S.2.1 dX8_least_27 (by decide) ?_
        have ta14 : (x3_1 : Int32).toInt = x3_1.toInt := rfl
        exact ih3 (v13) (x3_1) (by omega) (by omega) (by omega) (by omega) ls13 (lv_sub hl13 [0, 1, 2] rfl)
      have k15 := ci_eq rfl (nI_toInt (n := 1) (by omega)) c10
      refine lv_iload_n S.1 S.2.1 dX8_least_18 rfl (lv_at hl3 0 rfl) ?_
      refine lv_goto (tgt := 23) S.1 S.2.1 dX8_least_19 (by decide) ?_
      refine lv_istore_n (lv' := [(1, .int (nI j7)), (2, .int (nI j7)), (0, .int p1)]) S.1 S.2.1 dX8_least_23 rfl hl3 (by decide) rfl (fun ls16 hl16 => ?_)
      obtain ⟨v17, e17⟩ : ∃ y : Int32, y = (nI j7) + Int32.ofInt (-1) := ⟨_, rfl⟩
      have kd17 : v17.toInt = ((j7 : Nat) : Int) - 1 := by rw [e17]; exact nI_dec (by omega)
      refine lv_iinc (v := v17) (lv' := [(2, .int v17), (1, .int (nI j7)), (0, .int p1)]) S.1 S.2.1 dX8_least_24 hl16 (k := 1) rfl e17.symm (by decide) rfl (fun ls17 hl17 => ?_)
      refine lv_goto (tgt := 5) S.1 S.2.1 dX8_least_27 (by decide) ?_
      have ta18 : ((nI j7) : Int32).toInt = ((j7 : Nat) : Int) := (nI_toInt (n := j7) (by omega))
      exact ih3 (v17) ((nI j7)) (by omega) (by omega) (by omega) (by omega) ls17 (lv_sub hl17 [0, 1, 2] rfl)
  have kt19 := nI_toInt (n := 7) (by omega)
  have ta20 : ((-1) : Int32).toInt = (-1 : Int) := (show ((-1) : Int32).toInt = -1 by decide +kernel)
  exact lp3 (((nI 7).toInt + 1).toNat + 1) ((nI 7)) ((-1)) (by omega) (by omega) (by omega) (by omega) ls2 (lv_sub hl2 [0, 1, 2] rfl)
set_option maxHeartbeats 4000000 in
set_option maxRecDepth 100000 in
theorem c_X8_drifts (l : Launch) (D : va_G) (cA ad : Nat → Nat) (t : Nat) (hI : rI ad) (F : Nat → va_E) (hW : WT cA ad F) : MV l D cA ad t yX8_drifts wsX8_drifts { frames := 2, cells := 0, slots := 0, locals := 48 } [.ref (ad 58)] F (fun F' => WT cA ad F' ∧ rFr [58, 62] F F' ∧ (True)) := by
  refine en_V rfl (by decide +kernel) (Nat.le_of_ble_eq_true rfl) ?_
  intro p e s m args below meth c ls0 Q S hK hZ hP hS hl0 hret
  have hl0 : lv_has ls0 3 [(0, .ref (ad 58))] := hl0
  have hFr : rFr [58, 62] F F := rFr.rf
  have hiX8 : ∀ w ∈ u_ws RX8 TX8 23, w ∈ wsX8_drifts := by decide +kernel
  refine lv_aload_n S.1 S.2.1 dX8_drifts_0 rfl (lv_at hl0 0 rfl) ?_
  refine lv_iconst (v := (nI 4)) S.1 S.2.1 dX8_drifts_1 (by decide +kernel) ?_
  obtain ⟨ty2, kn2, no2, en2, at2, sa2, sd2, wr2, pl2, va2, hF2, hb2_1, hb2_2, hb2_3, hb2_4, hb2_5, hb2_6⟩ := wt_m hW
  refine r_cVi (As := [.int (nI 4)]) (rest := []) S hK hZ hP hS hl0.1 58 (by decide) hF2 (C := RX8) rfl (c_X8_draw l D cA ad t hI F hW (nI 4) (by decide +kernel)) (cwV 1 S.2.2.2.2 gX8_drifts_X8_draw rfl rfl rfl (by decide +kernel) ⟨Nat.le_of_ble_eq_true rfl, Nat.le_of_ble_eq_true rfl⟩) rfl rfl (Nat.le_of_ble_eq_true rfl) ⟨Nat.zero_le _, Nat.zero_le _⟩ dX8_drifts_2 (fun r1 F1 H1 locs1 hr1 hP1 hS1 => ?_)
  obtain ⟨hW1, hFc1, hr1⟩ := hr1
  have hFr1 := hFr.tr hFc1 (by simp <;> first | omega | (simp only [isC, isJ] at *; omega))
  refine lv_if_ne (tgt := 38) S.1 S.2.1 dX8_drifts_5 (by decide) (fun c3 => ?_) (fun c3 => ?_)
  · skip
    have k4 := ci_ne rfl z_ti c3
    refine lv_aload_n S.1 S.2.1 dX8_drifts_38 rfl (lv_at hl0 0 rfl) ?_
    refine lv_iconst (v := (nI 2)) S.1 S.2.1 dX8_drifts_39 (by decide +kernel) ?_
    obtain ⟨ty6, kn6, no6, en6, at6, sa6, sd6, wr6, pl6, va6, hF6, hb6_1, hb6_2, hb6_3, hb6_4, hb6_5, hb6_6⟩ := wt_m hW1
    refine r_cVi (As := [.int (nI 2)]) (rest := []) S hK hZ hP1 hS1 hl0.1 58 (by decide) hF6 (C := RX8) rfl (c_X8_draw l D cA ad t hI F1 hW1 (nI 2) (by decide +kernel)) (cwV 1 S.2.2.2.2 gX8_drifts_X8_draw rfl rfl rfl (by decide +kernel) ⟨Nat.le_of_ble_eq_true rfl, Nat.le_of_ble_eq_true rfl⟩) rfl rfl (Nat.le_of_ble_eq_true rfl) ⟨Nat.zero_le _, Nat.zero_le _⟩ dX8_drifts_40 (fun r5 F5 H5 locs5 hr5 hP5 hS5 => ?_)
    obtain ⟨hW5, hFc5, hr5⟩ := hr5
    have hFr5 := hFr1.tr hFc5 (by simp <;> first | omega | (simp only [isC, isJ] at *; omega))
    refine lv_if_ne (tgt := 57) S.1 S.2.1 dX8_drifts_43 (by decide) (fun c7 => ?_) (fun c7 => ?_)
    · skip
      have k8 := ci_ne rfl z_ti c7
      refine lv_iconst (v := (nI 0)) S.1 S.2.1 dX8_drifts_57 (by decide +kernel) ?_
      refine lv_istore_n (lv' := [(1, .int (nI 0)), (0, .ref (ad 58))]) S.1 S.2.1 dX8_drifts_58 rfl hl0 (by decide) rfl (fun ls9 hl9 => ?_)
      refine lv_aload_n S.1 S.2.1 dX8_drifts_59 rfl (lv_at hl9 1 rfl) ?_
      refine lv_aload_n S.1 S.2.1 dX8_drifts_60 rfl (lv_at hl9 1 rfl) ?_
      obtain ⟨ty10, kn10, no10, en10, at10, sa10, sd10, wr10, pl10, va10, hF10, hb10_1, hb10_2, hb10_3, hb10_4, hb10_5, hb10_6⟩ := wt_m hW5
      refine r_get S hK hP5 58 (by decide) hF10 (C := RX8) (T := TX8) (N := 23) hiX8 rfl 4 (by decide) (by decide +kernel) (v := .ref (ad 62)) rfl dX8_drifts_61 ?_
      refine lv_iconst (v := (nI 0)) S.1 S.2.1 dX8_drifts_64 (by decide +kernel) ?_
      obtain ⟨g11, hF11, hg11⟩ := wt_I hW5 (show (62, 7) ∈ rLI by decide)
      refine r_iald S hK hP5 62 (by decide) hF11 (vp_in_nI (show 0 < 7 by omega) (by omega)) dX8_drifts_65 ?_
      refine lv_topi (fun v13 e13 => ?_)
      obtain ⟨b14, hb14, he14⟩ := (pr_S (hg11 0 (by decide))).1 rfl
      obtain rfl : v13 = nI b14 := e13.trans he14
      refine lv_aload_n S.1 S.2.1 dX8_drifts_66 rfl (lv_at hl9 1 rfl) ?_
      refine r_get S hK hP5 58 (by decide) hF10 (C := RX8) (T := TX8) (N := 23) hiX8 rfl 4 (by decide) (by decide +kernel) (v := .ref (ad 62)) rfl dX8_drifts_67 ?_
      refine lv_iconst (v := (nI 5)) S.1 S.2.1 dX8_drifts_70 (by decide +kernel) ?_
      refine r_iald S hK hP5 62 (by decide) hF11 (vp_in_nI (show 5 < 7 by omega) (by omega)) dX8_drifts_71 ?_
      refine lv_topi (fun v16 e16 => ?_)
      refine r_cVp (As := [.int (nI b14), .int v16]) (rest := []) S hK hZ hP5 hS5 hl9.1 58 (by decide) hF10 (C := RX8) rfl (c_X8_walks l D cA ad t hI F5 hW5 (nI b14) v16) (cwV 2 S.2.2.2.2 gX8_drifts_X8_walks rfl rfl rfl (by decide +kernel) ⟨Nat.le_of_ble_eq_true rfl, Nat.le_of_ble_eq_true rfl⟩) rfl rfl (Nat.le_of_ble_eq_true rfl) ⟨Nat.zero_le _, Nat.zero_le _⟩ dX8_drifts_72 (fun r17 hr17 => ?_)
      refine r_cSp (As := [.int r17]) (rest := []) S hK hZ hP5 hS5 hl9.1 (c_X8_least l D cA ad t hI F5 hW5 r17) (va_cwS 1 S.2.2.2.2 gX8_drifts_X8_least rfl rfl rfl (by decide +kernel) ⟨Nat.le_of_ble_eq_true rfl, Nat.le_of_ble_eq_true rfl⟩) rfl rfl (Nat.le_of_ble_eq_true rfl) ⟨Nat.zero_le _, Nat.zero_le _⟩ dX8_drifts_75 (fun r18 hr18 => ?_)
      refine lv_istore_n (lv' := [(2, .int r18), (1, .int (nI 0)), (0, .ref (ad 58))]) S.1 S.2.1 dX8_drifts_78 rfl hl9 (by decide) rfl (fun ls19 hl19 => ?_)
      refine lv_iload_n S.1 S.2.1 dX8_drifts_79 rfl (lv_at hl19 1 rfl) ?_
      refine lv_if_eq (tgt := 91) S.1 S.2.1 dX8_drifts_80 (by decide) (fun c20 => ?_) (fun c20 => absurd (by decide +kernel) c20)
      have k21 := ci_eq (nI_toInt (n := 0) (by omega)) z_ti c20
      refine lv_iload_n S.1 S.2.1 dX8_drifts_91 rfl (lv_at hl19 0 rfl) ?_
      refine lv_iconst (v := (-1)) S.1 S.2.1 dX8_drifts_92 (by decide +kernel) ?_
      refine lv_icmp_eq (tgt := 101) S.1 S.2.1 dX8_drifts_93 (by decide) (fun c22 => ?_) (fun c22 => ?_)
      · skip
        have k23 := ci_eq rfl (show ((-1) : Int32).toInt = -1 by decide +kernel) c22
        exact hret 101 _ _ _ _ dX8_drifts_101 hP5 hS5 ⟨hW5, hFr5, trivial⟩
      have k24 := ci_ne rfl (show ((-1) : Int32).toInt = -1 by decide +kernel) c22
      obtain ⟨j25, hj25, rfl⟩ := nI_of_le (x := r18) (B := 7) (by omega) (by omega)
      have kj25 := nI_toInt (n := j25) (by omega)
      refine lv_aload_n S.1 S.2.1 dX8_drifts_96 rfl (lv_at hl19 2 rfl) ?_
      refine lv_iload_n S.1 S.2.1 dX8_drifts_97 rfl (lv_at hl19 0 rfl) ?_
      refine r_cVv (As := [.int (nI j25)]) (rest := []) S hK hZ hP5 hS5 hl19.1 58 (by decide) hF10 (C := RX8) rfl (c_X8_goesTo l D cA ad t hI F5 hW5 (j25) (by omega)) (cwV 1 S.2.2.2.2 gX8_drifts_X8_goesTo rfl rfl rfl (by decide +kernel) ⟨Nat.le_of_ble_eq_true rfl, Nat.le_of_ble_eq_true rfl⟩) rfl rfl (Nat.le_of_ble_eq_true rfl) ⟨Nat.zero_le _, Nat.zero_le _⟩ dX8_drifts_98 (fun F26 H26 locs26 hr26 hP26 hS26 => ?_)
      obtain ⟨hW26, hFc26, hr26⟩ := hr26
      have hFr26 := hFr5.tr hFc26 (by simp <;> first | omega | (simp only [isC, isJ] at *; omega))
      exact hret 101 _ _ _ _ dX8_drifts_101 hP26 hS26 ⟨hW26, hFr26, trivial⟩
    have k27 := ci_eq rfl z_ti c7
    refine lv_aload_n S.1 S.2.1 dX8_drifts_46 rfl (lv_at hl0 0 rfl) ?_
    obtain ⟨ty29, kn29, no29, en29, at29, sa29, sd29, wr29, pl29, va29, hF29, hb29_1, hb29_2, hb29_3, hb29_4, hb29_5, hb29_6⟩ := wt_m hW5
    refine r_cVp (As := []) (rest := []) S hK hZ hP5 hS5 hl0.1 58 (by decide) hF29 (C := RX8) rfl (c_X8_mayStay l D cA ad t hI F5 hW5 ) (cwV 0 S.2.2.2.2 gX8_drifts_X8_mayStay rfl rfl rfl (by decide +kernel) ⟨Nat.le_of_ble_eq_true rfl, Nat.le_of_ble_eq_true rfl⟩) rfl rfl (Nat.le_of_ble_eq_true rfl) ⟨Nat.zero_le _, Nat.zero_le _⟩ dX8_drifts_47 (fun r28 hr28 => ?_)
    obtain ⟨⟨b30, hb30, rfl⟩, hx30⟩ := hr28
    obtain ⟨g31, hF31, hg31⟩ := wt_I hW5 (show (62, 7) ∈ rLI by decide)
    obtain ⟨b32, hb32, he32⟩ := (pr_S (hg31 2 (by decide))).2.1 rfl
    have hN33 := aN_of (j := 2) hF31 he32 (by omega)
    obtain ⟨g34, hF34, hg34⟩ := wt_I hW5 (show (60, 52) ∈ rLI by decide)
    obtain ⟨b35, hb35, he35⟩ := (pr_T (by decide) (hg34 0 (by decide))).1 rfl
    have hN36 := aN_of (j := 0) hF34 he35 (by omega)
    have hy30 : b30 ≠ 0 → b32 < b35 := fun q => by have h9 := hx30 (nI_ne0 (by omega) (by omega)); omega
    refine lv_if_eq (tgt := 57) S.1 S.2.1 dX8_drifts_50 (by decide) (fun c37 => ?_) (fun c37 => ?_)
    · skip
      have k38 := ci_eq (nI_toInt (n := b30) (by omega)) z_ti c37
      refine lv_iconst (v := (nI 0)) S.1 S.2.1 dX8_drifts_57 (by decide +kernel) ?_
      refine lv_istore_n (lv' := [(1, .int (nI 0)), (0, .ref (ad 58))]) S.1 S.2.1 dX8_drifts_58 rfl hl0 (by decide) rfl (fun ls39 hl39 => ?_)
      refine lv_aload_n S.1 S.2.1 dX8_drifts_59 rfl (lv_at hl39 1 rfl) ?_
      refine lv_aload_n S.1 S.2.1 dX8_drifts_60 rfl (lv_at hl39 1 rfl) ?_
      refine r_get S hK hP5 58 (by decide) hF29 (C := RX8) (T := TX8) (N := 23) hiX8 rfl 4 (by decide) (by decide +kernel) (v := .ref (ad 62)) rfl dX8_drifts_61 ?_
      refine lv_iconst (v := (nI 0)) S.1 S.2.1 dX8_drifts_64 (by decide +kernel) ?_
      refine r_iald S hK hP5 62 (by decide) hF31 (vp_in_nI (show 0 < 7 by omega) (by omega)) dX8_drifts_65 ?_
      refine lv_topi (fun v41 e41 => ?_)
      obtain ⟨b42, hb42, he42⟩ := (pr_S (hg31 0 (by decide))).1 rfl
      obtain rfl : v41 = nI b42 := e41.trans he42
      refine lv_aload_n S.1 S.2.1 dX8_drifts_66 rfl (lv_at hl39 1 rfl) ?_
      refine r_get S hK hP5 58 (by decide) hF29 (C := RX8) (T := TX8) (N := 23) hiX8 rfl 4 (by decide) (by decide +kernel) (v := .ref (ad 62)) rfl dX8_drifts_67 ?_
      refine lv_iconst (v := (nI 5)) S.1 S.2.1 dX8_drifts_70 (by decide +kernel) ?_
      refine r_iald S hK hP5 62 (by decide) hF31 (vp_in_nI (show 5 < 7 by omega) (by omega)) dX8_drifts_71 ?_
      refine lv_topi (fun v44 e44 => ?_)
      refine r_cVp (As := [.int (nI b42), .int v44]) (rest := []) S hK hZ hP5 hS5 hl39.1 58 (by decide) hF29 (C := RX8) rfl (c_X8_walks l D cA ad t hI F5 hW5 (nI b42) v44) (cwV 2 S.2.2.2.2 gX8_drifts_X8_walks rfl rfl rfl (by decide +kernel) ⟨Nat.le_of_ble_eq_true rfl, Nat.le_of_ble_eq_true rfl⟩) rfl rfl (Nat.le_of_ble_eq_true rfl) ⟨Nat.zero_le _, Nat.zero_le _⟩ dX8_drifts_72 (fun r45 hr45 => ?_)
      refine r_cSp (As := [.int r45]) (rest := []) S hK hZ hP5 hS5 hl39.1 (c_X8_least l D cA ad t hI F5 hW5 r45) (va_cwS 1 S.2.2.2.2 gX8_drifts_X8_least rfl rfl rfl (by decide +kernel) ⟨Nat.le_of_ble_eq_true rfl, Nat.le_of_ble_eq_true rfl⟩) rfl rfl (Nat.le_of_ble_eq_true rfl) ⟨Nat.zero_le _, Nat.zero_le _⟩ dX8_drifts_75 (fun r46 hr46 => ?_)
      refine lv_istore_n (lv' := [(2, .int r46), (1, .int (nI 0)), (0, .ref (ad 58))]) S.1 S.2.1 dX8_drifts_78 rfl hl39 (by decide) rfl (fun ls47 hl47 => ?_)
      refine lv_iload_n S.1 S.2.1 dX8_drifts_79 rfl (lv_at hl47 1 rfl) ?_
      refine lv_if_eq (tgt := 91) S.1 S.2.1 dX8_drifts_80 (by decide) (fun c48 => ?_) (fun c48 => absurd (by decide +kernel) c48)
      have k49 := ci_eq (nI_toInt (n := 0) (by omega)) z_ti c48
      refine lv_iload_n S.1 S.2.1 dX8_drifts_91 rfl (lv_at hl47 0 rfl) ?_
      refine lv_iconst (v := (-1)) S.1 S.2.1 dX8_drifts_92 (by decide +kernel) ?_
      refine lv_icmp_eq (tgt := 101) S.1 S.2.1 dX8_drifts_93 (by decide) (fun c50 => ?_) (fun c50 => ?_)
      · skip
        have k51 := ci_eq rfl (show ((-1) : Int32).toInt = -1 by decide +kernel) c50
        exact hret 101 _ _ _ _ dX8_drifts_101 hP5 hS5 ⟨hW5, hFr5, trivial⟩
      have k52 := ci_ne rfl (show ((-1) : Int32).toInt = -1 by decide +kernel) c50
      obtain ⟨j53, hj53, rfl⟩ := nI_of_le (x := r46) (B := 7) (by omega) (by omega)
      have kj53 := nI_toInt (n := j53) (by omega)
      refine lv_aload_n S.1 S.2.1 dX8_drifts_96 rfl (lv_at hl47 2 rfl) ?_
      refine lv_iload_n S.1 S.2.1 dX8_drifts_97 rfl (lv_at hl47 0 rfl) ?_
      refine r_cVv (As := [.int (nI j53)]) (rest := []) S hK hZ hP5 hS5 hl47.1 58 (by decide) hF29 (C := RX8) rfl (c_X8_goesTo l D cA ad t hI F5 hW5 (j53) (by omega)) (cwV 1 S.2.2.2.2 gX8_drifts_X8_goesTo rfl rfl rfl (by decide +kernel) ⟨Nat.le_of_ble_eq_true rfl, Nat.le_of_ble_eq_true rfl⟩) rfl rfl (Nat.le_of_ble_eq_true rfl) ⟨Nat.zero_le _, Nat.zero_le _⟩ dX8_drifts_98 (fun F54 H54 locs54 hr54 hP54 hS54 => ?_)
      obtain ⟨hW54, hFc54, hr54⟩ := hr54
      have hFr54 := hFr5.tr hFc54 (by simp <;> first | omega | (simp only [isC, isJ] at *; omega))
      exact hret 101 _ _ _ _ dX8_drifts_101 hP54 hS54 ⟨hW54, hFr54, trivial⟩
    have k55 := ci_ne (nI_toInt (n := b30) (by omega)) z_ti c37
    refine lv_iconst (v := (nI 1)) S.1 S.2.1 dX8_drifts_53 (by decide +kernel) ?_
    refine lv_goto (tgt := 58) S.1 S.2.1 dX8_drifts_54 (by decide) ?_
    refine lv_istore_n (lv' := [(1, .int (nI 1)), (0, .ref (ad 58))]) S.1 S.2.1 dX8_drifts_58 rfl hl0 (by decide) rfl (fun ls56 hl56 => ?_)
    refine lv_aload_n S.1 S.2.1 dX8_drifts_59 rfl (lv_at hl56 1 rfl) ?_
    refine lv_aload_n S.1 S.2.1 dX8_drifts_60 rfl (lv_at hl56 1 rfl) ?_
    refine r_get S hK hP5 58 (by decide) hF29 (C := RX8) (T := TX8) (N := 23) hiX8 rfl 4 (by decide) (by decide +kernel) (v := .ref (ad 62)) rfl dX8_drifts_61 ?_
    refine lv_iconst (v := (nI 0)) S.1 S.2.1 dX8_drifts_64 (by decide +kernel) ?_
    refine r_iald S hK hP5 62 (by decide) hF31 (vp_in_nI (show 0 < 7 by omega) (by omega)) dX8_drifts_65 ?_
    refine lv_topi (fun v58 e58 => ?_)
    obtain ⟨b59, hb59, he59⟩ := (pr_S (hg31 0 (by decide))).1 rfl
    obtain rfl : v58 = nI b59 := e58.trans he59
    refine lv_aload_n S.1 S.2.1 dX8_drifts_66 rfl (lv_at hl56 1 rfl) ?_
    refine r_get S hK hP5 58 (by decide) hF29 (C := RX8) (T := TX8) (N := 23) hiX8 rfl 4 (by decide) (by decide +kernel) (v := .ref (ad 62)) rfl dX8_drifts_67 ?_
    refine lv_iconst (v := (nI 5)) S.1 S.2.1 dX8_drifts_70 (by decide +kernel) ?_
    refine r_iald S hK hP5 62 (by decide) hF31 (vp_in_nI (show 5 < 7 by omega) (by omega)) dX8_drifts_71 ?_
    refine lv_topi (fun v61 e61 => ?_)
    refine r_cVp (As := [.int (nI b59), .int v61]) (rest := []) S hK hZ hP5 hS5 hl56.1 58 (by decide) hF29 (C := RX8) rfl (c_X8_walks l D cA ad t hI F5 hW5 (nI b59) v61) (cwV 2 S.2.2.2.2 gX8_drifts_X8_walks rfl rfl rfl (by decide +kernel) ⟨Nat.le_of_ble_eq_true rfl, Nat.le_of_ble_eq_true rfl⟩) rfl rfl (Nat.le_of_ble_eq_true rfl) ⟨Nat.zero_le _, Nat.zero_le _⟩ dX8_drifts_72 (fun r62 hr62 => ?_)
    refine r_cSp (As := [.int r62]) (rest := []) S hK hZ hP5 hS5 hl56.1 (c_X8_least l D cA ad t hI F5 hW5 r62) (va_cwS 1 S.2.2.2.2 gX8_drifts_X8_least rfl rfl rfl (by decide +kernel) ⟨Nat.le_of_ble_eq_true rfl, Nat.le_of_ble_eq_true rfl⟩) rfl rfl (Nat.le_of_ble_eq_true rfl) ⟨Nat.zero_le _, Nat.zero_le _⟩ dX8_drifts_75 (fun r63 hr63 => ?_)
    refine lv_istore_n (lv' := [(2, .int r63), (1, .int (nI 1)), (0, .ref (ad 58))]) S.1 S.2.1 dX8_drifts_78 rfl hl56 (by decide) rfl (fun ls64 hl64 => ?_)
    refine lv_iload_n S.1 S.2.1 dX8_drifts_79 rfl (lv_at hl64 1 rfl) ?_
    refine lv_if_eq (tgt := 91) S.1 S.2.1 dX8_drifts_80 (by decide) (fun c65 => absurd c65 (by decide +kernel)) (fun c65 => ?_)
    have k66 := ci_ne (nI_toInt (n := 1) (by omega)) z_ti c65
    refine lv_aload_n S.1 S.2.1 dX8_drifts_83 rfl (lv_at hl64 2 rfl) ?_
    have hN68 := aN_of (j := 2) hF31 he32 (by omega)
    have hN69 := aN_of (j := 0) hF34 he35 (by omega)
    refine r_cVi (As := []) (rest := []) S hK hZ hP5 hS5 hl64.1 58 (by decide) hF29 (C := RX8) rfl (c_X8_stays l D cA ad t hI F5 hW5 (by omega)) (cwV 0 S.2.2.2.2 gX8_drifts_X8_stays rfl rfl rfl (by decide +kernel) ⟨Nat.le_of_ble_eq_true rfl, Nat.le_of_ble_eq_true rfl⟩) rfl rfl (Nat.le_of_ble_eq_true rfl) ⟨Nat.zero_le _, Nat.zero_le _⟩ dX8_drifts_84 (fun r67 F67 H67 locs67 hr67 hP67 hS67 => ?_)
    obtain ⟨hW67, hFc67, hr67⟩ := hr67
    have hFr67 := hFr5.tr hFc67 (by simp <;> first | omega | (simp only [isC, isJ] at *; omega))
    refine lv_pop S.1 S.2.1 dX8_drifts_87 rfl ?_
    refine lv_goto (tgt := 101) S.1 S.2.1 dX8_drifts_88 (by decide) ?_
    exact hret 101 _ _ _ _ dX8_drifts_101 hP67 hS67 ⟨hW67, hFr67, trivial⟩
  have k70 := ci_eq rfl z_ti c3
  refine lv_aload_n S.1 S.2.1 dX8_drifts_8 rfl (lv_at hl0 0 rfl) ?_
  obtain ⟨ty71, kn71, no71, en71, at71, sa71, sd71, wr71, pl71, va71, hF71, hb71_1, hb71_2, hb71_3, hb71_4, hb71_5, hb71_6⟩ := wt_m hW1
  refine r_get S hK hP1 58 (by decide) hF71 (C := RX8) (T := TX8) (N := 23) hiX8 rfl 2 (by decide) (by decide +kernel) (v := .ref (ad 60)) rfl dX8_drifts_9 ?_
  refine lv_iconst (v := (nI 3)) S.1 S.2.1 dX8_drifts_12 (by decide +kernel) ?_
  obtain ⟨g72, hF72, hg72⟩ := wt_I hW1 (show (60, 52) ∈ rLI by decide)
  refine r_iald S hK hP1 60 (by decide) hF72 (vp_in_nI (show 3 < 52 by omega) (by omega)) dX8_drifts_13 ?_
  refine lv_topi (fun v74 e74 => ?_)
  obtain ⟨b75, hb75, he75⟩ := (pr_T (by decide) (hg72 3 (by decide))).2.2 rfl
  obtain rfl : v74 = nI b75 := e74.trans he75
  refine lv_if_le (tgt := 38) S.1 S.2.1 dX8_drifts_14 (by decide) (fun c76 => ?_) (fun c76 => ?_)
  · skip
    have k77 := ci_le (nI_toInt (n := b75) (by omega)) z_ti c76
    refine lv_aload_n S.1 S.2.1 dX8_drifts_38 rfl (lv_at hl0 0 rfl) ?_
    refine lv_iconst (v := (nI 2)) S.1 S.2.1 dX8_drifts_39 (by decide +kernel) ?_
    refine r_cVi (As := [.int (nI 2)]) (rest := []) S hK hZ hP1 hS1 hl0.1 58 (by decide) hF71 (C := RX8) rfl (c_X8_draw l D cA ad t hI F1 hW1 (nI 2) (by decide +kernel)) (cwV 1 S.2.2.2.2 gX8_drifts_X8_draw rfl rfl rfl (by decide +kernel) ⟨Nat.le_of_ble_eq_true rfl, Nat.le_of_ble_eq_true rfl⟩) rfl rfl (Nat.le_of_ble_eq_true rfl) ⟨Nat.zero_le _, Nat.zero_le _⟩ dX8_drifts_40 (fun r78 F78 H78 locs78 hr78 hP78 hS78 => ?_)
    obtain ⟨hW78, hFc78, hr78⟩ := hr78
    have hFr78 := hFr1.tr hFc78 (by simp <;> first | omega | (simp only [isC, isJ] at *; omega))
    refine lv_if_ne (tgt := 57) S.1 S.2.1 dX8_drifts_43 (by decide) (fun c79 => ?_) (fun c79 => ?_)
    · skip
      have k80 := ci_ne rfl z_ti c79
      refine lv_iconst (v := (nI 0)) S.1 S.2.1 dX8_drifts_57 (by decide +kernel) ?_
      refine lv_istore_n (lv' := [(1, .int (nI 0)), (0, .ref (ad 58))]) S.1 S.2.1 dX8_drifts_58 rfl hl0 (by decide) rfl (fun ls81 hl81 => ?_)
      refine lv_aload_n S.1 S.2.1 dX8_drifts_59 rfl (lv_at hl81 1 rfl) ?_
      refine lv_aload_n S.1 S.2.1 dX8_drifts_60 rfl (lv_at hl81 1 rfl) ?_
      obtain ⟨ty82, kn82, no82, en82, at82, sa82, sd82, wr82, pl82, va82, hF82, hb82_1, hb82_2, hb82_3, hb82_4, hb82_5, hb82_6⟩ := wt_m hW78
      refine r_get S hK hP78 58 (by decide) hF82 (C := RX8) (T := TX8) (N := 23) hiX8 rfl 4 (by decide) (by decide +kernel) (v := .ref (ad 62)) rfl dX8_drifts_61 ?_
      refine lv_iconst (v := (nI 0)) S.1 S.2.1 dX8_drifts_64 (by decide +kernel) ?_
      obtain ⟨g83, hF83, hg83⟩ := wt_I hW78 (show (62, 7) ∈ rLI by decide)
      refine r_iald S hK hP78 62 (by decide) hF83 (vp_in_nI (show 0 < 7 by omega) (by omega)) dX8_drifts_65 ?_
      refine lv_topi (fun v85 e85 => ?_)
      obtain ⟨b86, hb86, he86⟩ := (pr_S (hg83 0 (by decide))).1 rfl
      obtain rfl : v85 = nI b86 := e85.trans he86
      refine lv_aload_n S.1 S.2.1 dX8_drifts_66 rfl (lv_at hl81 1 rfl) ?_
      refine r_get S hK hP78 58 (by decide) hF82 (C := RX8) (T := TX8) (N := 23) hiX8 rfl 4 (by decide) (by decide +kernel) (v := .ref (ad 62)) rfl dX8_drifts_67 ?_
      refine lv_iconst (v := (nI 5)) S.1 S.2.1 dX8_drifts_70 (by decide +kernel) ?_
      refine r_iald S hK hP78 62 (by decide) hF83 (vp_in_nI (show 5 < 7 by omega) (by omega)) dX8_drifts_71 ?_
      refine lv_topi (fun v88 e88 => ?_)
      refine r_cVp (As := [.int (nI b86), .int v88]) (rest := []) S hK hZ hP78 hS78 hl81.1 58 (by decide) hF82 (C := RX8) rfl (c_X8_walks l D cA ad t hI F78 hW78 (nI b86) v88) (cwV 2 S.2.2.2.2 gX8_drifts_X8_walks rfl rfl rfl (by decide +kernel) ⟨Nat.le_of_ble_eq_true rfl, Nat.le_of_ble_eq_true rfl⟩) rfl rfl (Nat.le_of_ble_eq_true rfl) ⟨Nat.zero_le _, Nat.zero_le _⟩ dX8_drifts_72 (fun r89 hr89 => ?_)
      refine r_cSp (As := [.int r89]) (rest := []) S hK hZ hP78 hS78 hl81.1 (c_X8_least l D cA ad t hI F78 hW78 r89) (va_cwS 1 S.2.2.2.2 gX8_drifts_X8_least rfl rfl rfl (by decide +kernel) ⟨Nat.le_of_ble_eq_true rfl, Nat.le_of_ble_eq_true rfl⟩) rfl rfl (Nat.le_of_ble_eq_true rfl) ⟨Nat.zero_le _, Nat.zero_le _⟩ dX8_drifts_75 (fun r90 hr90 => ?_)
      refine lv_istore_n (lv' := [(2, .int r90), (1, .int (nI 0)), (0, .ref (ad 58))]) S.1 S.2.1 dX8_drifts_78 rfl hl81 (by decide) rfl (fun ls91 hl91 => ?_)
      refine lv_iload_n S.1 S.2.1 dX8_drifts_79 rfl (lv_at hl91 1 rfl) ?_
      refine lv_if_eq (tgt := 91) S.1 S.2.1 dX8_drifts_80 (by decide) (fun c92 => ?_) (fun c92 => absurd (by decide +kernel) c92)
      have k93 := ci_eq (nI_toInt (n := 0) (by omega)) z_ti c92
      refine lv_iload_n S.1 S.2.1 dX8_drifts_91 rfl (lv_at hl91 0 rfl) ?_
      refine lv_iconst (v := (-1)) S.1 S.2.1 dX8_drifts_92 (by decide +kernel) ?_
      refine lv_icmp_eq (tgt := 101) S.1 S.2.1 dX8_drifts_93 (by decide) (fun c94 => ?_) (fun c94 => ?_)
      · skip
        have k95 := ci_eq rfl (show ((-1) : Int32).toInt = -1 by decide +kernel) c94
        exact hret 101 _ _ _ _ dX8_drifts_101 hP78 hS78 ⟨hW78, hFr78, trivial⟩
      have k96 := ci_ne rfl (show ((-1) : Int32).toInt = -1 by decide +kernel) c94
      obtain ⟨j97, hj97, rfl⟩ := nI_of_le (x := r90) (B := 7) (by omega) (by omega)
      have kj97 := nI_toInt (n := j97) (by omega)
      refine lv_aload_n S.1 S.2.1 dX8_drifts_96 rfl (lv_at hl91 2 rfl) ?_
      refine lv_iload_n S.1 S.2.1 dX8_drifts_97 rfl (lv_at hl91 0 rfl) ?_
      refine r_cVv (As := [.int (nI j97)]) (rest := []) S hK hZ hP78 hS78 hl91.1 58 (by decide) hF82 (C := RX8) rfl (c_X8_goesTo l D cA ad t hI F78 hW78 (j97) (by omega)) (cwV 1 S.2.2.2.2 gX8_drifts_X8_goesTo rfl rfl rfl (by decide +kernel) ⟨Nat.le_of_ble_eq_true rfl, Nat.le_of_ble_eq_true rfl⟩) rfl rfl (Nat.le_of_ble_eq_true rfl) ⟨Nat.zero_le _, Nat.zero_le _⟩ dX8_drifts_98 (fun F98 H98 locs98 hr98 hP98 hS98 => ?_)
      obtain ⟨hW98, hFc98, hr98⟩ := hr98
      have hFr98 := hFr78.tr hFc98 (by simp <;> first | omega | (simp only [isC, isJ] at *; omega))
      exact hret 101 _ _ _ _ dX8_drifts_101 hP98 hS98 ⟨hW98, hFr98, trivial⟩
    have k99 := ci_eq rfl z_ti c79
    refine lv_aload_n S.1 S.2.1 dX8_drifts_46 rfl (lv_at hl0 0 rfl) ?_
    obtain ⟨ty101, kn101, no101, en101, at101, sa101, sd101, wr101, pl101, va101, hF101, hb101_1, hb101_2, hb101_3, hb101_4, hb101_5, hb101_6⟩ := wt_m hW78
    refine r_cVp (As := []) (rest := []) S hK hZ hP78 hS78 hl0.1 58 (by decide) hF101 (C := RX8) rfl (c_X8_mayStay l D cA ad t hI F78 hW78 ) (cwV 0 S.2.2.2.2 gX8_drifts_X8_mayStay rfl rfl rfl (by decide +kernel) ⟨Nat.le_of_ble_eq_true rfl, Nat.le_of_ble_eq_true rfl⟩) rfl rfl (Nat.le_of_ble_eq_true rfl) ⟨Nat.zero_le _, Nat.zero_le _⟩ dX8_drifts_47 (fun r100 hr100 => ?_)
    obtain ⟨⟨b102, hb102, rfl⟩, hx102⟩ := hr100
    obtain ⟨g103, hF103, hg103⟩ := wt_I hW78 (show (62, 7) ∈ rLI by decide)
    obtain ⟨b104, hb104, he104⟩ := (pr_S (hg103 2 (by decide))).2.1 rfl
    have hN105 := aN_of (j := 2) hF103 he104 (by omega)
    have hF106 := (hFc78 60 (by decide)).trans hF72
    obtain ⟨b107, hb107, he107⟩ := (pr_T (by decide) (hg72 0 (by decide))).1 rfl
    have hN108 := aN_of (j := 0) hF106 he107 (by omega)
    have hy102 : b102 ≠ 0 → b104 < b107 := fun q => by have h9 := hx102 (nI_ne0 (by omega) (by omega)); omega
    refine lv_if_eq (tgt := 57) S.1 S.2.1 dX8_drifts_50 (by decide) (fun c109 => ?_) (fun c109 => ?_)
    · skip
      have k110 := ci_eq (nI_toInt (n := b102) (by omega)) z_ti c109
      refine lv_iconst (v := (nI 0)) S.1 S.2.1 dX8_drifts_57 (by decide +kernel) ?_
      refine lv_istore_n (lv' := [(1, .int (nI 0)), (0, .ref (ad 58))]) S.1 S.2.1 dX8_drifts_58 rfl hl0 (by decide) rfl (fun ls111 hl111 => ?_)
      refine lv_aload_n S.1 S.2.1 dX8_drifts_59 rfl (lv_at hl111 1 rfl) ?_
      refine lv_aload_n S.1 S.2.1 dX8_drifts_60 rfl (lv_at hl111 1 rfl) ?_
      refine r_get S hK hP78 58 (by decide) hF101 (C := RX8) (T := TX8) (N := 23) hiX8 rfl 4 (by decide) (by decide +kernel) (v := .ref (ad 62)) rfl dX8_drifts_61 ?_
      refine lv_iconst (v := (nI 0)) S.1 S.2.1 dX8_drifts_64 (by decide +kernel) ?_
      refine r_iald S hK hP78 62 (by decide) hF103 (vp_in_nI (show 0 < 7 by omega) (by omega)) dX8_drifts_65 ?_
      refine lv_topi (fun v113 e113 => ?_)
      obtain ⟨b114, hb114, he114⟩ := (pr_S (hg103 0 (by decide))).1 rfl
      obtain rfl : v113 = nI b114 := e113.trans he114
      refine lv_aload_n S.1 S.2.1 dX8_drifts_66 rfl (lv_at hl111 1 rfl) ?_
      refine r_get S hK hP78 58 (by decide) hF101 (C := RX8) (T := TX8) (N := 23) hiX8 rfl 4 (by decide) (by decide +kernel) (v := .ref (ad 62)) rfl dX8_drifts_67 ?_
      refine lv_iconst (v := (nI 5)) S.1 S.2.1 dX8_drifts_70 (by decide +kernel) ?_
      refine r_iald S hK hP78 62 (by decide) hF103 (vp_in_nI (show 5 < 7 by omega) (by omega)) dX8_drifts_71 ?_
      refine lv_topi (fun v116 e116 => ?_)
      refine r_cVp (As := [.int (nI b114), .int v116]) (rest := []) S hK hZ hP78 hS78 hl111.1 58 (by decide) hF101 (C := RX8) rfl (c_X8_walks l D cA ad t hI F78 hW78 (nI b114) v116) (cwV 2 S.2.2.2.2 gX8_drifts_X8_walks rfl rfl rfl (by decide +kernel) ⟨Nat.le_of_ble_eq_true rfl, Nat.le_of_ble_eq_true rfl⟩) rfl rfl (Nat.le_of_ble_eq_true rfl) ⟨Nat.zero_le _, Nat.zero_le _⟩ dX8_drifts_72 (fun r117 hr117 => ?_)
      refine r_cSp (As := [.int r117]) (rest := []) S hK hZ hP78 hS78 hl111.1 (c_X8_least l D cA ad t hI F78 hW78 r117) (va_cwS 1 S.2.2.2.2 gX8_drifts_X8_least rfl rfl rfl (by decide +kernel) ⟨Nat.le_of_ble_eq_true rfl, Nat.le_of_ble_eq_true rfl⟩) rfl rfl (Nat.le_of_ble_eq_true rfl) ⟨Nat.zero_le _, Nat.zero_le _⟩ dX8_drifts_75 (fun r118 hr118 => ?_)
      refine lv_istore_n (lv' := [(2, .int r118), (1, .int (nI 0)), (0, .ref (ad 58))]) S.1 S.2.1 dX8_drifts_78 rfl hl111 (by decide) rfl (fun ls119 hl119 => ?_)
      refine lv_iload_n S.1 S.2.1 dX8_drifts_79 rfl (lv_at hl119 1 rfl) ?_
      refine lv_if_eq (tgt := 91) S.1 S.2.1 dX8_drifts_80 (by decide) (fun c120 => ?_) (fun c120 => absurd (by decide +kernel) c120)
      have k121 := ci_eq (nI_toInt (n := 0) (by omega)) z_ti c120
      refine lv_iload_n S.1 S.2.1 dX8_drifts_91 rfl (lv_at hl119 0 rfl) ?_
      refine lv_iconst (v := (-1)) S.1 S.2.1 dX8_drifts_92 (by decide +kernel) ?_
      refine lv_icmp_eq (tgt := 101) S.1 S.2.1 dX8_drifts_93 (by decide) (fun c122 => ?_) (fun c122 => ?_)
      · skip
        have k123 := ci_eq rfl (show ((-1) : Int32).toInt = -1 by decide +kernel) c122
        exact hret 101 _ _ _ _ dX8_drifts_101 hP78 hS78 ⟨hW78, hFr78, trivial⟩
      have k124 := ci_ne rfl (show ((-1) : Int32).toInt = -1 by decide +kernel) c122
      obtain ⟨j125, hj125, rfl⟩ := nI_of_le (x := r118) (B := 7) (by omega) (by omega)
      have kj125 := nI_toInt (n := j125) (by omega)
      refine lv_aload_n S.1 S.2.1 dX8_drifts_96 rfl (lv_at hl119 2 rfl) ?_
      refine lv_iload_n S.1 S.2.1 dX8_drifts_97 rfl (lv_at hl119 0 rfl) ?_
      refine r_cVv (As := [.int (nI j125)]) (rest := []) S hK hZ hP78 hS78 hl119.1 58 (by decide) hF101 (C := RX8) rfl (c_X8_goesTo l D cA ad t hI F78 hW78 (j125) (by omega)) (cwV 1 S.2.2.2.2 gX8_drifts_X8_goesTo rfl rfl rfl (by decide +kernel) ⟨Nat.le_of_ble_eq_true rfl, Nat.le_of_ble_eq_true rfl⟩) rfl rfl (Nat.le_of_ble_eq_true rfl) ⟨Nat.zero_le _, Nat.zero_le _⟩ dX8_drifts_98 (fun F126 H126 locs126 hr126 hP126 hS126 => ?_)
      obtain ⟨hW126, hFc126, hr126⟩ := hr126
      have hFr126 := hFr78.tr hFc126 (by simp <;> first | omega | (simp only [isC, isJ] at *; omega))
      exact hret 101 _ _ _ _ dX8_drifts_101 hP126 hS126 ⟨hW126, hFr126, trivial⟩
    have k127 := ci_ne (nI_toInt (n := b102) (by omega)) z_ti c109
    refine lv_iconst (v := (nI 1)) S.1 S.2.1 dX8_drifts_53 (by decide +kernel) ?_
    refine lv_goto (tgt := 58) S.1 S.2.1 dX8_drifts_54 (by decide) ?_
    refine lv_istore_n (lv' := [(1, .int (nI 1)), (0, .ref (ad 58))]) S.1 S.2.1 dX8_drifts_58 rfl hl0 (by decide) rfl (fun ls128 hl128 => ?_)
    refine lv_aload_n S.1 S.2.1 dX8_drifts_59 rfl (lv_at hl128 1 rfl) ?_
    refine lv_aload_n S.1 S.2.1 dX8_drifts_60 rfl (lv_at hl128 1 rfl) ?_
    refine r_get S hK hP78 58 (by decide) hF101 (C := RX8) (T := TX8) (N := 23) hiX8 rfl 4 (by decide) (by decide +kernel) (v := .ref (ad 62)) rfl dX8_drifts_61 ?_
    refine lv_iconst (v := (nI 0)) S.1 S.2.1 dX8_drifts_64 (by decide +kernel) ?_
    refine r_iald S hK hP78 62 (by decide) hF103 (vp_in_nI (show 0 < 7 by omega) (by omega)) dX8_drifts_65 ?_
    refine lv_topi (fun v130 e130 => ?_)
    obtain ⟨b131, hb131, he131⟩ := (pr_S (hg103 0 (by decide))).1 rfl
    obtain rfl : v130 = nI b131 := e130.trans he131
    refine lv_aload_n S.1 S.2.1 dX8_drifts_66 rfl (lv_at hl128 1 rfl) ?_
    refine r_get S hK hP78 58 (by decide) hF101 (C := RX8) (T := TX8) (N := 23) hiX8 rfl 4 (by decide) (by decide +kernel) (v := .ref (ad 62)) rfl dX8_drifts_67 ?_
    refine lv_iconst (v := (nI 5)) S.1 S.2.1 dX8_drifts_70 (by decide +kernel) ?_
    refine r_iald S hK hP78 62 (by decide) hF103 (vp_in_nI (show 5 < 7 by omega) (by omega)) dX8_drifts_71 ?_
    refine lv_topi (fun v133 e133 => ?_)
    refine r_cVp (As := [.int (nI b131), .int v133]) (rest := []) S hK hZ hP78 hS78 hl128.1 58 (by decide) hF101 (C := RX8) rfl (c_X8_walks l D cA ad t hI F78 hW78 (nI b131) v133) (cwV 2 S.2.2.2.2 gX8_drifts_X8_walks rfl rfl rfl (by decide +kernel) ⟨Nat.le_of_ble_eq_true rfl, Nat.le_of_ble_eq_true rfl⟩) rfl rfl (Nat.le_of_ble_eq_true rfl) ⟨Nat.zero_le _, Nat.zero_le _⟩ dX8_drifts_72 (fun r134 hr134 => ?_)
    refine r_cSp (As := [.int r134]) (rest := []) S hK hZ hP78 hS78 hl128.1 (c_X8_least l D cA ad t hI F78 hW78 r134) (va_cwS 1 S.2.2.2.2 gX8_drifts_X8_least rfl rfl rfl (by decide +kernel) ⟨Nat.le_of_ble_eq_true rfl, Nat.le_of_ble_eq_true rfl⟩) rfl rfl (Nat.le_of_ble_eq_true rfl) ⟨Nat.zero_le _, Nat.zero_le _⟩ dX8_drifts_75 (fun r135 hr135 => ?_)
    refine lv_istore_n (lv' := [(2, .int r135), (1, .int (nI 1)), (0, .ref (ad 58))]) S.1 S.2.1 dX8_drifts_78 rfl hl128 (by decide) rfl (fun ls136 hl136 => ?_)
    refine lv_iload_n S.1 S.2.1 dX8_drifts_79 rfl (lv_at hl136 1 rfl) ?_
    refine lv_if_eq (tgt := 91) S.1 S.2.1 dX8_drifts_80 (by decide) (fun c137 => absurd c137 (by decide +kernel)) (fun c137 => ?_)
    have k138 := ci_ne (nI_toInt (n := 1) (by omega)) z_ti c137
    refine lv_aload_n S.1 S.2.1 dX8_drifts_83 rfl (lv_at hl136 2 rfl) ?_
    have hN140 := aN_of (j := 2) hF103 he104 (by omega)
    have hN141 := aN_of (j := 0) hF106 he107 (by omega)
    refine r_cVi (As := []) (rest := []) S hK hZ hP78 hS78 hl136.1 58 (by decide) hF101 (C := RX8) rfl (c_X8_stays l D cA ad t hI F78 hW78 (by omega)) (cwV 0 S.2.2.2.2 gX8_drifts_X8_stays rfl rfl rfl (by decide +kernel) ⟨Nat.le_of_ble_eq_true rfl, Nat.le_of_ble_eq_true rfl⟩) rfl rfl (Nat.le_of_ble_eq_true rfl) ⟨Nat.zero_le _, Nat.zero_le _⟩ dX8_drifts_84 (fun r139 F139 H139 locs139 hr139 hP139 hS139 => ?_)
    obtain ⟨hW139, hFc139, hr139⟩ := hr139
    have hFr139 := hFr78.tr hFc139 (by simp <;> first | omega | (simp only [isC, isJ] at *; omega))
    refine lv_pop S.1 S.2.1 dX8_drifts_87 rfl ?_
    refine lv_goto (tgt := 101) S.1 S.2.1 dX8_drifts_88 (by decide) ?_
    exact hret 101 _ _ _ _ dX8_drifts_101 hP139 hS139 ⟨hW139, hFr139, trivial⟩
  have k142 := ci_nle (nI_toInt (n := b75) (by omega)) z_ti c76
  refine lv_aload_n S.1 S.2.1 dX8_drifts_17 rfl (lv_at hl0 0 rfl) ?_
  refine r_get S hK hP1 58 (by decide) hF71 (C := RX8) (T := TX8) (N := 23) hiX8 rfl 4 (by decide) (by decide +kernel) (v := .ref (ad 62)) rfl dX8_drifts_18 ?_
  refine lv_iconst (v := (nI 5)) S.1 S.2.1 dX8_drifts_21 (by decide +kernel) ?_
  refine lv_dup2_11 S.1 S.2.1 dX8_drifts_22 rfl rfl ?_
  obtain ⟨g143, hF143, hg143⟩ := wt_I hW1 (show (62, 7) ∈ rLI by decide)
  refine r_iald S hK hP1 62 (by decide) hF143 (vp_in_nI (show 5 < 7 by omega) (by omega)) dX8_drifts_23 ?_
  refine lv_topi (fun v145 e145 => ?_)
  refine lv_iconst (v := (nI 1)) S.1 S.2.1 dX8_drifts_24 (by decide +kernel) ?_
  refine lv_aload_n S.1 S.2.1 dX8_drifts_25 rfl (lv_at hl0 0 rfl) ?_
  refine lv_aload_n S.1 S.2.1 dX8_drifts_26 rfl (lv_at hl0 0 rfl) ?_
  refine r_get S hK hP1 58 (by decide) hF71 (C := RX8) (T := TX8) (N := 23) hiX8 rfl 2 (by decide) (by decide +kernel) (v := .ref (ad 60)) rfl dX8_drifts_27 ?_
  refine lv_iconst (v := (nI 3)) S.1 S.2.1 dX8_drifts_30 (by decide +kernel) ?_
  refine r_iald S hK hP1 60 (by decide) hF72 (vp_in_nI (show 3 < 52 by omega) (by omega)) dX8_drifts_31 ?_
  refine lv_topi (fun v147 e147 => ?_)
  obtain rfl : v147 = nI b75 := e147.trans he75
  refine r_cVi (As := [.int (nI b75)]) (rest := [.int (nI 1), .int v145, .int (nI 5), .ref (ad 62)]) S hK hZ hP1 hS1 hl0.1 58 (by decide) hF71 (C := RX8) rfl (c_X8_draw l D cA ad t hI F1 hW1 (nI b75) (nI_ne0 (by omega) (by omega))) (cwV 1 S.2.2.2.2 gX8_drifts_X8_draw rfl rfl rfl (by decide +kernel) ⟨Nat.le_of_ble_eq_true rfl, Nat.le_of_ble_eq_true rfl⟩) rfl rfl (Nat.le_of_ble_eq_true rfl) ⟨Nat.zero_le _, Nat.zero_le _⟩ dX8_drifts_32 (fun r148 F148 H148 locs148 hr148 hP148 hS148 => ?_)
  obtain ⟨hW148, hFc148, hr148⟩ := hr148
  have hFr148 := hFr1.tr hFc148 (by simp <;> first | omega | (simp only [isC, isJ] at *; omega))
  refine lv_ishl S.1 S.2.1 dX8_drifts_35 ?_
  refine lv_topi (fun v149 e149 => ?_)
  refine lv_ixor S.1 S.2.1 dX8_drifts_36 ?_
  refine lv_topi (fun v150 e150 => ?_)
  have hF151 := (hFc148 62 (by decide)).trans hF143
  refine r_iast S hI hK hP148 hS148 62 (by decide) hF151 (vp_in_nI (show 5 < 7 by omega) (by omega)) dX8_drifts_37 (fun F152 H152 locs152 eF152 hP152 hS152 => ?_)
  have hW152 := hW148.up eF152 (ok_I (show (62, 7) ∈ rLI by decide) (okI_up hg143 (by rw [nI_clamp (by omega)]; exact to_S (okS_o (by decide) (by decide) (by decide)))))
  have hFr152 := hFr148.up eF152 (by simp <;> first | omega | (simp only [isC, isJ] at *; omega))
  obtain ⟨gg152, eg152⟩ : ∃ g9, g9 = upd g143 (nI 5).toNatClampNeg v150 := ⟨_, rfl⟩
  have hF152 : F152 62 = .inl (cA 0, 7, .inl gg152) := by rw [eF152, eg152]; exact va_up_self _ _ _
  have hg152 : ∀ j, j < 7 → rPr 62 j (gg152 j) := by rw [eg152]; exact pr_up hg143 (by rw [nI_clamp (by omega)]; exact to_S (okS_o (by decide) (by decide) (by decide)))
  refine lv_aload_n S.1 S.2.1 dX8_drifts_38 rfl (lv_at hl0 0 rfl) ?_
  refine lv_iconst (v := (nI 2)) S.1 S.2.1 dX8_drifts_39 (by decide +kernel) ?_
  obtain ⟨ty154, kn154, no154, en154, at154, sa154, sd154, wr154, pl154, va154, hF154, hb154_1, hb154_2, hb154_3, hb154_4, hb154_5, hb154_6⟩ := wt_m hW152
  refine r_cVi (As := [.int (nI 2)]) (rest := []) S hK hZ hP152 hS152 hl0.1 58 (by decide) hF154 (C := RX8) rfl (c_X8_draw l D cA ad t hI F152 hW152 (nI 2) (by decide +kernel)) (cwV 1 S.2.2.2.2 gX8_drifts_X8_draw rfl rfl rfl (by decide +kernel) ⟨Nat.le_of_ble_eq_true rfl, Nat.le_of_ble_eq_true rfl⟩) rfl rfl (Nat.le_of_ble_eq_true rfl) ⟨Nat.zero_le _, Nat.zero_le _⟩ dX8_drifts_40 (fun r153 F153 H153 locs153 hr153 hP153 hS153 => ?_)
  obtain ⟨hW153, hFc153, hr153⟩ := hr153
  have hFr153 := hFr152.tr hFc153 (by simp <;> first | omega | (simp only [isC, isJ] at *; omega))
  refine lv_if_ne (tgt := 57) S.1 S.2.1 dX8_drifts_43 (by decide) (fun c155 => ?_) (fun c155 => ?_)
  · skip
    have k156 := ci_ne rfl z_ti c155
    refine lv_iconst (v := (nI 0)) S.1 S.2.1 dX8_drifts_57 (by decide +kernel) ?_
    refine lv_istore_n (lv' := [(1, .int (nI 0)), (0, .ref (ad 58))]) S.1 S.2.1 dX8_drifts_58 rfl hl0 (by decide) rfl (fun ls157 hl157 => ?_)
    refine lv_aload_n S.1 S.2.1 dX8_drifts_59 rfl (lv_at hl157 1 rfl) ?_
    refine lv_aload_n S.1 S.2.1 dX8_drifts_60 rfl (lv_at hl157 1 rfl) ?_
    obtain ⟨ty158, kn158, no158, en158, at158, sa158, sd158, wr158, pl158, va158, hF158, hb158_1, hb158_2, hb158_3, hb158_4, hb158_5, hb158_6⟩ := wt_m hW153
    refine r_get S hK hP153 58 (by decide) hF158 (C := RX8) (T := TX8) (N := 23) hiX8 rfl 4 (by decide) (by decide +kernel) (v := .ref (ad 62)) rfl dX8_drifts_61 ?_
    refine lv_iconst (v := (nI 0)) S.1 S.2.1 dX8_drifts_64 (by decide +kernel) ?_
    have hF159 := (hFc153 62 (by decide)).trans hF152
    refine r_iald S hK hP153 62 (by decide) hF159 (vp_in_nI (show 0 < 7 by omega) (by omega)) dX8_drifts_65 ?_
    refine lv_topi (fun v161 e161 => ?_)
    obtain ⟨b162, hb162, he162⟩ := (pr_S (hg152 0 (by decide))).1 rfl
    obtain rfl : v161 = nI b162 := e161.trans he162
    refine lv_aload_n S.1 S.2.1 dX8_drifts_66 rfl (lv_at hl157 1 rfl) ?_
    refine r_get S hK hP153 58 (by decide) hF158 (C := RX8) (T := TX8) (N := 23) hiX8 rfl 4 (by decide) (by decide +kernel) (v := .ref (ad 62)) rfl dX8_drifts_67 ?_
    refine lv_iconst (v := (nI 5)) S.1 S.2.1 dX8_drifts_70 (by decide +kernel) ?_
    refine r_iald S hK hP153 62 (by decide) hF159 (vp_in_nI (show 5 < 7 by omega) (by omega)) dX8_drifts_71 ?_
    refine lv_topi (fun v164 e164 => ?_)
    refine r_cVp (As := [.int (nI b162), .int v164]) (rest := []) S hK hZ hP153 hS153 hl157.1 58 (by decide) hF158 (C := RX8) rfl (c_X8_walks l D cA ad t hI F153 hW153 (nI b162) v164) (cwV 2 S.2.2.2.2 gX8_drifts_X8_walks rfl rfl rfl (by decide +kernel) ⟨Nat.le_of_ble_eq_true rfl, Nat.le_of_ble_eq_true rfl⟩) rfl rfl (Nat.le_of_ble_eq_true rfl) ⟨Nat.zero_le _, Nat.zero_le _⟩ dX8_drifts_72 (fun r165 hr165 => ?_)
    refine r_cSp (As := [.int r165]) (rest := []) S hK hZ hP153 hS153 hl157.1 (c_X8_least l D cA ad t hI F153 hW153 r165) (va_cwS 1 S.2.2.2.2 gX8_drifts_X8_least rfl rfl rfl (by decide +kernel) ⟨Nat.le_of_ble_eq_true rfl, Nat.le_of_ble_eq_true rfl⟩) rfl rfl (Nat.le_of_ble_eq_true rfl) ⟨Nat.zero_le _, Nat.zero_le _⟩ dX8_drifts_75 (fun r166 hr166 => ?_)
    refine lv_istore_n (lv' := [(2, .int r166), (1, .int (nI 0)), (0, .ref (ad 58))]) S.1 S.2.1 dX8_drifts_78 rfl hl157 (by decide) rfl (fun ls167 hl167 => ?_)
    refine lv_iload_n S.1 S.2.1 dX8_drifts_79 rfl (lv_at hl167 1 rfl) ?_
    refine lv_if_eq (tgt := 91) S.1 S.2.1 dX8_drifts_80 (by decide) (fun c168 => ?_) (fun c168 => absurd (by decide +kernel) c168)
    have k169 := ci_eq (nI_toInt (n := 0) (by omega)) z_ti c168
    refine lv_iload_n S.1 S.2.1 dX8_drifts_91 rfl (lv_at hl167 0 rfl) ?_
    refine lv_iconst (v := (-1)) S.1 S.2.1 dX8_drifts_92 (by decide +kernel) ?_
    refine lv_icmp_eq (tgt := 101) S.1 S.2.1 dX8_drifts_93 (by decide) (fun c170 => ?_) (fun c170 => ?_)
    · skip
      have k171 := ci_eq rfl (show ((-1) : Int32).toInt = -1 by decide +kernel) c170
      exact hret 101 _ _ _ _ dX8_drifts_101 hP153 hS153 ⟨hW153, hFr153, trivial⟩
    have k172 := ci_ne rfl (show ((-1) : Int32).toInt = -1 by decide +kernel) c170
    obtain ⟨j173, hj173, rfl⟩ := nI_of_le (x := r166) (B := 7) (by omega) (by omega)
    have kj173 := nI_toInt (n := j173) (by omega)
    refine lv_aload_n S.1 S.2.1 dX8_drifts_96 rfl (lv_at hl167 2 rfl) ?_
    refine lv_iload_n S.1 S.2.1 dX8_drifts_97 rfl (lv_at hl167 0 rfl) ?_
    refine r_cVv (As := [.int (nI j173)]) (rest := []) S hK hZ hP153 hS153 hl167.1 58 (by decide) hF158 (C := RX8) rfl (c_X8_goesTo l D cA ad t hI F153 hW153 (j173) (by omega)) (cwV 1 S.2.2.2.2 gX8_drifts_X8_goesTo rfl rfl rfl (by decide +kernel) ⟨Nat.le_of_ble_eq_true rfl, Nat.le_of_ble_eq_true rfl⟩) rfl rfl (Nat.le_of_ble_eq_true rfl) ⟨Nat.zero_le _, Nat.zero_le _⟩ dX8_drifts_98 (fun F174 H174 locs174 hr174 hP174 hS174 => ?_)
    obtain ⟨hW174, hFc174, hr174⟩ := hr174
    have hFr174 := hFr153.tr hFc174 (by simp <;> first | omega | (simp only [isC, isJ] at *; omega))
    exact hret 101 _ _ _ _ dX8_drifts_101 hP174 hS174 ⟨hW174, hFr174, trivial⟩
  have k175 := ci_eq rfl z_ti c155
  refine lv_aload_n S.1 S.2.1 dX8_drifts_46 rfl (lv_at hl0 0 rfl) ?_
  obtain ⟨ty177, kn177, no177, en177, at177, sa177, sd177, wr177, pl177, va177, hF177, hb177_1, hb177_2, hb177_3, hb177_4, hb177_5, hb177_6⟩ := wt_m hW153
  refine r_cVp (As := []) (rest := []) S hK hZ hP153 hS153 hl0.1 58 (by decide) hF177 (C := RX8) rfl (c_X8_mayStay l D cA ad t hI F153 hW153 ) (cwV 0 S.2.2.2.2 gX8_drifts_X8_mayStay rfl rfl rfl (by decide +kernel) ⟨Nat.le_of_ble_eq_true rfl, Nat.le_of_ble_eq_true rfl⟩) rfl rfl (Nat.le_of_ble_eq_true rfl) ⟨Nat.zero_le _, Nat.zero_le _⟩ dX8_drifts_47 (fun r176 hr176 => ?_)
  obtain ⟨⟨b178, hb178, rfl⟩, hx178⟩ := hr176
  have hF179 := (hFc153 62 (by decide)).trans hF152
  obtain ⟨b180, hb180, he180⟩ := (pr_S (hg152 2 (by decide))).2.1 rfl
  have hN181 := aN_of (j := 2) hF179 he180 (by omega)
  have hF182 := (hFc148 60 (by decide)).trans hF72
  have hF183 := (show F152 60 = F148 60 by rw [eF152]; exact va_up_ne _ _ (by decide)).trans hF182
  have hF184 := (hFc153 60 (by decide)).trans hF183
  obtain ⟨b185, hb185, he185⟩ := (pr_T (by decide) (hg72 0 (by decide))).1 rfl
  have hN186 := aN_of (j := 0) hF184 he185 (by omega)
  have hy178 : b178 ≠ 0 → b180 < b185 := fun q => by have h9 := hx178 (nI_ne0 (by omega) (by omega)); omega
  refine lv_if_eq (tgt := 57) S.1 S.2.1 dX8_drifts_50 (by decide) (fun c187 => ?_) (fun c187 => ?_)
  · skip
    have k188 := ci_eq (nI_toInt (n := b178) (by omega)) z_ti c187
    refine lv_iconst (v := (nI 0)) S.1 S.2.1 dX8_drifts_57 (by decide +kernel) ?_
    refine lv_istore_n (lv' := [(1, .int (nI 0)), (0, .ref (ad 58))]) S.1 S.2.1 dX8_drifts_58 rfl hl0 (by decide) rfl (fun ls189 hl189 => ?_)
    refine lv_aload_n S.1 S.2.1 dX8_drifts_59 rfl (lv_at hl189 1 rfl) ?_
    refine lv_aload_n S.1 S.2.1 dX8_drifts_60 rfl (lv_at hl189 1 rfl) ?_
    refine r_get S hK hP153 58 (by decide) hF177 (C := RX8) (T := TX8) (N := 23) hiX8 rfl 4 (by decide) (by decide +kernel) (v := .ref (ad 62)) rfl dX8_drifts_61 ?_
    refine lv_iconst (v := (nI 0)) S.1 S.2.1 dX8_drifts_64 (by decide +kernel) ?_
    refine r_iald S hK hP153 62 (by decide) hF179 (vp_in_nI (show 0 < 7 by omega) (by omega)) dX8_drifts_65 ?_
    refine lv_topi (fun v191 e191 => ?_)
    obtain ⟨b192, hb192, he192⟩ := (pr_S (hg152 0 (by decide))).1 rfl
    obtain rfl : v191 = nI b192 := e191.trans he192
    refine lv_aload_n S.1 S.2.1 dX8_drifts_66 rfl (lv_at hl189 1 rfl) ?_
    refine r_get S hK hP153 58 (by decide) hF177 (C := RX8) (T := TX8) (N := 23) hiX8 rfl 4 (by decide) (by decide +kernel) (v := .ref (ad 62)) rfl dX8_drifts_67 ?_
    refine lv_iconst (v := (nI 5)) S.1 S.2.1 dX8_drifts_70 (by decide +kernel) ?_
    refine r_iald S hK hP153 62 (by decide) hF179 (vp_in_nI (show 5 < 7 by omega) (by omega)) dX8_drifts_71 ?_
    refine lv_topi (fun v194 e194 => ?_)
    refine r_cVp (As := [.int (nI b192), .int v194]) (rest := []) S hK hZ hP153 hS153 hl189.1 58 (by decide) hF177 (C := RX8) rfl (c_X8_walks l D cA ad t hI F153 hW153 (nI b192) v194) (cwV 2 S.2.2.2.2 gX8_drifts_X8_walks rfl rfl rfl (by decide +kernel) ⟨Nat.le_of_ble_eq_true rfl, Nat.le_of_ble_eq_true rfl⟩) rfl rfl (Nat.le_of_ble_eq_true rfl) ⟨Nat.zero_le _, Nat.zero_le _⟩ dX8_drifts_72 (fun r195 hr195 => ?_)
    refine r_cSp (As := [.int r195]) (rest := []) S hK hZ hP153 hS153 hl189.1 (c_X8_least l D cA ad t hI F153 hW153 r195) (va_cwS 1 S.2.2.2.2 gX8_drifts_X8_least rfl rfl rfl (by decide +kernel) ⟨Nat.le_of_ble_eq_true rfl, Nat.le_of_ble_eq_true rfl⟩) rfl rfl (Nat.le_of_ble_eq_true rfl) ⟨Nat.zero_le _, Nat.zero_le _⟩ dX8_drifts_75 (fun r196 hr196 => ?_)
    refine lv_istore_n (lv' := [(2, .int r196), (1, .int (nI 0)), (0, .ref (ad 58))]) S.1 S.2.1 dX8_drifts_78 rfl hl189 (by decide) rfl (fun ls197 hl197 => ?_)
    refine lv_iload_n S.1 S.2.1 dX8_drifts_79 rfl (lv_at hl197 1 rfl) ?_
    refine lv_if_eq (tgt := 91) S.1 S.2.1 dX8_drifts_80 (by decide) (fun c198 => ?_) (fun c198 => absurd (by decide +kernel) c198)
    have k199 := ci_eq (nI_toInt (n := 0) (by omega)) z_ti c198
    refine lv_iload_n S.1 S.2.1 dX8_drifts_91 rfl (lv_at hl197 0 rfl) ?_
    refine lv_iconst (v := (-1)) S.1 S.2.1 dX8_drifts_92 (by decide +kernel) ?_
    refine lv_icmp_eq (tgt := 101) S.1 S.2.1 dX8_drifts_93 (by decide) (fun c200 => ?_) (fun c200 => ?_)
    · skip
      have k201 := ci_eq rfl (show ((-1) : Int32).toInt = -1 by decide +kernel) c200
      exact hret 101 _ _ _ _ dX8_drifts_101 hP153 hS153 ⟨hW153, hFr153, trivial⟩
    have k202 := ci_ne rfl (show ((-1) : Int32).toInt = -1 by decide +kernel) c200
    obtain ⟨j203, hj203, rfl⟩ := nI_of_le (x := r196) (B := 7) (by omega) (by omega)
    have kj203 := nI_toInt (n := j203) (by omega)
    refine lv_aload_n S.1 S.2.1 dX8_drifts_96 rfl (lv_at hl197 2 rfl) ?_
    refine lv_iload_n S.1 S.2.1 dX8_drifts_97 rfl (lv_at hl197 0 rfl) ?_
    refine r_cVv (As := [.int (nI j203)]) (rest := []) S hK hZ hP153 hS153 hl197.1 58 (by decide) hF177 (C := RX8) rfl (c_X8_goesTo l D cA ad t hI F153 hW153 (j203) (by omega)) (cwV 1 S.2.2.2.2 gX8_drifts_X8_goesTo rfl rfl rfl (by decide +kernel) ⟨Nat.le_of_ble_eq_true rfl, Nat.le_of_ble_eq_true rfl⟩) rfl rfl (Nat.le_of_ble_eq_true rfl) ⟨Nat.zero_le _, Nat.zero_le _⟩ dX8_drifts_98 (fun F204 H204 locs204 hr204 hP204 hS204 => ?_)
    obtain ⟨hW204, hFc204, hr204⟩ := hr204
    have hFr204 := hFr153.tr hFc204 (by simp <;> first | omega | (simp only [isC, isJ] at *; omega))
    exact hret 101 _ _ _ _ dX8_drifts_101 hP204 hS204 ⟨hW204, hFr204, trivial⟩
  have k205 := ci_ne (nI_toInt (n := b178) (by omega)) z_ti c187
  refine lv_iconst (v := (nI 1)) S.1 S.2.1 dX8_drifts_53 (by decide +kernel) ?_
  refine lv_goto (tgt := 58) S.1 S.2.1 dX8_drifts_54 (by decide) ?_
  refine lv_istore_n (lv' := [(1, .int (nI 1)), (0, .ref (ad 58))]) S.1 S.2.1 dX8_drifts_58 rfl hl0 (by decide) rfl (fun ls206 hl206 => ?_)
  refine lv_aload_n S.1 S.2.1 dX8_drifts_59 rfl (lv_at hl206 1 rfl) ?_
  refine lv_aload_n S.1 S.2.1 dX8_drifts_60 rfl (lv_at hl206 1 rfl) ?_
  refine r_get S hK hP153 58 (by decide) hF177 (C := RX8) (T := TX8) (N := 23) hiX8 rfl 4 (by decide) (by decide +kernel) (v := .ref (ad 62)) rfl dX8_drifts_61 ?_
  refine lv_iconst (v := (nI 0)) S.1 S.2.1 dX8_drifts_64 (by decide +kernel) ?_
  refine r_iald S hK hP153 62 (by decide) hF179 (vp_in_nI (show 0 < 7 by omega) (by omega)) dX8_drifts_65 ?_
  refine lv_topi (fun v208 e208 => ?_)
  obtain ⟨b209, hb209, he209⟩ := (pr_S (hg152 0 (by decide))).1 rfl
  obtain rfl : v208 = nI b209 := e208.trans he209
  refine lv_aload_n S.1 S.2.1 dX8_drifts_66 rfl (lv_at hl206 1 rfl) ?_
  refine r_get S hK hP153 58 (by decide) hF177 (C := RX8) (T := TX8) (N := 23) hiX8 rfl 4 (by decide) (by decide +kernel) (v := .ref (ad 62)) rfl dX8_drifts_67 ?_
  refine lv_iconst (v := (nI 5)) S.1 S.2.1 dX8_drifts_70 (by decide +kernel) ?_
  refine r_iald S hK hP153 62 (by decide) hF179 (vp_in_nI (show 5 < 7 by omega) (by omega)) dX8_drifts_71 ?_
  refine lv_topi (fun v211 e211 => ?_)
  refine r_cVp (As := [.int (nI b209), .int v211]) (rest := []) S hK hZ hP153 hS153 hl206.1 58 (by decide) hF177 (C := RX8) rfl (c_X8_walks l D cA ad t hI F153 hW153 (nI b209) v211) (cwV 2 S.2.2.2.2 gX8_drifts_X8_walks rfl rfl rfl (by decide +kernel) ⟨Nat.le_of_ble_eq_true rfl, Nat.le_of_ble_eq_true rfl⟩) rfl rfl (Nat.le_of_ble_eq_true rfl) ⟨Nat.zero_le _, Nat.zero_le _⟩ dX8_drifts_72 (fun r212 hr212 => ?_)
  refine r_cSp (As := [.int r212]) (rest := []) S hK hZ hP153 hS153 hl206.1 (c_X8_least l D cA ad t hI F153 hW153 r212) (va_cwS 1 S.2.2.2.2 gX8_drifts_X8_least rfl rfl rfl (by decide +kernel) ⟨Nat.le_of_ble_eq_true rfl, Nat.le_of_ble_eq_true rfl⟩) rfl rfl (Nat.le_of_ble_eq_true rfl) ⟨Nat.zero_le _, Nat.zero_le _⟩ dX8_drifts_75 (fun r213 hr213 => ?_)
  refine lv_istore_n (lv' := [(2, .int r213), (1, .int (nI 1)), (0, .ref (ad 58))]) S.1 S.2.1 dX8_drifts_78 rfl hl206 (by decide) rfl (fun ls214 hl214 => ?_)
  refine lv_iload_n S.1 S.2.1 dX8_drifts_79 rfl (lv_at hl214 1 rfl) ?_
  refine lv_if_eq (tgt := 91) S.1 S.2.1 dX8_drifts_80 (by decide) (fun c215 => absurd c215 (by decide +kernel)) (fun c215 => ?_)
  have k216 := ci_ne (nI_toInt (n := 1) (by omega)) z_ti c215
  refine lv_aload_n S.1 S.2.1 dX8_drifts_83 rfl (lv_at hl214 2 rfl) ?_
  have hN218 := aN_of (j := 2) hF179 he180 (by omega)
  have hN219 := aN_of (j := 0) hF184 he185 (by omega)
  refine r_cVi (As := []) (rest := []) S hK hZ hP153 hS153 hl214.1 58 (by decide) hF177 (C := RX8) rfl (c_X8_stays l D cA ad t hI F153 hW153 (by omega)) (cwV 0 S.2.2.2.2 gX8_drifts_X8_stays rfl rfl rfl (by decide +kernel) ⟨Nat.le_of_ble_eq_true rfl, Nat.le_of_ble_eq_true rfl⟩) rfl rfl (Nat.le_of_ble_eq_true rfl) ⟨Nat.zero_le _, Nat.zero_le _⟩ dX8_drifts_84 (fun r217 F217 H217 locs217 hr217 hP217 hS217 => ?_)
  obtain ⟨hW217, hFc217, hr217⟩ := hr217
  have hFr217 := hFr153.tr hFc217 (by simp <;> first | omega | (simp only [isC, isJ] at *; omega))
  refine lv_pop S.1 S.2.1 dX8_drifts_87 rfl ?_
  refine lv_goto (tgt := 101) S.1 S.2.1 dX8_drifts_88 (by decide) ?_
  exact hret 101 _ _ _ _ dX8_drifts_101 hP217 hS217 ⟨hW217, hFr217, trivial⟩
set_option maxHeartbeats 4000000 in
set_option maxRecDepth 100000 in
theorem c_X8_drift (l : Launch) (D : va_G) (cA ad : Nat → Nat) (t : Nat) (hI : rI ad) (F : Nat → va_E) (hW : WT cA ad F) (p1 : Int32) : MI l D cA ad t yX8_drift wsX8_drift { frames := 3, cells := 0, slots := 0, locals := 70 } [.ref (ad 58), .int p1] F (fun r F' => WT cA ad F' ∧ rFr [58, 62, 63] F F' ∧ (True)) := by
  refine en_I rfl (by decide +kernel) (Nat.le_of_ble_eq_true rfl) ?_
  intro p e s m args below meth c ls0 Q S hK hZ hP hS hl0 hret
  have hl0 : lv_has ls0 3 [(0, .ref (ad 58)), (1, .int p1)] := hl0
  have hFr : rFr [58, 62, 63] F F := rFr.rf
  have hiX8 : ∀ w ∈ u_ws RX8 TX8 23, w ∈ wsX8_drift := by decide +kernel
  refine lv_iload_n S.1 S.2.1 dX8_drift_0 rfl (lv_at hl0 1 rfl) ?_
  refine lv_iconst (v := (nI 1)) S.1 S.2.1 dX8_drift_1 (by decide +kernel) ?_
  refine lv_bipush (v := (nI 40)) S.1 S.2.1 dX8_drift_2 (by decide +kernel) ?_
  refine r_cSp (As := [.int p1, .int (nI 1), .int (nI 40)]) (rest := []) S hK hZ hP hS hl0.1 (c_X8_in l D cA ad t hI F hW p1 (nI 1) (nI 40)) (va_cwS 3 S.2.2.2.2 gX8_drift_X8_in rfl rfl rfl (by decide +kernel) ⟨Nat.le_of_ble_eq_true rfl, Nat.le_of_ble_eq_true rfl⟩) rfl rfl (Nat.le_of_ble_eq_true rfl) ⟨Nat.zero_le _, Nat.zero_le _⟩ dX8_drift_4 (fun r1 hr1 => ?_)
  obtain ⟨⟨b2, hb2, rfl⟩, hx2, hz2⟩ := hr1
  have ta3 : (p1 : Int32).toInt = p1.toInt := rfl
  have ta4 : ((nI 1) : Int32).toInt = ((1 : Nat) : Int) := (nI_toInt (n := 1) (by omega))
  have ta5 : ((nI 40) : Int32).toInt = ((40 : Nat) : Int) := (nI_toInt (n := 40) (by omega))
  have hy2 : b2 ≠ 0 → ((1 : Nat) : Int) ≤ p1.toInt ∧ p1.toInt ≤ ((40 : Nat) : Int) := fun q => by have h9 := hx2 (nI_ne0 (by omega) (by omega)); omega
  have hu2 : b2 = 0 → p1.toInt < ((1 : Nat) : Int) ∨ ((40 : Nat) : Int) < p1.toInt := fun q => by have h9 := hz2 (by rw [q]; rfl); omega
  refine lv_if_ne (tgt := 13) S.1 S.2.1 dX8_drift_7 (by decide) (fun c6 => ?_) (fun c6 => ?_)
  · skip
    have k7 := ci_ne (nI_toInt (n := b2) (by omega)) z_ti c6
    obtain ⟨j8, hj8, rfl⟩ := nI_of_le (x := p1) (B := 40) (by omega) (by omega)
    have kj8 := nI_toInt (n := j8) (by omega)
    refine lv_aload_n S.1 S.2.1 dX8_drift_13 rfl (lv_at hl0 0 rfl) ?_
    obtain ⟨ty10, kn10, no10, en10, at10, sa10, sd10, wr10, pl10, va10, hF10, hb10_1, hb10_2, hb10_3, hb10_4, hb10_5, hb10_6⟩ := wt_m hW
    refine r_cVp (As := []) (rest := []) S hK hZ hP hS hl0.1 58 (by decide) hF10 (C := RX8) rfl (c_X8_goesOn l D cA ad t hI F hW ) (cwV 0 S.2.2.2.2 gX8_drift_X8_goesOn rfl rfl rfl (by decide +kernel) ⟨Nat.le_of_ble_eq_true rfl, Nat.le_of_ble_eq_true rfl⟩) rfl rfl (Nat.le_of_ble_eq_true rfl) ⟨Nat.zero_le _, Nat.zero_le _⟩ dX8_drift_14 (fun r9 hr9 => ?_)
    obtain ⟨b11, hb11, rfl⟩ := hr9
    refine lv_if_ne (tgt := 23) S.1 S.2.1 dX8_drift_17 (by decide) (fun c12 => ?_) (fun c12 => ?_)
    · skip
      have k13 := ci_ne (nI_toInt (n := b11) (by omega)) z_ti c12
      refine lv_aload_n S.1 S.2.1 dX8_drift_23 rfl (lv_at hl0 0 rfl) ?_
      refine r_get S hK hP 58 (by decide) hF10 (C := RX8) (T := TX8) (N := 23) hiX8 rfl 4 (by decide) (by decide +kernel) (v := .ref (ad 62)) rfl dX8_drift_24 ?_
      refine lv_iconst (v := (nI 1)) S.1 S.2.1 dX8_drift_27 (by decide +kernel) ?_
      obtain ⟨g14, hF14, hg14⟩ := wt_I hW (show (62, 7) ∈ rLI by decide)
      refine r_iald S hK hP 62 (by decide) hF14 (vp_in_nI (show 1 < 7 by omega) (by omega)) dX8_drift_28 ?_
      refine lv_topi (fun v16 e16 => ?_)
      refine lv_sipush (v := (nI 9000)) S.1 S.2.1 dX8_drift_29 (by decide +kernel) ?_
      refine lv_icmp_le (tgt := 38) S.1 S.2.1 dX8_drift_32 (by decide) (fun c17 => ?_) (fun c17 => ?_)
      · skip
        have k18 := ci_le rfl (nI_toInt (n := 9000) (by omega)) c17
        refine lv_aload_n S.1 S.2.1 dX8_drift_38 rfl (lv_at hl0 0 rfl) ?_
        refine r_cVv (As := []) (rest := []) S hK hZ hP hS hl0.1 58 (by decide) hF10 (C := RX8) rfl (c_X8_keeps l D cA ad t hI F hW ) (cwV 0 S.2.2.2.2 gX8_drift_X8_keeps rfl rfl rfl (by decide +kernel) ⟨Nat.le_of_ble_eq_true rfl, Nat.le_of_ble_eq_true rfl⟩) rfl rfl (Nat.le_of_ble_eq_true rfl) ⟨Nat.zero_le _, Nat.zero_le _⟩ dX8_drift_39 (fun F19 H19 locs19 hr19 hP19 hS19 => ?_)
        obtain ⟨hW19, hFc19, hr19⟩ := hr19
        have hFr19 := hFr.tr hFc19 (by simp <;> first | omega | (simp only [isC, isJ] at *; omega))
        refine lv_iconst (v := (nI 0)) S.1 S.2.1 dX8_drift_42 (by decide +kernel) ?_
        refine lv_istore_n (lv' := [(2, .int (nI 0)), (0, .ref (ad 58)), (1, .int (nI j8))]) S.1 S.2.1 dX8_drift_43 rfl hl0 (by decide) rfl (fun ls20 hl20 => ?_)
        have lp21 : ∀ (n21 : Nat) (q221 : Nat), ∀ (Fl21 : Nat → va_E) (Hl21 : Heap) (lol21 : List Loc), q221 ≤ j8 → j8 - q221 < n21 → WT cA ad Fl21 → rFr [58, 62, 63] F Fl21 → va_P D vwCl (rW ad Fl21) Hl21 → va_S (rA ad) s.heap Hl21 lol21 → ∀ (ls : Array Slot), lv_has ls 3 [(2, .int (nI q221)), (0, .ref (ad 58)), (1, .int (nI j8))] → W p l e { frames := 3, cells := 0, slots := 0, locals := 70 } s m args below meth c Hl21 lol21 0 0 Q (F0 m 44 ls []) := by
          intro n21
          induction n21 with
          | zero =>
            intro q221 Fl21 Hl21 lol21 iv21_0 hm21 hWl21 hFl21 hPl21 hSl21 ls21 hl21
            exact absurd hm21 (Nat.not_lt_zero _)
          | succ n21 ih21 =>
            intro q221 Fl21 Hl21 lol21 iv21_0 hm21 hWl21 hFl21 hPl21 hSl21 ls21 hl21
            refine lv_iload_n S.1 S.2.1 dX8_drift_44 rfl (lv_at hl21 0 rfl) ?_
            refine lv_iload_n S.1 S.2.1 dX8_drift_45 rfl (lv_at hl21 2 rfl) ?_
            refine lv_icmp_ge (tgt := 59) S.1 S.2.1 dX8_drift_46 (by decide) (fun c22 => ?_) (fun c22 => ?_)
            · skip
              have k23 := ci_le (nI_toInt (n := j8) (by omega)) (nI_toInt (n := q221) (by omega)) c22
              refine lv_aload_n S.1 S.2.1 dX8_drift_59 rfl (lv_at hl21 1 rfl) ?_
              obtain ⟨ty24, kn24, no24, en24, at24, sa24, sd24, wr24, pl24, va24, hF24, hb24_1, hb24_2, hb24_3, hb24_4, hb24_5, hb24_6⟩ := wt_m hWl21
              refine r_get S hK hPl21 58 (by decide) hF24 (C := RX8) (T := TX8) (N := 23) hiX8 rfl 4 (by decide) (by decide +kernel) (v := .ref (ad 62)) rfl dX8_drift_60 ?_
              refine lv_iconst (v := (nI 3)) S.1 S.2.1 dX8_drift_63 (by decide +kernel) ?_
              obtain ⟨g25, hF25, hg25⟩ := wt_I hWl21 (show (62, 7) ∈ rLI by decide)
              refine r_iald S hK hPl21 62 (by decide) hF25 (vp_in_nI (show 3 < 7 by omega) (by omega)) dX8_drift_64 ?_
              refine lv_topi (fun v27 e27 => ?_)
              exact hret 65 _ _ _ _ _ dX8_drift_65 rfl hPl21 hSl21 ⟨hWl21, hFl21, trivial⟩
            have k28 := ci_nle (nI_toInt (n := j8) (by omega)) (nI_toInt (n := q221) (by omega)) c22
            refine lv_aload_n S.1 S.2.1 dX8_drift_49 rfl (lv_at hl21 1 rfl) ?_
            obtain ⟨ty30, kn30, no30, en30, at30, sa30, sd30, wr30, pl30, va30, hF30, hb30_1, hb30_2, hb30_3, hb30_4, hb30_5, hb30_6⟩ := wt_m hWl21
            refine r_cVv (As := []) (rest := []) S hK hZ hPl21 hSl21 hl21.1 58 (by decide) hF30 (C := RX8) rfl (c_X8_drifts l D cA ad t hI Fl21 hWl21 ) (cwV 0 S.2.2.2.2 gX8_drift_X8_drifts rfl rfl rfl (by decide +kernel) ⟨Nat.le_of_ble_eq_true rfl, Nat.le_of_ble_eq_true rfl⟩) rfl rfl (Nat.le_of_ble_eq_true rfl) ⟨Nat.zero_le _, Nat.zero_le _⟩ dX8_drift_50 (fun F29 H29 locs29 hr29 hP29 hS29 => ?_)
            obtain ⟨hW29, hFc29, hr29⟩ := hr29
            have hFr29 := hFl21.tr hFc29 (by simp <;> first | omega | (simp only [isC, isJ] at *; omega))
            refine lv_iinc (v := (nI (q221 + 1))) (lv' := [(2, .int (nI (q221 + 1))), (0, .ref (ad 58)), (1, .int (nI j8))]) S.1 S.2.1 dX8_drift_53 hl21 (k := 0) rfl (nI_add _ 1) (by decide) rfl (fun ls31 hl31 => ?_)
            refine lv_goto (tgt := 44) S.1 S.2.1 dX8_drift_56 (by decide) ?_
            exact ih21 (q221 + 1) F29 H29 locs29 (by omega) (by omega) hW29 hFr29 hP29 hS29 ls31 (lv_sub hl31 [0, 1, 2] rfl)
        exact lp21 (j8 - (0) + 1) (0) F19 H19 locs19 (by omega) (by omega) hW19 hFr19 hP19 hS19 ls20 (lv_sub hl20 [0, 1, 2] rfl)
      have k32 := ci_nle rfl (nI_toInt (n := 9000) (by omega)) c17
      refine lv_ldc (v := (-1000000004)) S.1 S.2.1 S.2.2.2.1 (S.2.2.2.2 (.constant RX8 63 (-1000000004)) (by decide +kernel)) dX8_drift_35 ?_
      exact hret 37 _ _ _ _ _ dX8_drift_37 rfl hP hS ⟨hW, hFr, trivial⟩
    have k33 := ci_eq (nI_toInt (n := b11) (by omega)) z_ti c12
    refine lv_ldc (v := (-1000000003)) S.1 S.2.1 S.2.2.2.1 (S.2.2.2.2 (.constant RX8 139 (-1000000003)) (by decide +kernel)) dX8_drift_20 ?_
    exact hret 22 _ _ _ _ _ dX8_drift_22 rfl hP hS ⟨hW, hFr, trivial⟩
  have k34 := ci_eq (nI_toInt (n := b2) (by omega)) z_ti c6
  refine lv_ldc (v := (-1000000002)) S.1 S.2.1 S.2.2.2.1 (S.2.2.2.2 (.constant RX8 59 (-1000000002)) (by decide +kernel)) dX8_drift_10 ?_
  exact hret 12 _ _ _ _ _ dX8_drift_12 rfl hP hS ⟨hW, hFr, trivial⟩
set_option maxHeartbeats 4000000 in
set_option maxRecDepth 100000 in
theorem c_X8_undo (l : Launch) (D : va_G) (cA ad : Nat → Nat) (t : Nat) (hI : rI ad) (F : Nat → va_E) (hW : WT cA ad F) : MI l D cA ad t yX8_undo wsX8_undo { frames := 0, cells := 0, slots := 0, locals := 0 } [.ref (ad 58)] F (fun r F' => WT cA ad F' ∧ rFr [58, 62] F F' ∧ (True)) := by
  refine en_I rfl (by decide +kernel) (Nat.le_of_ble_eq_true rfl) ?_
  intro p e s m args below meth c ls0 Q S hK hZ hP hS hl0 hret
  have hl0 : lv_has ls0 2 [(0, .ref (ad 58))] := hl0
  have hFr : rFr [58, 62] F F := rFr.rf
  have hiX8 : ∀ w ∈ u_ws RX8 TX8 23, w ∈ wsX8_undo := by decide +kernel
  refine lv_aload_n S.1 S.2.1 dX8_undo_0 rfl (lv_at hl0 0 rfl) ?_
  obtain ⟨ty1, kn1, no1, en1, at1, sa1, sd1, wr1, pl1, va1, hF1, hb1_1, hb1_2, hb1_3, hb1_4, hb1_5, hb1_6⟩ := wt_m hW
  refine r_get S hK hP 58 (by decide) hF1 (C := RX8) (T := TX8) (N := 23) hiX8 rfl 6 (by decide) (by decide +kernel) (v := .int (nI kn1)) rfl dX8_undo_1 ?_
  refine lv_if_ne (tgt := 10) S.1 S.2.1 dX8_undo_4 (by decide) (fun c2 => ?_) (fun c2 => ?_)
  · skip
    have k3 := ci_ne (nI_toInt (n := kn1) (by omega)) z_ti c2
    refine lv_aload_n S.1 S.2.1 dX8_undo_10 rfl (lv_at hl0 0 rfl) ?_
    refine lv_dup S.1 S.2.1 dX8_undo_11 rfl ?_
    refine r_get S hK hP 58 (by decide) hF1 (C := RX8) (T := TX8) (N := 23) hiX8 rfl 6 (by decide) (by decide +kernel) (v := .int (nI kn1)) rfl dX8_undo_12 ?_
    refine lv_iconst (v := (nI 1)) S.1 S.2.1 dX8_undo_15 (by decide +kernel) ?_
    refine lv_isub S.1 S.2.1 dX8_undo_16 ?_
    refine lv_topi (fun v4 e4 => ?_)
    obtain rfl : v4 = nI (kn1 - 1) := e4.trans (pk_sub (by omega))
    refine r_put S hI hK hP hS 58 (by decide) hF1 (C := RX8) (T := TX8) (N := 23) hiX8 tyX8_ok nmX8 rfl 6 (by decide) (by decide +kernel) rfl rfl rfl (Nat.le_of_ble_eq_true rfl) dX8_undo_17 (fun F5 H5 locs5 eF5 hP5 hS5 => ?_)
    have hF5 : F5 58 = .inr (8, [.ref (ad 59), .int (nI ty1), .ref (ad 60), .ref (ad 61), .ref (ad 62), .ref (ad 63), .int (nI (kn1 - 1)), .ref (ad 64), .ref (ad 65), .int sd1, .ref (ad 66), .int (nI no1), .ref (ad 67), .int (nI en1), .int (nI at1), .int wr1, .int pl1, .int va1, .int (nI sa1), .ref (ad 68), .ref (ad 69), .ref (ad 70), .ref (ad 71)]) := by rw [eF5]; exact va_up_self _ _ _
    have hW5 := hW.up eF5 (ok_m ⟨ty1, kn1 - 1, no1, en1, at1, sa1, sd1, wr1, pl1, va1, rfl, by omega, by omega, by omega, by omega, by omega, by omega⟩)
    have hFr5 := hFr.up eF5 (by simp <;> first | omega | (simp only [isC, isJ] at *; omega))
    refine lv_iconst (v := (nI 0)) S.1 S.2.1 dX8_undo_20 (by decide +kernel) ?_
    refine lv_istore_n (lv' := [(1, .int (nI 0)), (0, .ref (ad 58))]) S.1 S.2.1 dX8_undo_21 rfl hl0 (by decide) rfl (fun ls6 hl6 => ?_)
    have lp7 : ∀ (n7 : Nat) (q17 : Nat), ∀ (Fl7 : Nat → va_E) (Hl7 : Heap) (lol7 : List Loc), q17 ≤ 7 → fN (Fl7 58) 6 < 20 → 7 - q17 < n7 → WT cA ad Fl7 → rFr [58, 62] F Fl7 → va_P D vwCl (rW ad Fl7) Hl7 → va_S (rA ad) s.heap Hl7 lol7 → ∀ (ls : Array Slot), lv_has ls 2 [(1, .int (nI q17)), (0, .ref (ad 58))] → W p l e { frames := 0, cells := 0, slots := 0, locals := 0 } s m args below meth c Hl7 lol7 0 0 Q (F0 m 22 ls []) := by
      intro n7
      induction n7 with
      | zero =>
        intro q17 Fl7 Hl7 lol7 iv7_0 ix7_kn hm7 hWl7 hFl7 hPl7 hSl7 ls7 hl7
        exact absurd hm7 (Nat.not_lt_zero _)
      | succ n7 ih7 =>
        intro q17 Fl7 Hl7 lol7 iv7_0 ix7_kn hm7 hWl7 hFl7 hPl7 hSl7 ls7 hl7
        obtain ⟨ty8, kn8, no8, en8, at8, sa8, sd8, wr8, pl8, va8, hF8, hb8_1, hb8_2, hb8_3, hb8_4, hb8_5, hb8_6⟩ := wt_m hWl7
        have hK9 := fN_of (k := 6) (a := kn8) hF8 rfl (by omega)
        refine lv_iload_n S.1 S.2.1 dX8_undo_22 rfl (lv_at hl7 0 rfl) ?_
        refine lv_bipush (v := (nI 7)) S.1 S.2.1 dX8_undo_23 (by decide +kernel) ?_
        refine lv_icmp_ge (tgt := 54) S.1 S.2.1 dX8_undo_25 (by decide) (fun c10 => ?_) (fun c10 => ?_)
        · skip
          have k11 := ci_le (nI_toInt (n := 7) (by omega)) (nI_toInt (n := q17) (by omega)) c10
          refine lv_aload_n S.1 S.2.1 dX8_undo_54 rfl (lv_at hl7 1 rfl) ?_
          refine r_get S hK hPl7 58 (by decide) hF8 (C := RX8) (T := TX8) (N := 23) hiX8 rfl 6 (by decide) (by decide +kernel) (v := .int (nI kn8)) rfl dX8_undo_55 ?_
          exact hret 58 _ _ _ _ _ dX8_undo_58 rfl hPl7 hSl7 ⟨hWl7, hFl7, trivial⟩
        have k12 := ci_nle (nI_toInt (n := 7) (by omega)) (nI_toInt (n := q17) (by omega)) c10
        refine lv_aload_n S.1 S.2.1 dX8_undo_28 rfl (lv_at hl7 1 rfl) ?_
        refine r_get S hK hPl7 58 (by decide) hF8 (C := RX8) (T := TX8) (N := 23) hiX8 rfl 4 (by decide) (by decide +kernel) (v := .ref (ad 62)) rfl dX8_undo_29 ?_
        refine lv_iload_n S.1 S.2.1 dX8_undo_32 rfl (lv_at hl7 0 rfl) ?_
        refine lv_aload_n S.1 S.2.1 dX8_undo_33 rfl (lv_at hl7 1 rfl) ?_
        refine r_get S hK hPl7 58 (by decide) hF8 (C := RX8) (T := TX8) (N := 23) hiX8 rfl 5 (by decide) (by decide +kernel) (v := .ref (ad 63)) rfl dX8_undo_34 ?_
        refine lv_bipush (v := (nI 7)) S.1 S.2.1 dX8_undo_37 (by decide +kernel) ?_
        refine lv_aload_n S.1 S.2.1 dX8_undo_39 rfl (lv_at hl7 1 rfl) ?_
        refine r_get S hK hPl7 58 (by decide) hF8 (C := RX8) (T := TX8) (N := 23) hiX8 rfl 6 (by decide) (by decide +kernel) (v := .int (nI kn8)) rfl dX8_undo_40 ?_
        refine lv_imul S.1 S.2.1 dX8_undo_43 ?_
        refine lv_topi (fun v13 e13 => ?_)
        obtain rfl : v13 = nI (7 * kn8) := e13.trans (pk_mul _ _)
        refine lv_iload_n S.1 S.2.1 dX8_undo_44 rfl (lv_at hl7 0 rfl) ?_
        refine lv_iadd S.1 S.2.1 dX8_undo_45 ?_
        refine lv_topi (fun v14 e14 => ?_)
        obtain rfl : v14 = nI ((7 * kn8) + q17) := e14.trans (nI_add _ _)
        obtain ⟨g15, hF15, hg15⟩ := wt_I hWl7 (show (63, 140) ∈ rLI by decide)
        refine r_iald S hK hPl7 63 (by decide) hF15 (vp_in_nI (show (7 * kn8) + q17 < 140 by omega) (by omega)) dX8_undo_46 ?_
        refine lv_topi (fun v17 e17 => ?_)
        obtain ⟨g18, hF18, hg18⟩ := wt_I hWl7 (show (62, 7) ∈ rLI by decide)
        refine r_iast S hI hK hPl7 hSl7 62 (by decide) hF18 (vp_in_nI (show q17 < 7 by omega) (by omega)) dX8_undo_47 (fun F19 H19 locs19 eF19 hP19 hS19 => ?_)
        have hW19 := hWl7.up eF19 (ok_I (show (62, 7) ∈ rLI by decide) (okI_up hg18 (by rw [nI_clamp (by omega)]; apply to_S; rw [e17, nI_clamp (by omega)]; exact okS_cg (by omega) (pr_S7 (hg15 ((7 * kn8) + q17) (by omega))))))
        have hFr19 := hFl7.up eF19 (by simp <;> first | omega | (simp only [isC, isJ] at *; omega))
        obtain ⟨gg19, eg19⟩ : ∃ g9, g9 = upd g18 (nI q17).toNatClampNeg v17 := ⟨_, rfl⟩
        have hF19 : F19 62 = .inl (cA 0, 7, .inl gg19) := by rw [eF19, eg19]; exact va_up_self _ _ _
        have hg19 : ∀ j, j < 7 → rPr 62 j (gg19 j) := by rw [eg19]; exact pr_up hg18 (by rw [nI_clamp (by omega)]; apply to_S; rw [e17, nI_clamp (by omega)]; exact okS_cg (by omega) (pr_S7 (hg15 ((7 * kn8) + q17) (by omega))))
        refine lv_iinc (v := (nI (q17 + 1))) (lv' := [(1, .int (nI (q17 + 1))), (0, .ref (ad 58))]) S.1 S.2.1 dX8_undo_48 hl7 (k := 0) rfl (nI_add _ 1) (by decide) rfl (fun ls20 hl20 => ?_)
        refine lv_goto (tgt := 22) S.1 S.2.1 dX8_undo_51 (by decide) ?_
        have hF21 := (show F19 58 = Fl7 58 by rw [eF19]; exact va_up_ne _ _ (by decide)).trans hF8
        have hK22 := fN_of (k := 6) (a := kn8) hF21 rfl (by omega)
        exact ih7 (q17 + 1) F19 H19 locs19 (by omega) (by omega) (by omega) hW19 hFr19 hP19 hS19 ls20 (lv_sub hl20 [0, 1] rfl)
    have hK23 := fN_of (k := 6) (a := kn1 - 1) hF5 rfl (by omega)
    exact lp7 (7 - (0) + 1) (0) F5 H5 locs5 (by omega) (by omega) (by omega) hW5 hFr5 hP5 hS5 ls6 (lv_sub hl6 [0, 1] rfl)
  have k24 := ci_eq (nI_toInt (n := kn1) (by omega)) z_ti c2
  refine lv_ldc (v := (-1000000003)) S.1 S.2.1 S.2.2.2.1 (S.2.2.2.2 (.constant RX8 139 (-1000000003)) (by decide +kernel)) dX8_undo_7 ?_
  exact hret 9 _ _ _ _ _ dX8_undo_9 rfl hP hS ⟨hW, hFr, trivial⟩
set_option maxHeartbeats 4000000 in
set_option maxRecDepth 100000 in
theorem c_X8_bit (l : Launch) (D : va_G) (cA ad : Nat → Nat) (t : Nat) (hI : rI ad) (F : Nat → va_E) (hW : WT cA ad F) (p1 : Int32) (p2 : Int32) : ML l D cA ad t yX8_bit wsX8_bit { frames := 0, cells := 0, slots := 0, locals := 0 } [.int p1, .int p2] F (fun r => True) := by
  refine en_L rfl (by decide +kernel) (Nat.le_of_ble_eq_true rfl) ?_
  intro p e s m args below meth c ls0 Q S hK hZ hP hS hl0 hret
  have hl0 : lv_has ls0 2 [(0, .int p1), (1, .int p2)] := hl0
  refine lv_lconst (v := 1) S.1 S.2.1 dX8_bit_0 (by decide +kernel) ?_
  refine lv_iconst (v := (nI 5)) S.1 S.2.1 dX8_bit_1 (by decide +kernel) ?_
  refine lv_iload_n S.1 S.2.1 dX8_bit_2 rfl (lv_at hl0 0 rfl) ?_
  refine lv_imul S.1 S.2.1 dX8_bit_3 ?_
  refine lv_topi (fun v1 e1 => ?_)
  refine lv_iload_n S.1 S.2.1 dX8_bit_4 rfl (lv_at hl0 1 rfl) ?_
  refine lv_iadd S.1 S.2.1 dX8_bit_5 ?_
  refine lv_topi (fun v2 e2 => ?_)
  refine lv_lshl S.1 S.2.1 dX8_bit_6 rfl ?_
  refine lv_topl (fun v3 e3 => ?_)
  exact hret 7 _ _ dX8_bit_7 (trivial)
set_option maxHeartbeats 4000000 in
set_option maxRecDepth 100000 in
theorem c_X8_has (l : Launch) (D : va_G) (cA ad : Nat → Nat) (t : Nat) (hI : rI ad) (F : Nat → va_E) (hW : WT cA ad F) (p1 : Int64) (p2 : Int32) (p3 : Int32) : MP l D cA ad t yX8_has wsX8_has { frames := 1, cells := 0, slots := 0, locals := 21 } [.long p1, .int p2, .int p3] F (fun r => le32 1 r) := by
  refine en_P rfl (by decide +kernel) (Nat.le_of_ble_eq_true rfl) ?_
  intro p e s m args below meth c ls0 Q S hK hZ hP hS hl0 hret
  have hl0 : lv_has ls0 4 [(0, .long p1), (2, .int p2), (3, .int p3)] := hl0
  refine lv_lload_n S.1 S.2.1 dX8_has_0 rfl (lv_at hl0 0 rfl) ?_
  refine lv_iload_n S.1 S.2.1 dX8_has_1 rfl (lv_at hl0 1 rfl) ?_
  refine lv_iload_n S.1 S.2.1 dX8_has_2 rfl (lv_at hl0 2 rfl) ?_
  refine r_cSl (As := [.int p2, .int p3]) (rest := [.long p1]) S hK hZ hP hS hl0.1 (c_X8_bit l D cA ad t hI F hW p2 p3) (va_cwS 2 S.2.2.2.2 gX8_has_X8_bit rfl rfl rfl (by decide +kernel) ⟨Nat.le_of_ble_eq_true rfl, Nat.le_of_ble_eq_true rfl⟩) rfl rfl (Nat.le_of_ble_eq_true rfl) ⟨Nat.zero_le _, Nat.zero_le _⟩ dX8_has_3 (fun r1 hr1 => ?_)
  refine lv_land S.1 S.2.1 dX8_has_6 ?_
  refine lv_topl (fun v2 e2 => ?_)
  refine lv_lconst (v := 0) S.1 S.2.1 dX8_has_7 (by decide +kernel) ?_
  refine W.lcmp S.1 S.2.1 dX8_has_8 ?_
  refine lv_topi (fun v3 e3 => ?_)
  refine lv_if_eq (tgt := 16) S.1 S.2.1 dX8_has_9 (by decide) (fun c4 => ?_) (fun c4 => ?_)
  · skip
    have k5 := ci_eq rfl z_ti c4
    refine lv_iconst (v := (nI 0)) S.1 S.2.1 dX8_has_16 (by decide +kernel) ?_
    exact hret 17 _ _ dX8_has_17 rfl (⟨0, by omega, rfl⟩)
  have k6 := ci_ne rfl z_ti c4
  refine lv_iconst (v := (nI 1)) S.1 S.2.1 dX8_has_12 (by decide +kernel) ?_
  refine lv_goto (tgt := 17) S.1 S.2.1 dX8_has_13 (by decide) ?_
  exact hret 17 _ _ dX8_has_17 rfl (⟨1, by omega, rfl⟩)
set_option maxHeartbeats 4000000 in
set_option maxRecDepth 100000 in
theorem c_X8_goes (l : Launch) (D : va_G) (cA ad : Nat → Nat) (t : Nat) (hI : rI ad) (F : Nat → va_E) (hW : WT cA ad F) (p1 : Int64) (p2 : Int32) (p3 : Int32) : ML l D cA ad t yX8_goes wsX8_goes { frames := 2, cells := 0, slots := 0, locals := 48 } [.ref (ad 58), .long p1, .int p2, .int p3] F (fun r => True) := by
  refine en_L rfl (by decide +kernel) (Nat.le_of_ble_eq_true rfl) ?_
  intro p e s m args below meth c ls0 Q S hK hZ hP hS hl0 hret
  have hl0 : lv_has ls0 11 [(0, .ref (ad 58)), (1, .long p1), (3, .int p2), (4, .int p3)] := hl0
  have hiX8 : ∀ w ∈ u_ws RX8 TX8 23, w ∈ wsX8_goes := by decide +kernel
  refine lv_lconst (v := 0) S.1 S.2.1 dX8_goes_0 (by decide +kernel) ?_
  refine lv_lstore (lv' := [(5, .long 0), (0, .ref (ad 58)), (1, .long p1), (3, .int p2), (4, .int p3)]) S.1 S.2.1 dX8_goes_1 hl0 (by decide) rfl (fun ls1 hl1 => ?_)
  refine lv_iconst (v := (nI 0)) S.1 S.2.1 dX8_goes_3 (by decide +kernel) ?_
  refine lv_istore (lv' := [(7, .int (nI 0)), (5, .long 0), (0, .ref (ad 58)), (1, .long p1), (3, .int p2), (4, .int p3)]) S.1 S.2.1 dX8_goes_4 hl1 (by decide) rfl (fun ls2 hl2 => ?_)
  have lp3 : ∀ (n3 : Nat) (q73 : Nat) (x3_5 : Int64), q73 ≤ 8 → 8 - q73 < n3 → ∀ (ls : Array Slot), lv_has ls 11 [(7, .int (nI q73)), (5, .long x3_5), (0, .ref (ad 58)), (1, .long p1), (3, .int p2), (4, .int p3)] → W p l e { frames := 2, cells := 0, slots := 0, locals := 48 } s m args below meth c s.heap [] 0 0 Q (F0 m 6 ls []) := by
    intro n3
    induction n3 with
    | zero =>
      intro q73 x3_5 iv3_0 hm3 ls3 hl3
      exact absurd hm3 (Nat.not_lt_zero _)
    | succ n3 ih3 =>
      intro q73 x3_5 iv3_0 hm3 ls3 hl3
      refine lv_iload S.1 S.2.1 dX8_goes_6 (lv_at hl3 0 rfl) ?_
      refine lv_aload_n S.1 S.2.1 dX8_goes_8 rfl (lv_at hl3 2 rfl) ?_
      obtain ⟨ty4, kn4, no4, en4, at4, sa4, sd4, wr4, pl4, va4, hF4, hb4_1, hb4_2, hb4_3, hb4_4, hb4_5, hb4_6⟩ := wt_m hW
      refine r_get S hK hP 58 (by decide) hF4 (C := RX8) (T := TX8) (N := 23) hiX8 rfl 2 (by decide) (by decide +kernel) (v := .ref (ad 60)) rfl dX8_goes_9 ?_
      refine lv_iconst (v := (nI 2)) S.1 S.2.1 dX8_goes_12 (by decide +kernel) ?_
      obtain ⟨g5, hF5, hg5⟩ := wt_I hW (show (60, 52) ∈ rLI by decide)
      refine r_iald S hK hP 60 (by decide) hF5 (vp_in_nI (show 2 < 52 by omega) (by omega)) dX8_goes_13 ?_
      refine lv_topi (fun v7 e7 => ?_)
      obtain ⟨b8, hb8, he8⟩ := (pr_T (by decide) (hg5 2 (by decide))).2.1 rfl
      obtain rfl : v7 = nI b8 := e7.trans he8
      refine lv_icmp_ge (tgt := 152) S.1 S.2.1 dX8_goes_14 (by decide) (fun c9 => ?_) (fun c9 => ?_)
      · skip
        have k10 := ci_le (nI_toInt (n := b8) (by omega)) (nI_toInt (n := q73) (by omega)) c9
        refine lv_lload S.1 S.2.1 dX8_goes_152 (lv_at hl3 1 rfl) ?_
        exact hret 154 _ _ dX8_goes_154 (trivial)
      have k11 := ci_nle (nI_toInt (n := b8) (by omega)) (nI_toInt (n := q73) (by omega)) c9
      refine lv_aload_n S.1 S.2.1 dX8_goes_17 rfl (lv_at hl3 2 rfl) ?_
      refine lv_iload S.1 S.2.1 dX8_goes_18 (lv_at hl3 0 rfl) ?_
      refine lv_iload_n S.1 S.2.1 dX8_goes_20 rfl (lv_at hl3 4 rfl) ?_
      refine r_cVp (As := [.int (nI q73), .int p2]) (rest := []) S hK hZ hP hS hl3.1 58 (by decide) hF4 (C := RX8) rfl (c_X8_walks l D cA ad t hI F hW (nI q73) p2) (cwV 2 S.2.2.2.2 gX8_goes_X8_walks rfl rfl rfl (by decide +kernel) ⟨Nat.le_of_ble_eq_true rfl, Nat.le_of_ble_eq_true rfl⟩) rfl rfl (Nat.le_of_ble_eq_true rfl) ⟨Nat.zero_le _, Nat.zero_le _⟩ dX8_goes_21 (fun r12 hr12 => ?_)
      refine lv_istore (lv' := [(8, .int r12), (7, .int (nI q73)), (5, .long x3_5), (0, .ref (ad 58)), (1, .long p1), (3, .int p2), (4, .int p3)]) S.1 S.2.1 dX8_goes_24 hl3 (by decide) rfl (fun ls13 hl13 => ?_)
      refine lv_iconst (v := (nI 0)) S.1 S.2.1 dX8_goes_26 (by decide +kernel) ?_
      refine lv_istore (lv' := [(9, .int (nI 0)), (8, .int r12), (7, .int (nI q73)), (5, .long x3_5), (0, .ref (ad 58)), (1, .long p1), (3, .int p2), (4, .int p3)]) S.1 S.2.1 dX8_goes_27 hl13 (by decide) rfl (fun ls14 hl14 => ?_)
      have lp15 : ∀ (n15 : Nat) (q915 : Nat) (x15_5 : Int64), q915 ≤ 5 → 5 - q915 < n15 → ∀ (ls : Array Slot), lv_has ls 11 [(9, .int (nI q915)), (8, .int r12), (7, .int (nI q73)), (5, .long x15_5), (0, .ref (ad 58)), (1, .long p1), (3, .int p2), (4, .int p3)] → W p l e { frames := 2, cells := 0, slots := 0, locals := 48 } s m args below meth c s.heap [] 0 0 Q (F0 m 29 ls []) := by
        intro n15
        induction n15 with
        | zero =>
          intro q915 x15_5 iv15_0 hm15 ls15 hl15
          exact absurd hm15 (Nat.not_lt_zero _)
        | succ n15 ih15 =>
          intro q915 x15_5 iv15_0 hm15 ls15 hl15
          refine lv_iload S.1 S.2.1 dX8_goes_29 (lv_at hl15 0 rfl) ?_
          refine lv_iconst (v := (nI 5)) S.1 S.2.1 dX8_goes_31 (by decide +kernel) ?_
          refine lv_icmp_ge (tgt := 146) S.1 S.2.1 dX8_goes_32 (by decide) (fun c16 => ?_) (fun c16 => ?_)
          · skip
            have k17 := ci_le (nI_toInt (n := 5) (by omega)) (nI_toInt (n := q915) (by omega)) c16
            refine lv_iinc (v := (nI (q73 + 1))) (lv' := [(7, .int (nI (q73 + 1))), (9, .int (nI q915)), (8, .int r12), (5, .long x15_5), (0, .ref (ad 58)), (1, .long p1), (3, .int p2), (4, .int p3)]) S.1 S.2.1 dX8_goes_146 hl15 (k := 2) rfl (nI_add _ 1) (by decide) rfl (fun ls18 hl18 => ?_)
            refine lv_goto (tgt := 6) S.1 S.2.1 dX8_goes_149 (by decide) ?_
            exact ih3 (q73 + 1) (x15_5) (by omega) (by omega) ls18 (lv_sub hl18 [0, 3, 4, 5, 6, 7] rfl)
          have k19 := ci_nle (nI_toInt (n := 5) (by omega)) (nI_toInt (n := q915) (by omega)) c16
          refine lv_lload_n S.1 S.2.1 dX8_goes_35 rfl (lv_at hl15 5 rfl) ?_
          refine lv_iload S.1 S.2.1 dX8_goes_36 (lv_at hl15 2 rfl) ?_
          refine lv_iload S.1 S.2.1 dX8_goes_38 (lv_at hl15 0 rfl) ?_
          refine r_cSp (As := [.long p1, .int (nI q73), .int (nI q915)]) (rest := []) S hK hZ hP hS hl15.1 (c_X8_has l D cA ad t hI F hW p1 (nI q73) (nI q915)) (va_cwS 3 S.2.2.2.2 gX8_goes_X8_has rfl rfl rfl (by decide +kernel) ⟨Nat.le_of_ble_eq_true rfl, Nat.le_of_ble_eq_true rfl⟩) rfl rfl (Nat.le_of_ble_eq_true rfl) ⟨Nat.zero_le _, Nat.zero_le _⟩ dX8_goes_40 (fun r20 hr20 => ?_)
          obtain ⟨b21, hb21, rfl⟩ := hr20
          refine lv_if_eq (tgt := 140) S.1 S.2.1 dX8_goes_43 (by decide) (fun c22 => ?_) (fun c22 => ?_)
          · skip
            have k23 := ci_eq (nI_toInt (n := b21) (by omega)) z_ti c22
            refine lv_iinc (v := (nI (q915 + 1))) (lv' := [(9, .int (nI (q915 + 1))), (8, .int r12), (7, .int (nI q73)), (5, .long x15_5), (0, .ref (ad 58)), (1, .long p1), (3, .int p2), (4, .int p3)]) S.1 S.2.1 dX8_goes_140 hl15 (k := 0) rfl (nI_add _ 1) (by decide) rfl (fun ls24 hl24 => ?_)
            refine lv_goto (tgt := 29) S.1 S.2.1 dX8_goes_143 (by decide) ?_
            exact ih15 (q915 + 1) (x15_5) (by omega) (by omega) ls24 (lv_sub hl24 [0, 1, 2, 3, 4, 5, 6, 7] rfl)
          have k25 := ci_ne (nI_toInt (n := b21) (by omega)) z_ti c22
          refine lv_lload S.1 S.2.1 dX8_goes_46 (lv_at hl15 3 rfl) ?_
          refine lv_iload S.1 S.2.1 dX8_goes_48 (lv_at hl15 0 rfl) ?_
          refine lv_aload_n S.1 S.2.1 dX8_goes_50 rfl (lv_at hl15 4 rfl) ?_
          refine r_get S hK hP 58 (by decide) hF4 (C := RX8) (T := TX8) (N := 23) hiX8 rfl 2 (by decide) (by decide +kernel) (v := .ref (ad 60)) rfl dX8_goes_51 ?_
          refine lv_iconst (v := (nI 0)) S.1 S.2.1 dX8_goes_54 (by decide +kernel) ?_
          refine r_iald S hK hP 60 (by decide) hF5 (vp_in_nI (show 0 < 52 by omega) (by omega)) dX8_goes_55 ?_
          refine lv_topi (fun v27 e27 => ?_)
          obtain ⟨b28, hb28, he28⟩ := (pr_T (by decide) (hg5 0 (by decide))).1 rfl
          obtain rfl : v27 = nI b28 := e27.trans he28
          refine lv_icmp_ge (tgt := 84) S.1 S.2.1 dX8_goes_56 (by decide) (fun c29 => ?_) (fun c29 => ?_)
          · skip
            have k30 := ci_le (nI_toInt (n := b28) (by omega)) (nI_toInt (n := q915) (by omega)) c29
            refine lv_lconst (v := 0) S.1 S.2.1 dX8_goes_84 (by decide +kernel) ?_
            refine lv_lor S.1 S.2.1 dX8_goes_85 ?_
            refine lv_topl (fun v31 e31 => ?_)
            refine lv_lstore (lv' := [(5, .long v31), (9, .int (nI q915)), (8, .int r12), (7, .int (nI q73)), (0, .ref (ad 58)), (1, .long p1), (3, .int p2), (4, .int p3)]) S.1 S.2.1 dX8_goes_86 hl15 (by decide) rfl (fun ls32 hl32 => ?_)
            refine lv_iconst (v := (nI 0)) S.1 S.2.1 dX8_goes_88 (by decide +kernel) ?_
            refine lv_istore (lv' := [(10, .int (nI 0)), (5, .long v31), (9, .int (nI q915)), (8, .int r12), (7, .int (nI q73)), (0, .ref (ad 58)), (1, .long p1), (3, .int p2), (4, .int p3)]) S.1 S.2.1 dX8_goes_89 hl32 (by decide) rfl (fun ls33 hl33 => ?_)
            have lp34 : ∀ (n34 : Nat) (q1034 : Nat) (x34_5 : Int64), q1034 ≤ 8 → 8 - q1034 < n34 → ∀ (ls : Array Slot), lv_has ls 11 [(10, .int (nI q1034)), (5, .long x34_5), (9, .int (nI q915)), (8, .int r12), (7, .int (nI q73)), (0, .ref (ad 58)), (1, .long p1), (3, .int p2), (4, .int p3)] → W p l e { frames := 2, cells := 0, slots := 0, locals := 48 } s m args below meth c s.heap [] 0 0 Q (F0 m 91 ls []) := by
              intro n34
              induction n34 with
              | zero =>
                intro q1034 x34_5 iv34_0 hm34 ls34 hl34
                exact absurd hm34 (Nat.not_lt_zero _)
              | succ n34 ih34 =>
                intro q1034 x34_5 iv34_0 hm34 ls34 hl34
                refine lv_iload S.1 S.2.1 dX8_goes_91 (lv_at hl34 0 rfl) ?_
                refine lv_aload_n S.1 S.2.1 dX8_goes_93 rfl (lv_at hl34 5 rfl) ?_
                refine r_get S hK hP 58 (by decide) hF4 (C := RX8) (T := TX8) (N := 23) hiX8 rfl 2 (by decide) (by decide +kernel) (v := .ref (ad 60)) rfl dX8_goes_94 ?_
                refine lv_iconst (v := (nI 2)) S.1 S.2.1 dX8_goes_97 (by decide +kernel) ?_
                refine r_iald S hK hP 60 (by decide) hF5 (vp_in_nI (show 2 < 52 by omega) (by omega)) dX8_goes_98 ?_
                refine lv_topi (fun v36 e36 => ?_)
                obtain rfl : v36 = nI b8 := e36.trans he8
                refine lv_icmp_ge (tgt := 140) S.1 S.2.1 dX8_goes_99 (by decide) (fun c37 => ?_) (fun c37 => ?_)
                · skip
                  have k38 := ci_le (nI_toInt (n := b8) (by omega)) (nI_toInt (n := q1034) (by omega)) c37
                  refine lv_iinc (v := (nI (q915 + 1))) (lv' := [(9, .int (nI (q915 + 1))), (10, .int (nI q1034)), (5, .long x34_5), (8, .int r12), (7, .int (nI q73)), (0, .ref (ad 58)), (1, .long p1), (3, .int p2), (4, .int p3)]) S.1 S.2.1 dX8_goes_140 hl34 (k := 2) rfl (nI_add _ 1) (by decide) rfl (fun ls39 hl39 => ?_)
                  refine lv_goto (tgt := 29) S.1 S.2.1 dX8_goes_143 (by decide) ?_
                  exact ih15 (q915 + 1) (x34_5) (by omega) (by omega) ls39 (lv_sub hl39 [0, 3, 4, 2, 5, 6, 7, 8] rfl)
                have k40 := ci_nle (nI_toInt (n := b8) (by omega)) (nI_toInt (n := q1034) (by omega)) c37
                refine lv_lload S.1 S.2.1 dX8_goes_102 (lv_at hl34 1 rfl) ?_
                refine lv_iload S.1 S.2.1 dX8_goes_104 (lv_at hl34 8 rfl) ?_
                refine lv_iconst (v := (-1)) S.1 S.2.1 dX8_goes_106 (by decide +kernel) ?_
                refine lv_icmp_ne (tgt := 130) S.1 S.2.1 dX8_goes_107 (by decide) (fun c41 => ?_) (fun c41 => ?_)
                · skip
                  have k42 := ci_ne rfl (show ((-1) : Int32).toInt = -1 by decide +kernel) c41
                  refine lv_lconst (v := 0) S.1 S.2.1 dX8_goes_130 (by decide +kernel) ?_
                  refine lv_lor S.1 S.2.1 dX8_goes_131 ?_
                  refine lv_topl (fun v43 e43 => ?_)
                  refine lv_lstore (lv' := [(5, .long v43), (10, .int (nI q1034)), (9, .int (nI q915)), (8, .int r12), (7, .int (nI q73)), (0, .ref (ad 58)), (1, .long p1), (3, .int p2), (4, .int p3)]) S.1 S.2.1 dX8_goes_132 hl34 (by decide) rfl (fun ls44 hl44 => ?_)
                  refine lv_iinc (v := (nI (q1034 + 1))) (lv' := [(10, .int (nI (q1034 + 1))), (5, .long v43), (9, .int (nI q915)), (8, .int r12), (7, .int (nI q73)), (0, .ref (ad 58)), (1, .long p1), (3, .int p2), (4, .int p3)]) S.1 S.2.1 dX8_goes_134 hl44 (k := 1) rfl (nI_add _ 1) (by decide) rfl (fun ls45 hl45 => ?_)
                  refine lv_goto (tgt := 91) S.1 S.2.1 dX8_goes_137 (by decide) ?_
                  exact ih34 (q1034 + 1) (v43) (by omega) (by omega) ls45 (lv_sub hl45 [0, 1, 2, 3, 4, 5, 6, 7, 8] rfl)
                have k46 := ci_eq rfl (show ((-1) : Int32).toInt = -1 by decide +kernel) c41
                refine lv_iload S.1 S.2.1 dX8_goes_110 (lv_at hl34 3 rfl) ?_
                refine lv_iload S.1 S.2.1 dX8_goes_112 (lv_at hl34 0 rfl) ?_
                refine lv_ishr S.1 S.2.1 dX8_goes_114 ?_
                refine lv_topi (fun v47 e47 => ?_)
                refine lv_iconst (v := (nI 1)) S.1 S.2.1 dX8_goes_115 (by decide +kernel) ?_
                refine lv_iand S.1 S.2.1 dX8_goes_116 ?_
                refine lv_topi (fun v48 e48 => ?_)
                refine lv_iconst (v := (nI 1)) S.1 S.2.1 dX8_goes_117 (by decide +kernel) ?_
                refine lv_icmp_ne (tgt := 130) S.1 S.2.1 dX8_goes_118 (by decide) (fun c49 => ?_) (fun c49 => ?_)
                · skip
                  have k50 := ci_ne rfl (nI_toInt (n := 1) (by omega)) c49
                  refine lv_lconst (v := 0) S.1 S.2.1 dX8_goes_130 (by decide +kernel) ?_
                  refine lv_lor S.1 S.2.1 dX8_goes_131 ?_
                  refine lv_topl (fun v51 e51 => ?_)
                  refine lv_lstore (lv' := [(5, .long v51), (10, .int (nI q1034)), (9, .int (nI q915)), (8, .int r12), (7, .int (nI q73)), (0, .ref (ad 58)), (1, .long p1), (3, .int p2), (4, .int p3)]) S.1 S.2.1 dX8_goes_132 hl34 (by decide) rfl (fun ls52 hl52 => ?_)
                  refine lv_iinc (v := (nI (q1034 + 1))) (lv' := [(10, .int (nI (q1034 + 1))), (5, .long v51), (9, .int (nI q915)), (8, .int r12), (7, .int (nI q73)), (0, .ref (ad 58)), (1, .long p1), (3, .int p2), (4, .int p3)]) S.1 S.2.1 dX8_goes_134 hl52 (k := 1) rfl (nI_add _ 1) (by decide) rfl (fun ls53 hl53 => ?_)
                  refine lv_goto (tgt := 91) S.1 S.2.1 dX8_goes_137 (by decide) ?_
                  exact ih34 (q1034 + 1) (v51) (by omega) (by omega) ls53 (lv_sub hl53 [0, 1, 2, 3, 4, 5, 6, 7, 8] rfl)
                have k54 := ci_eq rfl (nI_toInt (n := 1) (by omega)) c49
                refine lv_iload S.1 S.2.1 dX8_goes_121 (lv_at hl34 0 rfl) ?_
                refine lv_iconst (v := (nI 0)) S.1 S.2.1 dX8_goes_123 (by decide +kernel) ?_
                refine r_cSl (As := [.int (nI q1034), .int (nI 0)]) (rest := [.long x34_5]) S hK hZ hP hS hl34.1 (c_X8_bit l D cA ad t hI F hW (nI q1034) (nI 0)) (va_cwS 2 S.2.2.2.2 gX8_goes_X8_bit rfl rfl rfl (by decide +kernel) ⟨Nat.le_of_ble_eq_true rfl, Nat.le_of_ble_eq_true rfl⟩) rfl rfl (Nat.le_of_ble_eq_true rfl) ⟨Nat.zero_le _, Nat.zero_le _⟩ dX8_goes_124 (fun r55 hr55 => ?_)
                refine lv_goto (tgt := 131) S.1 S.2.1 dX8_goes_127 (by decide) ?_
                refine lv_lor S.1 S.2.1 dX8_goes_131 ?_
                refine lv_topl (fun v56 e56 => ?_)
                refine lv_lstore (lv' := [(5, .long v56), (10, .int (nI q1034)), (9, .int (nI q915)), (8, .int r12), (7, .int (nI q73)), (0, .ref (ad 58)), (1, .long p1), (3, .int p2), (4, .int p3)]) S.1 S.2.1 dX8_goes_132 hl34 (by decide) rfl (fun ls57 hl57 => ?_)
                refine lv_iinc (v := (nI (q1034 + 1))) (lv' := [(10, .int (nI (q1034 + 1))), (5, .long v56), (9, .int (nI q915)), (8, .int r12), (7, .int (nI q73)), (0, .ref (ad 58)), (1, .long p1), (3, .int p2), (4, .int p3)]) S.1 S.2.1 dX8_goes_134 hl57 (k := 1) rfl (nI_add _ 1) (by decide) rfl (fun ls58 hl58 => ?_)
                refine lv_goto (tgt := 91) S.1 S.2.1 dX8_goes_137 (by decide) ?_
                exact ih34 (q1034 + 1) (v56) (by omega) (by omega) ls58 (lv_sub hl58 [0, 1, 2, 3, 4, 5, 6, 7, 8] rfl)
            exact lp34 (8 - (0) + 1) (0) (v31) (by omega) (by omega) ls33 (lv_sub hl33 [0, 1, 2, 3, 4, 5, 6, 7, 8] rfl)
          have k59 := ci_nle (nI_toInt (n := b28) (by omega)) (nI_toInt (n := q915) (by omega)) c29
          refine lv_iload S.1 S.2.1 dX8_goes_59 (lv_at hl15 7 rfl) ?_
          refine lv_iconst (v := (-1)) S.1 S.2.1 dX8_goes_61 (by decide +kernel) ?_
          refine lv_icmp_eq (tgt := 72) S.1 S.2.1 dX8_goes_62 (by decide) (fun c60 => ?_) (fun c60 => ?_)
          · skip
            have k61 := ci_eq rfl (show ((-1) : Int32).toInt = -1 by decide +kernel) c60
            refine lv_iload S.1 S.2.1 dX8_goes_72 (lv_at hl15 2 rfl) ?_
            refine lv_iload S.1 S.2.1 dX8_goes_74 (lv_at hl15 0 rfl) ?_
            refine lv_iconst (v := (nI 1)) S.1 S.2.1 dX8_goes_76 (by decide +kernel) ?_
            refine lv_iadd S.1 S.2.1 dX8_goes_77 ?_
            refine lv_topi (fun v62 e62 => ?_)
            obtain rfl : v62 = nI (q915 + 1) := e62.trans (nI_add _ _)
            refine r_cSl (As := [.int (nI q73), .int (nI (q915 + 1))]) (rest := [.long x15_5]) S hK hZ hP hS hl15.1 (c_X8_bit l D cA ad t hI F hW (nI q73) (nI (q915 + 1))) (va_cwS 2 S.2.2.2.2 gX8_goes_X8_bit rfl rfl rfl (by decide +kernel) ⟨Nat.le_of_ble_eq_true rfl, Nat.le_of_ble_eq_true rfl⟩) rfl rfl (Nat.le_of_ble_eq_true rfl) ⟨Nat.zero_le _, Nat.zero_le _⟩ dX8_goes_78 (fun r63 hr63 => ?_)
            refine lv_goto (tgt := 85) S.1 S.2.1 dX8_goes_81 (by decide) ?_
            refine lv_lor S.1 S.2.1 dX8_goes_85 ?_
            refine lv_topl (fun v64 e64 => ?_)
            refine lv_lstore (lv' := [(5, .long v64), (9, .int (nI q915)), (8, .int r12), (7, .int (nI q73)), (0, .ref (ad 58)), (1, .long p1), (3, .int p2), (4, .int p3)]) S.1 S.2.1 dX8_goes_86 hl15 (by decide) rfl (fun ls65 hl65 => ?_)
            refine lv_iconst (v := (nI 0)) S.1 S.2.1 dX8_goes_88 (by decide +kernel) ?_
            refine lv_istore (lv' := [(10, .int (nI 0)), (5, .long v64), (9, .int (nI q915)), (8, .int r12), (7, .int (nI q73)), (0, .ref (ad 58)), (1, .long p1), (3, .int p2), (4, .int p3)]) S.1 S.2.1 dX8_goes_89 hl65 (by decide) rfl (fun ls66 hl66 => ?_)
            have lp67 : ∀ (n67 : Nat) (q1067 : Nat) (x67_5 : Int64), q1067 ≤ 8 → 8 - q1067 < n67 → ∀ (ls : Array Slot), lv_has ls 11 [(10, .int (nI q1067)), (5, .long x67_5), (9, .int (nI q915)), (8, .int r12), (7, .int (nI q73)), (0, .ref (ad 58)), (1, .long p1), (3, .int p2), (4, .int p3)] → W p l e { frames := 2, cells := 0, slots := 0, locals := 48 } s m args below meth c s.heap [] 0 0 Q (F0 m 91 ls []) := by
              intro n67
              induction n67 with
              | zero =>
                intro q1067 x67_5 iv67_0 hm67 ls67 hl67
                exact absurd hm67 (Nat.not_lt_zero _)
              | succ n67 ih67 =>
                intro q1067 x67_5 iv67_0 hm67 ls67 hl67
                refine lv_iload S.1 S.2.1 dX8_goes_91 (lv_at hl67 0 rfl) ?_
                refine lv_aload_n S.1 S.2.1 dX8_goes_93 rfl (lv_at hl67 5 rfl) ?_
                refine r_get S hK hP 58 (by decide) hF4 (C := RX8) (T := TX8) (N := 23) hiX8 rfl 2 (by decide) (by decide +kernel) (v := .ref (ad 60)) rfl dX8_goes_94 ?_
                refine lv_iconst (v := (nI 2)) S.1 S.2.1 dX8_goes_97 (by decide +kernel) ?_
                refine r_iald S hK hP 60 (by decide) hF5 (vp_in_nI (show 2 < 52 by omega) (by omega)) dX8_goes_98 ?_
                refine lv_topi (fun v69 e69 => ?_)
                obtain rfl : v69 = nI b8 := e69.trans he8
                refine lv_icmp_ge (tgt := 140) S.1 S.2.1 dX8_goes_99 (by decide) (fun c70 => ?_) (fun c70 => ?_)
                · skip
                  have k71 := ci_le (nI_toInt (n := b8) (by omega)) (nI_toInt (n := q1067) (by omega)) c70
                  refine lv_iinc (v := (nI (q915 + 1))) (lv' := [(9, .int (nI (q915 + 1))), (10, .int (nI q1067)), (5, .long x67_5), (8, .int r12), (7, .int (nI q73)), (0, .ref (ad 58)), (1, .long p1), (3, .int p2), (4, .int p3)]) S.1 S.2.1 dX8_goes_140 hl67 (k := 2) rfl (nI_add _ 1) (by decide) rfl (fun ls72 hl72 => ?_)
                  refine lv_goto (tgt := 29) S.1 S.2.1 dX8_goes_143 (by decide) ?_
                  exact ih15 (q915 + 1) (x67_5) (by omega) (by omega) ls72 (lv_sub hl72 [0, 3, 4, 2, 5, 6, 7, 8] rfl)
                have k73 := ci_nle (nI_toInt (n := b8) (by omega)) (nI_toInt (n := q1067) (by omega)) c70
                refine lv_lload S.1 S.2.1 dX8_goes_102 (lv_at hl67 1 rfl) ?_
                refine lv_iload S.1 S.2.1 dX8_goes_104 (lv_at hl67 8 rfl) ?_
                refine lv_iconst (v := (-1)) S.1 S.2.1 dX8_goes_106 (by decide +kernel) ?_
                refine lv_icmp_ne (tgt := 130) S.1 S.2.1 dX8_goes_107 (by decide) (fun c74 => ?_) (fun c74 => ?_)
                · skip
                  have k75 := ci_ne rfl (show ((-1) : Int32).toInt = -1 by decide +kernel) c74
                  refine lv_lconst (v := 0) S.1 S.2.1 dX8_goes_130 (by decide +kernel) ?_
                  refine lv_lor S.1 S.2.1 dX8_goes_131 ?_
                  refine lv_topl (fun v76 e76 => ?_)
                  refine lv_lstore (lv' := [(5, .long v76), (10, .int (nI q1067)), (9, .int (nI q915)), (8, .int r12), (7, .int (nI q73)), (0, .ref (ad 58)), (1, .long p1), (3, .int p2), (4, .int p3)]) S.1 S.2.1 dX8_goes_132 hl67 (by decide) rfl (fun ls77 hl77 => ?_)
                  refine lv_iinc (v := (nI (q1067 + 1))) (lv' := [(10, .int (nI (q1067 + 1))), (5, .long v76), (9, .int (nI q915)), (8, .int r12), (7, .int (nI q73)), (0, .ref (ad 58)), (1, .long p1), (3, .int p2), (4, .int p3)]) S.1 S.2.1 dX8_goes_134 hl77 (k := 1) rfl (nI_add _ 1) (by decide) rfl (fun ls78 hl78 => ?_)
                  refine lv_goto (tgt := 91) S.1 S.2.1 dX8_goes_137 (by decide) ?_
                  exact ih67 (q1067 + 1) (v76) (by omega) (by omega) ls78 (lv_sub hl78 [0, 1, 2, 3, 4, 5, 6, 7, 8] rfl)
                have k79 := ci_eq rfl (show ((-1) : Int32).toInt = -1 by decide +kernel) c74
                refine lv_iload S.1 S.2.1 dX8_goes_110 (lv_at hl67 3 rfl) ?_
                refine lv_iload S.1 S.2.1 dX8_goes_112 (lv_at hl67 0 rfl) ?_
                refine lv_ishr S.1 S.2.1 dX8_goes_114 ?_
                refine lv_topi (fun v80 e80 => ?_)
                refine lv_iconst (v := (nI 1)) S.1 S.2.1 dX8_goes_115 (by decide +kernel) ?_
                refine lv_iand S.1 S.2.1 dX8_goes_116 ?_
                refine lv_topi (fun v81 e81 => ?_)
                refine lv_iconst (v := (nI 1)) S.1 S.2.1 dX8_goes_117 (by decide +kernel) ?_
                refine lv_icmp_ne (tgt := 130) S.1 S.2.1 dX8_goes_118 (by decide) (fun c82 => ?_) (fun c82 => ?_)
                · skip
                  have k83 := ci_ne rfl (nI_toInt (n := 1) (by omega)) c82
                  refine lv_lconst (v := 0) S.1 S.2.1 dX8_goes_130 (by decide +kernel) ?_
                  refine lv_lor S.1 S.2.1 dX8_goes_131 ?_
                  refine lv_topl (fun v84 e84 => ?_)
                  refine lv_lstore (lv' := [(5, .long v84), (10, .int (nI q1067)), (9, .int (nI q915)), (8, .int r12), (7, .int (nI q73)), (0, .ref (ad 58)), (1, .long p1), (3, .int p2), (4, .int p3)]) S.1 S.2.1 dX8_goes_132 hl67 (by decide) rfl (fun ls85 hl85 => ?_)
                  refine lv_iinc (v := (nI (q1067 + 1))) (lv' := [(10, .int (nI (q1067 + 1))), (5, .long v84), (9, .int (nI q915)), (8, .int r12), (7, .int (nI q73)), (0, .ref (ad 58)), (1, .long p1), (3, .int p2), (4, .int p3)]) S.1 S.2.1 dX8_goes_134 hl85 (k := 1) rfl (nI_add _ 1) (by decide) rfl (fun ls86 hl86 => ?_)
                  refine lv_goto (tgt := 91) S.1 S.2.1 dX8_goes_137 (by decide) ?_
                  exact ih67 (q1067 + 1) (v84) (by omega) (by omega) ls86 (lv_sub hl86 [0, 1, 2, 3, 4, 5, 6, 7, 8] rfl)
                have k87 := ci_eq rfl (nI_toInt (n := 1) (by omega)) c82
                refine lv_iload S.1 S.2.1 dX8_goes_121 (lv_at hl67 0 rfl) ?_
                refine lv_iconst (v := (nI 0)) S.1 S.2.1 dX8_goes_123 (by decide +kernel) ?_
                refine r_cSl (As := [.int (nI q1067), .int (nI 0)]) (rest := [.long x67_5]) S hK hZ hP hS hl67.1 (c_X8_bit l D cA ad t hI F hW (nI q1067) (nI 0)) (va_cwS 2 S.2.2.2.2 gX8_goes_X8_bit rfl rfl rfl (by decide +kernel) ⟨Nat.le_of_ble_eq_true rfl, Nat.le_of_ble_eq_true rfl⟩) rfl rfl (Nat.le_of_ble_eq_true rfl) ⟨Nat.zero_le _, Nat.zero_le _⟩ dX8_goes_124 (fun r88 hr88 => ?_)
                refine lv_goto (tgt := 131) S.1 S.2.1 dX8_goes_127 (by decide) ?_
                refine lv_lor S.1 S.2.1 dX8_goes_131 ?_
                refine lv_topl (fun v89 e89 => ?_)
                refine lv_lstore (lv' := [(5, .long v89), (10, .int (nI q1067)), (9, .int (nI q915)), (8, .int r12), (7, .int (nI q73)), (0, .ref (ad 58)), (1, .long p1), (3, .int p2), (4, .int p3)]) S.1 S.2.1 dX8_goes_132 hl67 (by decide) rfl (fun ls90 hl90 => ?_)
                refine lv_iinc (v := (nI (q1067 + 1))) (lv' := [(10, .int (nI (q1067 + 1))), (5, .long v89), (9, .int (nI q915)), (8, .int r12), (7, .int (nI q73)), (0, .ref (ad 58)), (1, .long p1), (3, .int p2), (4, .int p3)]) S.1 S.2.1 dX8_goes_134 hl90 (k := 1) rfl (nI_add _ 1) (by decide) rfl (fun ls91 hl91 => ?_)
                refine lv_goto (tgt := 91) S.1 S.2.1 dX8_goes_137 (by decide) ?_
                exact ih67 (q1067 + 1) (v89) (by omega) (by omega) ls91 (lv_sub hl91 [0, 1, 2, 3, 4, 5, 6, 7, 8] rfl)
            exact lp67 (8 - (0) + 1) (0) (v64) (by omega) (by omega) ls66 (lv_sub hl66 [0, 1, 2, 3, 4, 5, 6, 7, 8] rfl)
          have k92 := ci_ne rfl (show ((-1) : Int32).toInt = -1 by decide +kernel) c60
          refine lv_iload S.1 S.2.1 dX8_goes_65 (lv_at hl15 7 rfl) ?_
          refine lv_iload S.1 S.2.1 dX8_goes_67 (lv_at hl15 2 rfl) ?_
          refine lv_icmp_ne (tgt := 84) S.1 S.2.1 dX8_goes_69 (by decide) (fun c93 => ?_) (fun c93 => ?_)
          · skip
            have k94 := ci_ne rfl (nI_toInt (n := q73) (by omega)) c93
            refine lv_lconst (v := 0) S.1 S.2.1 dX8_goes_84 (by decide +kernel) ?_
            refine lv_lor S.1 S.2.1 dX8_goes_85 ?_
            refine lv_topl (fun v95 e95 => ?_)
            refine lv_lstore (lv' := [(5, .long v95), (9, .int (nI q915)), (8, .int r12), (7, .int (nI q73)), (0, .ref (ad 58)), (1, .long p1), (3, .int p2), (4, .int p3)]) S.1 S.2.1 dX8_goes_86 hl15 (by decide) rfl (fun ls96 hl96 => ?_)
            refine lv_iconst (v := (nI 0)) S.1 S.2.1 dX8_goes_88 (by decide +kernel) ?_
            refine lv_istore (lv' := [(10, .int (nI 0)), (5, .long v95), (9, .int (nI q915)), (8, .int r12), (7, .int (nI q73)), (0, .ref (ad 58)), (1, .long p1), (3, .int p2), (4, .int p3)]) S.1 S.2.1 dX8_goes_89 hl96 (by decide) rfl (fun ls97 hl97 => ?_)
            have lp98 : ∀ (n98 : Nat) (q1098 : Nat) (x98_5 : Int64), q1098 ≤ 8 → 8 - q1098 < n98 → ∀ (ls : Array Slot), lv_has ls 11 [(10, .int (nI q1098)), (5, .long x98_5), (9, .int (nI q915)), (8, .int r12), (7, .int (nI q73)), (0, .ref (ad 58)), (1, .long p1), (3, .int p2), (4, .int p3)] → W p l e { frames := 2, cells := 0, slots := 0, locals := 48 } s m args below meth c s.heap [] 0 0 Q (F0 m 91 ls []) := by
              intro n98
              induction n98 with
              | zero =>
                intro q1098 x98_5 iv98_0 hm98 ls98 hl98
                exact absurd hm98 (Nat.not_lt_zero _)
              | succ n98 ih98 =>
                intro q1098 x98_5 iv98_0 hm98 ls98 hl98
                refine lv_iload S.1 S.2.1 dX8_goes_91 (lv_at hl98 0 rfl) ?_
                refine lv_aload_n S.1 S.2.1 dX8_goes_93 rfl (lv_at hl98 5 rfl) ?_
                refine r_get S hK hP 58 (by decide) hF4 (C := RX8) (T := TX8) (N := 23) hiX8 rfl 2 (by decide) (by decide +kernel) (v := .ref (ad 60)) rfl dX8_goes_94 ?_
                refine lv_iconst (v := (nI 2)) S.1 S.2.1 dX8_goes_97 (by decide +kernel) ?_
                refine r_iald S hK hP 60 (by decide) hF5 (vp_in_nI (show 2 < 52 by omega) (by omega)) dX8_goes_98 ?_
                refine lv_topi (fun v100 e100 => ?_)
                obtain rfl : v100 = nI b8 := e100.trans he8
                refine lv_icmp_ge (tgt := 140) S.1 S.2.1 dX8_goes_99 (by decide) (fun c101 => ?_) (fun c101 => ?_)
                · skip
                  have k102 := ci_le (nI_toInt (n := b8) (by omega)) (nI_toInt (n := q1098) (by omega)) c101
                  refine lv_iinc (v := (nI (q915 + 1))) (lv' := [(9, .int (nI (q915 + 1))), (10, .int (nI q1098)), (5, .long x98_5), (8, .int r12), (7, .int (nI q73)), (0, .ref (ad 58)), (1, .long p1), (3, .int p2), (4, .int p3)]) S.1 S.2.1 dX8_goes_140 hl98 (k := 2) rfl (nI_add _ 1) (by decide) rfl (fun ls103 hl103 => ?_)
                  refine lv_goto (tgt := 29) S.1 S.2.1 dX8_goes_143 (by decide) ?_
                  exact ih15 (q915 + 1) (x98_5) (by omega) (by omega) ls103 (lv_sub hl103 [0, 3, 4, 2, 5, 6, 7, 8] rfl)
                have k104 := ci_nle (nI_toInt (n := b8) (by omega)) (nI_toInt (n := q1098) (by omega)) c101
                refine lv_lload S.1 S.2.1 dX8_goes_102 (lv_at hl98 1 rfl) ?_
                refine lv_iload S.1 S.2.1 dX8_goes_104 (lv_at hl98 8 rfl) ?_
                refine lv_iconst (v := (-1)) S.1 S.2.1 dX8_goes_106 (by decide +kernel) ?_
                refine lv_icmp_ne (tgt := 130) S.1 S.2.1 dX8_goes_107 (by decide) (fun c105 => ?_) (fun c105 => ?_)
                · skip
                  have k106 := ci_ne rfl (show ((-1) : Int32).toInt = -1 by decide +kernel) c105
                  refine lv_lconst (v := 0) S.1 S.2.1 dX8_goes_130 (by decide +kernel) ?_
                  refine lv_lor S.1 S.2.1 dX8_goes_131 ?_
                  refine lv_topl (fun v107 e107 => ?_)
                  refine lv_lstore (lv' := [(5, .long v107), (10, .int (nI q1098)), (9, .int (nI q915)), (8, .int r12), (7, .int (nI q73)), (0, .ref (ad 58)), (1, .long p1), (3, .int p2), (4, .int p3)]) S.1 S.2.1 dX8_goes_132 hl98 (by decide) rfl (fun ls108 hl108 => ?_)
                  refine lv_iinc (v := (nI (q1098 + 1))) (lv' := [(10, .int (nI (q1098 + 1))), (5, .long v107), (9, .int (nI q915)), (8, .int r12), (7, .int (nI q73)), (0, .ref (ad 58)), (1, .long p1), (3, .int p2), (4, .int p3)]) S.1 S.2.1 dX8_goes_134 hl108 (k := 1) rfl (nI_add _ 1) (by decide) rfl (fun ls109 hl109 => ?_)
                  refine lv_goto (tgt := 91) S.1 S.2.1 dX8_goes_137 (by decide) ?_
                  exact ih98 (q1098 + 1) (v107) (by omega) (by omega) ls109 (lv_sub hl109 [0, 1, 2, 3, 4, 5, 6, 7, 8] rfl)
                have k110 := ci_eq rfl (show ((-1) : Int32).toInt = -1 by decide +kernel) c105
                refine lv_iload S.1 S.2.1 dX8_goes_110 (lv_at hl98 3 rfl) ?_
                refine lv_iload S.1 S.2.1 dX8_goes_112 (lv_at hl98 0 rfl) ?_
                refine lv_ishr S.1 S.2.1 dX8_goes_114 ?_
                refine lv_topi (fun v111 e111 => ?_)
                refine lv_iconst (v := (nI 1)) S.1 S.2.1 dX8_goes_115 (by decide +kernel) ?_
                refine lv_iand S.1 S.2.1 dX8_goes_116 ?_
                refine lv_topi (fun v112 e112 => ?_)
                refine lv_iconst (v := (nI 1)) S.1 S.2.1 dX8_goes_117 (by decide +kernel) ?_
                refine lv_icmp_ne (tgt := 130) S.1 S.2.1 dX8_goes_118 (by decide) (fun c113 => ?_) (fun c113 => ?_)
                · skip
                  have k114 := ci_ne rfl (nI_toInt (n := 1) (by omega)) c113
                  refine lv_lconst (v := 0) S.1 S.2.1 dX8_goes_130 (by decide +kernel) ?_
                  refine lv_lor S.1 S.2.1 dX8_goes_131 ?_
                  refine lv_topl (fun v115 e115 => ?_)
                  refine lv_lstore (lv' := [(5, .long v115), (10, .int (nI q1098)), (9, .int (nI q915)), (8, .int r12), (7, .int (nI q73)), (0, .ref (ad 58)), (1, .long p1), (3, .int p2), (4, .int p3)]) S.1 S.2.1 dX8_goes_132 hl98 (by decide) rfl (fun ls116 hl116 => ?_)
                  refine lv_iinc (v := (nI (q1098 + 1))) (lv' := [(10, .int (nI (q1098 + 1))), (5, .long v115), (9, .int (nI q915)), (8, .int r12), (7, .int (nI q73)), (0, .ref (ad 58)), (1, .long p1), (3, .int p2), (4, .int p3)]) S.1 S.2.1 dX8_goes_134 hl116 (k := 1) rfl (nI_add _ 1) (by decide) rfl (fun ls117 hl117 => ?_)
                  refine lv_goto (tgt := 91) S.1 S.2.1 dX8_goes_137 (by decide) ?_
                  exact ih98 (q1098 + 1) (v115) (by omega) (by omega) ls117 (lv_sub hl117 [0, 1, 2, 3, 4, 5, 6, 7, 8] rfl)
                have k118 := ci_eq rfl (nI_toInt (n := 1) (by omega)) c113
                refine lv_iload S.1 S.2.1 dX8_goes_121 (lv_at hl98 0 rfl) ?_
                refine lv_iconst (v := (nI 0)) S.1 S.2.1 dX8_goes_123 (by decide +kernel) ?_
                refine r_cSl (As := [.int (nI q1098), .int (nI 0)]) (rest := [.long x98_5]) S hK hZ hP hS hl98.1 (c_X8_bit l D cA ad t hI F hW (nI q1098) (nI 0)) (va_cwS 2 S.2.2.2.2 gX8_goes_X8_bit rfl rfl rfl (by decide +kernel) ⟨Nat.le_of_ble_eq_true rfl, Nat.le_of_ble_eq_true rfl⟩) rfl rfl (Nat.le_of_ble_eq_true rfl) ⟨Nat.zero_le _, Nat.zero_le _⟩ dX8_goes_124 (fun r119 hr119 => ?_)
                refine lv_goto (tgt := 131) S.1 S.2.1 dX8_goes_127 (by decide) ?_
                refine lv_lor S.1 S.2.1 dX8_goes_131 ?_
                refine lv_topl (fun v120 e120 => ?_)
                refine lv_lstore (lv' := [(5, .long v120), (10, .int (nI q1098)), (9, .int (nI q915)), (8, .int r12), (7, .int (nI q73)), (0, .ref (ad 58)), (1, .long p1), (3, .int p2), (4, .int p3)]) S.1 S.2.1 dX8_goes_132 hl98 (by decide) rfl (fun ls121 hl121 => ?_)
                refine lv_iinc (v := (nI (q1098 + 1))) (lv' := [(10, .int (nI (q1098 + 1))), (5, .long v120), (9, .int (nI q915)), (8, .int r12), (7, .int (nI q73)), (0, .ref (ad 58)), (1, .long p1), (3, .int p2), (4, .int p3)]) S.1 S.2.1 dX8_goes_134 hl121 (k := 1) rfl (nI_add _ 1) (by decide) rfl (fun ls122 hl122 => ?_)
                refine lv_goto (tgt := 91) S.1 S.2.1 dX8_goes_137 (by decide) ?_
                exact ih98 (q1098 + 1) (v120) (by omega) (by omega) ls122 (lv_sub hl122 [0, 1, 2, 3, 4, 5, 6, 7, 8] rfl)
            exact lp98 (8 - (0) + 1) (0) (v95) (by omega) (by omega) ls97 (lv_sub hl97 [0, 1, 2, 3, 4, 5, 6, 7, 8] rfl)
          have k123 := ci_eq rfl (nI_toInt (n := q73) (by omega)) c93
          refine lv_iload S.1 S.2.1 dX8_goes_72 (lv_at hl15 2 rfl) ?_
          refine lv_iload S.1 S.2.1 dX8_goes_74 (lv_at hl15 0 rfl) ?_
          refine lv_iconst (v := (nI 1)) S.1 S.2.1 dX8_goes_76 (by decide +kernel) ?_
          refine lv_iadd S.1 S.2.1 dX8_goes_77 ?_
          refine lv_topi (fun v124 e124 => ?_)
          obtain rfl : v124 = nI (q915 + 1) := e124.trans (nI_add _ _)
          refine r_cSl (As := [.int (nI q73), .int (nI (q915 + 1))]) (rest := [.long x15_5]) S hK hZ hP hS hl15.1 (c_X8_bit l D cA ad t hI F hW (nI q73) (nI (q915 + 1))) (va_cwS 2 S.2.2.2.2 gX8_goes_X8_bit rfl rfl rfl (by decide +kernel) ⟨Nat.le_of_ble_eq_true rfl, Nat.le_of_ble_eq_true rfl⟩) rfl rfl (Nat.le_of_ble_eq_true rfl) ⟨Nat.zero_le _, Nat.zero_le _⟩ dX8_goes_78 (fun r125 hr125 => ?_)
          refine lv_goto (tgt := 85) S.1 S.2.1 dX8_goes_81 (by decide) ?_
          refine lv_lor S.1 S.2.1 dX8_goes_85 ?_
          refine lv_topl (fun v126 e126 => ?_)
          refine lv_lstore (lv' := [(5, .long v126), (9, .int (nI q915)), (8, .int r12), (7, .int (nI q73)), (0, .ref (ad 58)), (1, .long p1), (3, .int p2), (4, .int p3)]) S.1 S.2.1 dX8_goes_86 hl15 (by decide) rfl (fun ls127 hl127 => ?_)
          refine lv_iconst (v := (nI 0)) S.1 S.2.1 dX8_goes_88 (by decide +kernel) ?_
          refine lv_istore (lv' := [(10, .int (nI 0)), (5, .long v126), (9, .int (nI q915)), (8, .int r12), (7, .int (nI q73)), (0, .ref (ad 58)), (1, .long p1), (3, .int p2), (4, .int p3)]) S.1 S.2.1 dX8_goes_89 hl127 (by decide) rfl (fun ls128 hl128 => ?_)
          have lp129 : ∀ (n129 : Nat) (q10129 : Nat) (x129_5 : Int64), q10129 ≤ 8 → 8 - q10129 < n129 → ∀ (ls : Array Slot), lv_has ls 11 [(10, .int (nI q10129)), (5, .long x129_5), (9, .int (nI q915)), (8, .int r12), (7, .int (nI q73)), (0, .ref (ad 58)), (1, .long p1), (3, .int p2), (4, .int p3)] → W p l e { frames := 2, cells := 0, slots := 0, locals := 48 } s m args below meth c s.heap [] 0 0 Q (F0 m 91 ls []) := by
            intro n129
            induction n129 with
            | zero =>
              intro q10129 x129_5 iv129_0 hm129 ls129 hl129
              exact absurd hm129 (Nat.not_lt_zero _)
            | succ n129 ih129 =>
              intro q10129 x129_5 iv129_0 hm129 ls129 hl129
              refine lv_iload S.1 S.2.1 dX8_goes_91 (lv_at hl129 0 rfl) ?_
              refine lv_aload_n S.1 S.2.1 dX8_goes_93 rfl (lv_at hl129 5 rfl) ?_
              refine r_get S hK hP 58 (by decide) hF4 (C := RX8) (T := TX8) (N := 23) hiX8 rfl 2 (by decide) (by decide +kernel) (v := .ref (ad 60)) rfl dX8_goes_94 ?_
              refine lv_iconst (v := (nI 2)) S.1 S.2.1 dX8_goes_97 (by decide +kernel) ?_
              refine r_iald S hK hP 60 (by decide) hF5 (vp_in_nI (show 2 < 52 by omega) (by omega)) dX8_goes_98 ?_
              refine lv_topi (fun v131 e131 => ?_)
              obtain rfl : v131 = nI b8 := e131.trans he8
              refine lv_icmp_ge (tgt := 140) S.1 S.2.1 dX8_goes_99 (by decide) (fun c132 => ?_) (fun c132 => ?_)
              · skip
                have k133 := ci_le (nI_toInt (n := b8) (by omega)) (nI_toInt (n := q10129) (by omega)) c132
                refine lv_iinc (v := (nI (q915 + 1))) (lv' := [(9, .int (nI (q915 + 1))), (10, .int (nI q10129)), (5, .long x129_5), (8, .int r12), (7, .int (nI q73)), (0, .ref (ad 58)), (1, .long p1), (3, .int p2), (4, .int p3)]) S.1 S.2.1 dX8_goes_140 hl129 (k := 2) rfl (nI_add _ 1) (by decide) rfl (fun ls134 hl134 => ?_)
                refine lv_goto (tgt := 29) S.1 S.2.1 dX8_goes_143 (by decide) ?_
                exact ih15 (q915 + 1) (x129_5) (by omega) (by omega) ls134 (lv_sub hl134 [0, 3, 4, 2, 5, 6, 7, 8] rfl)
              have k135 := ci_nle (nI_toInt (n := b8) (by omega)) (nI_toInt (n := q10129) (by omega)) c132
              refine lv_lload S.1 S.2.1 dX8_goes_102 (lv_at hl129 1 rfl) ?_
              refine lv_iload S.1 S.2.1 dX8_goes_104 (lv_at hl129 8 rfl) ?_
              refine lv_iconst (v := (-1)) S.1 S.2.1 dX8_goes_106 (by decide +kernel) ?_
              refine lv_icmp_ne (tgt := 130) S.1 S.2.1 dX8_goes_107 (by decide) (fun c136 => ?_) (fun c136 => ?_)
              · skip
                have k137 := ci_ne rfl (show ((-1) : Int32).toInt = -1 by decide +kernel) c136
                refine lv_lconst (v := 0) S.1 S.2.1 dX8_goes_130 (by decide +kernel) ?_
                refine lv_lor S.1 S.2.1 dX8_goes_131 ?_
                refine lv_topl (fun v138 e138 => ?_)
                refine lv_lstore (lv' := [(5, .long v138), (10, .int (nI q10129)), (9, .int (nI q915)), (8, .int r12), (7, .int (nI q73)), (0, .ref (ad 58)), (1, .long p1), (3, .int p2), (4, .int p3)]) S.1 S.2.1 dX8_goes_132 hl129 (by decide) rfl (fun ls139 hl139 => ?_)
                refine lv_iinc (v := (nI (q10129 + 1))) (lv' := [(10, .int (nI (q10129 + 1))), (5, .long v138), (9, .int (nI q915)), (8, .int r12), (7, .int (nI q73)), (0, .ref (ad 58)), (1, .long p1), (3, .int p2), (4, .int p3)]) S.1 S.2.1 dX8_goes_134 hl139 (k := 1) rfl (nI_add _ 1) (by decide) rfl (fun ls140 hl140 => ?_)
                refine lv_goto (tgt := 91) S.1 S.2.1 dX8_goes_137 (by decide) ?_
                exact ih129 (q10129 + 1) (v138) (by omega) (by omega) ls140 (lv_sub hl140 [0, 1, 2, 3, 4, 5, 6, 7, 8] rfl)
              have k141 := ci_eq rfl (show ((-1) : Int32).toInt = -1 by decide +kernel) c136
              refine lv_iload S.1 S.2.1 dX8_goes_110 (lv_at hl129 3 rfl) ?_
              refine lv_iload S.1 S.2.1 dX8_goes_112 (lv_at hl129 0 rfl) ?_
              refine lv_ishr S.1 S.2.1 dX8_goes_114 ?_
              refine lv_topi (fun v142 e142 => ?_)
              refine lv_iconst (v := (nI 1)) S.1 S.2.1 dX8_goes_115 (by decide +kernel) ?_
              refine lv_iand S.1 S.2.1 dX8_goes_116 ?_
              refine lv_topi (fun v143 e143 => ?_)
              refine lv_iconst (v := (nI 1)) S.1 S.2.1 dX8_goes_117 (by decide +kernel) ?_
              refine lv_icmp_ne (tgt := 130) S.1 S.2.1 dX8_goes_118 (by decide) (fun c144 => ?_) (fun c144 => ?_)
              · skip
                have k145 := ci_ne rfl (nI_toInt (n := 1) (by omega)) c144
                refine lv_lconst (v := 0) S.1 S.2.1 dX8_goes_130 (by decide +kernel) ?_
                refine lv_lor S.1 S.2.1 dX8_goes_131 ?_
                refine lv_topl (fun v146 e146 => ?_)
                refine lv_lstore (lv' := [(5, .long v146), (10, .int (nI q10129)), (9, .int (nI q915)), (8, .int r12), (7, .int (nI q73)), (0, .ref (ad 58)), (1, .long p1), (3, .int p2), (4, .int p3)]) S.1 S.2.1 dX8_goes_132 hl129 (by decide) rfl (fun ls147 hl147 => ?_)
                refine lv_iinc (v := (nI (q10129 + 1))) (lv' := [(10, .int (nI (q10129 + 1))), (5, .long v146), (9, .int (nI q915)), (8, .int r12), (7, .int (nI q73)), (0, .ref (ad 58)), (1, .long p1), (3, .int p2), (4, .int p3)]) S.1 S.2.1 dX8_goes_134 hl147 (k := 1) rfl (nI_add _ 1) (by decide) rfl (fun ls148 hl148 => ?_)
                refine lv_goto (tgt := 91) S.1 S.2.1 dX8_goes_137 (by decide) ?_
                exact ih129 (q10129 + 1) (v146) (by omega) (by omega) ls148 (lv_sub hl148 [0, 1, 2, 3, 4, 5, 6, 7, 8] rfl)
              have k149 := ci_eq rfl (nI_toInt (n := 1) (by omega)) c144
              refine lv_iload S.1 S.2.1 dX8_goes_121 (lv_at hl129 0 rfl) ?_
              refine lv_iconst (v := (nI 0)) S.1 S.2.1 dX8_goes_123 (by decide +kernel) ?_
              refine r_cSl (As := [.int (nI q10129), .int (nI 0)]) (rest := [.long x129_5]) S hK hZ hP hS hl129.1 (c_X8_bit l D cA ad t hI F hW (nI q10129) (nI 0)) (va_cwS 2 S.2.2.2.2 gX8_goes_X8_bit rfl rfl rfl (by decide +kernel) ⟨Nat.le_of_ble_eq_true rfl, Nat.le_of_ble_eq_true rfl⟩) rfl rfl (Nat.le_of_ble_eq_true rfl) ⟨Nat.zero_le _, Nat.zero_le _⟩ dX8_goes_124 (fun r150 hr150 => ?_)
              refine lv_goto (tgt := 131) S.1 S.2.1 dX8_goes_127 (by decide) ?_
              refine lv_lor S.1 S.2.1 dX8_goes_131 ?_
              refine lv_topl (fun v151 e151 => ?_)
              refine lv_lstore (lv' := [(5, .long v151), (10, .int (nI q10129)), (9, .int (nI q915)), (8, .int r12), (7, .int (nI q73)), (0, .ref (ad 58)), (1, .long p1), (3, .int p2), (4, .int p3)]) S.1 S.2.1 dX8_goes_132 hl129 (by decide) rfl (fun ls152 hl152 => ?_)
              refine lv_iinc (v := (nI (q10129 + 1))) (lv' := [(10, .int (nI (q10129 + 1))), (5, .long v151), (9, .int (nI q915)), (8, .int r12), (7, .int (nI q73)), (0, .ref (ad 58)), (1, .long p1), (3, .int p2), (4, .int p3)]) S.1 S.2.1 dX8_goes_134 hl152 (k := 1) rfl (nI_add _ 1) (by decide) rfl (fun ls153 hl153 => ?_)
              refine lv_goto (tgt := 91) S.1 S.2.1 dX8_goes_137 (by decide) ?_
              exact ih129 (q10129 + 1) (v151) (by omega) (by omega) ls153 (lv_sub hl153 [0, 1, 2, 3, 4, 5, 6, 7, 8] rfl)
          exact lp129 (8 - (0) + 1) (0) (v126) (by omega) (by omega) ls128 (lv_sub hl128 [0, 1, 2, 3, 4, 5, 6, 7, 8] rfl)
      exact lp15 (5 - (0) + 1) (0) (x3_5) (by omega) (by omega) ls14 (lv_sub hl14 [0, 1, 2, 3, 4, 5, 6, 7] rfl)
  exact lp3 (8 - (0) + 1) (0) (0) (by omega) (by omega) ls2 (lv_sub hl2 [0, 1, 2, 3, 4, 5] rfl)
set_option maxHeartbeats 4000000 in
set_option maxRecDepth 100000 in
theorem c_X8_towns (l : Launch) (D : va_G) (cA ad : Nat → Nat) (t : Nat) (hI : rI ad) (F : Nat → va_E) (hW : WT cA ad F) (p1 : Int64) : MP l D cA ad t yX8_towns wsX8_towns { frames := 0, cells := 0, slots := 0, locals := 0 } [.long p1] F (fun r => True) := by
  refine en_P rfl (by decide +kernel) (Nat.le_of_ble_eq_true rfl) ?_
  intro p e s m args below meth c ls0 Q S hK hZ hP hS hl0 hret
  have hl0 : lv_has ls0 4 [(0, .long p1)] := hl0
  refine lv_iconst (v := (nI 0)) S.1 S.2.1 dX8_towns_0 (by decide +kernel) ?_
  refine lv_istore_n (lv' := [(2, .int (nI 0)), (0, .long p1)]) S.1 S.2.1 dX8_towns_1 rfl hl0 (by decide) rfl (fun ls1 hl1 => ?_)
  refine lv_iconst (v := (nI 0)) S.1 S.2.1 dX8_towns_2 (by decide +kernel) ?_
  refine lv_istore_n (lv' := [(3, .int (nI 0)), (2, .int (nI 0)), (0, .long p1)]) S.1 S.2.1 dX8_towns_3 rfl hl1 (by decide) rfl (fun ls2 hl2 => ?_)
  have lp3 : ∀ (n3 : Nat) (q33 : Nat) (x3_2 : Int32), q33 ≤ 8 → 8 - q33 < n3 → ∀ (ls : Array Slot), lv_has ls 4 [(3, .int (nI q33)), (2, .int x3_2), (0, .long p1)] → W p l e { frames := 0, cells := 0, slots := 0, locals := 0 } s m args below meth c s.heap [] 0 0 Q (F0 m 4 ls []) := by
    intro n3
    induction n3 with
    | zero =>
      intro q33 x3_2 iv3_0 hm3 ls3 hl3
      exact absurd hm3 (Nat.not_lt_zero _)
    | succ n3 ih3 =>
      intro q33 x3_2 iv3_0 hm3 ls3 hl3
      refine lv_iload_n S.1 S.2.1 dX8_towns_4 rfl (lv_at hl3 0 rfl) ?_
      refine lv_bipush (v := (nI 8)) S.1 S.2.1 dX8_towns_5 (by decide +kernel) ?_
      refine lv_icmp_ge (tgt := 40) S.1 S.2.1 dX8_towns_7 (by decide) (fun c4 => ?_) (fun c4 => ?_)
      · skip
        have k5 := ci_le (nI_toInt (n := 8) (by omega)) (nI_toInt (n := q33) (by omega)) c4
        refine lv_iload_n S.1 S.2.1 dX8_towns_40 rfl (lv_at hl3 1 rfl) ?_
        exact hret 41 _ _ dX8_towns_41 rfl (trivial)
      have k6 := ci_nle (nI_toInt (n := 8) (by omega)) (nI_toInt (n := q33) (by omega)) c4
      refine lv_iload_n S.1 S.2.1 dX8_towns_10 rfl (lv_at hl3 1 rfl) ?_
      refine lv_lload_n S.1 S.2.1 dX8_towns_11 rfl (lv_at hl3 2 rfl) ?_
      refine lv_iconst (v := (nI 5)) S.1 S.2.1 dX8_towns_12 (by decide +kernel) ?_
      refine lv_iload_n S.1 S.2.1 dX8_towns_13 rfl (lv_at hl3 0 rfl) ?_
      refine lv_imul S.1 S.2.1 dX8_towns_14 ?_
      refine lv_topi (fun v7 e7 => ?_)
      obtain rfl : v7 = nI (5 * q33) := e7.trans (pk_mul _ _)
      refine lv_lshr S.1 S.2.1 dX8_towns_15 rfl ?_
      refine lv_topl (fun v8 e8 => ?_)
      refine lv_ldc2 (v := 31) S.1 S.2.1 S.2.2.2.1 (S.2.2.2.2 (.constantLong RX8 182 (31)) (by decide +kernel)) dX8_towns_16 ?_
      refine lv_land S.1 S.2.1 dX8_towns_19 ?_
      refine lv_topl (fun v9 e9 => ?_)
      refine lv_lconst (v := 0) S.1 S.2.1 dX8_towns_20 (by decide +kernel) ?_
      refine W.lcmp S.1 S.2.1 dX8_towns_21 ?_
      refine lv_topi (fun v10 e10 => ?_)
      refine lv_if_eq (tgt := 31) S.1 S.2.1 dX8_towns_22 (by decide) (fun c11 => ?_) (fun c11 => ?_)
      · skip
        have k12 := ci_eq rfl z_ti c11
        refine lv_iconst (v := (nI 0)) S.1 S.2.1 dX8_towns_31 (by decide +kernel) ?_
        refine lv_ior S.1 S.2.1 dX8_towns_32 ?_
        refine lv_topi (fun v13 e13 => ?_)
        refine lv_istore_n (lv' := [(2, .int v13), (3, .int (nI q33)), (0, .long p1)]) S.1 S.2.1 dX8_towns_33 rfl hl3 (by decide) rfl (fun ls14 hl14 => ?_)
        refine lv_iinc (v := (nI (q33 + 1))) (lv' := [(3, .int (nI (q33 + 1))), (2, .int v13), (0, .long p1)]) S.1 S.2.1 dX8_towns_34 hl14 (k := 1) rfl (nI_add _ 1) (by decide) rfl (fun ls15 hl15 => ?_)
        refine lv_goto (tgt := 4) S.1 S.2.1 dX8_towns_37 (by decide) ?_
        exact ih3 (q33 + 1) (v13) (by omega) (by omega) ls15 (lv_sub hl15 [0, 1, 2] rfl)
      have k16 := ci_ne rfl z_ti c11
      refine lv_iconst (v := (nI 1)) S.1 S.2.1 dX8_towns_25 (by decide +kernel) ?_
      refine lv_iload_n S.1 S.2.1 dX8_towns_26 rfl (lv_at hl3 0 rfl) ?_
      refine lv_ishl S.1 S.2.1 dX8_towns_27 ?_
      refine lv_topi (fun v17 e17 => ?_)
      refine lv_goto (tgt := 32) S.1 S.2.1 dX8_towns_28 (by decide) ?_
      refine lv_ior S.1 S.2.1 dX8_towns_32 ?_
      refine lv_topi (fun v18 e18 => ?_)
      refine lv_istore_n (lv' := [(2, .int v18), (3, .int (nI q33)), (0, .long p1)]) S.1 S.2.1 dX8_towns_33 rfl hl3 (by decide) rfl (fun ls19 hl19 => ?_)
      refine lv_iinc (v := (nI (q33 + 1))) (lv' := [(3, .int (nI (q33 + 1))), (2, .int v18), (0, .long p1)]) S.1 S.2.1 dX8_towns_34 hl19 (k := 1) rfl (nI_add _ 1) (by decide) rfl (fun ls20 hl20 => ?_)
      refine lv_goto (tgt := 4) S.1 S.2.1 dX8_towns_37 (by decide) ?_
      exact ih3 (q33 + 1) (v18) (by omega) (by omega) ls20 (lv_sub hl20 [0, 1, 2] rfl)
  exact lp3 (8 - (0) + 1) (0) ((nI 0)) (by omega) (by omega) ls2 (lv_sub hl2 [0, 1, 2] rfl)
set_option maxHeartbeats 4000000 in
set_option maxRecDepth 100000 in
theorem c_X8_may (l : Launch) (D : va_G) (cA ad : Nat → Nat) (t : Nat) (hI : rI ad) (F : Nat → va_E) (hW : WT cA ad F) (p1 : Int32) : MP l D cA ad t yX8_may wsX8_may { frames := 2, cells := 0, slots := 0, locals := 48 } [.ref (ad 58), .int p1] F (fun r => True) := by
  refine en_P rfl (by decide +kernel) (Nat.le_of_ble_eq_true rfl) ?_
  intro p e s m args below meth c ls0 Q S hK hZ hP hS hl0 hret
  have hl0 : lv_has ls0 2 [(0, .ref (ad 58)), (1, .int p1)] := hl0
  have hiX8 : ∀ w ∈ u_ws RX8 TX8 23, w ∈ wsX8_may := by decide +kernel
  refine lv_iload_n S.1 S.2.1 dX8_may_0 rfl (lv_at hl0 1 rfl) ?_
  refine lv_iconst (v := (nI 0)) S.1 S.2.1 dX8_may_1 (by decide +kernel) ?_
  refine lv_iconst (v := (nI 1)) S.1 S.2.1 dX8_may_2 (by decide +kernel) ?_
  refine r_cSp (As := [.int p1, .int (nI 0), .int (nI 1)]) (rest := []) S hK hZ hP hS hl0.1 (c_X8_in l D cA ad t hI F hW p1 (nI 0) (nI 1)) (va_cwS 3 S.2.2.2.2 gX8_may_X8_in rfl rfl rfl (by decide +kernel) ⟨Nat.le_of_ble_eq_true rfl, Nat.le_of_ble_eq_true rfl⟩) rfl rfl (Nat.le_of_ble_eq_true rfl) ⟨Nat.zero_le _, Nat.zero_le _⟩ dX8_may_3 (fun r1 hr1 => ?_)
  obtain ⟨⟨b2, hb2, rfl⟩, hx2, hz2⟩ := hr1
  have ta3 : (p1 : Int32).toInt = p1.toInt := rfl
  have ta4 : ((nI 0) : Int32).toInt = ((0 : Nat) : Int) := (nI_toInt (n := 0) (by omega))
  have ta5 : ((nI 1) : Int32).toInt = ((1 : Nat) : Int) := (nI_toInt (n := 1) (by omega))
  have hy2 : b2 ≠ 0 → ((0 : Nat) : Int) ≤ p1.toInt ∧ p1.toInt ≤ ((1 : Nat) : Int) := fun q => by have h9 := hx2 (nI_ne0 (by omega) (by omega)); omega
  have hu2 : b2 = 0 → p1.toInt < ((0 : Nat) : Int) ∨ ((1 : Nat) : Int) < p1.toInt := fun q => by have h9 := hz2 (by rw [q]; rfl); omega
  refine lv_if_ne (tgt := 12) S.1 S.2.1 dX8_may_6 (by decide) (fun c6 => ?_) (fun c6 => ?_)
  · skip
    have k7 := ci_ne (nI_toInt (n := b2) (by omega)) z_ti c6
    refine lv_aload_n S.1 S.2.1 dX8_may_12 rfl (lv_at hl0 0 rfl) ?_
    obtain ⟨ty9, kn9, no9, en9, at9, sa9, sd9, wr9, pl9, va9, hF9, hb9_1, hb9_2, hb9_3, hb9_4, hb9_5, hb9_6⟩ := wt_m hW
    refine r_cVp (As := []) (rest := []) S hK hZ hP hS hl0.1 58 (by decide) hF9 (C := RX8) rfl (c_X8_goesOn l D cA ad t hI F hW ) (cwV 0 S.2.2.2.2 gX8_may_X8_goesOn rfl rfl rfl (by decide +kernel) ⟨Nat.le_of_ble_eq_true rfl, Nat.le_of_ble_eq_true rfl⟩) rfl rfl (Nat.le_of_ble_eq_true rfl) ⟨Nat.zero_le _, Nat.zero_le _⟩ dX8_may_13 (fun r8 hr8 => ?_)
    obtain ⟨b10, hb10, rfl⟩ := hr8
    refine lv_if_ne (tgt := 22) S.1 S.2.1 dX8_may_16 (by decide) (fun c11 => ?_) (fun c11 => ?_)
    · skip
      have k12 := ci_ne (nI_toInt (n := b10) (by omega)) z_ti c11
      refine lv_iload_n S.1 S.2.1 dX8_may_22 rfl (lv_at hl0 1 rfl) ?_
      refine lv_if_ne (tgt := 45) S.1 S.2.1 dX8_may_23 (by decide) (fun c13 => ?_) (fun c13 => ?_)
      · skip
        have k14 := ci_ne rfl z_ti c13
        refine lv_aload_n S.1 S.2.1 dX8_may_45 rfl (lv_at hl0 0 rfl) ?_
        refine r_cVp (As := []) (rest := []) S hK hZ hP hS hl0.1 58 (by decide) hF9 (C := RX8) rfl (c_X8_mayStay l D cA ad t hI F hW ) (cwV 0 S.2.2.2.2 gX8_may_X8_mayStay rfl rfl rfl (by decide +kernel) ⟨Nat.le_of_ble_eq_true rfl, Nat.le_of_ble_eq_true rfl⟩) rfl rfl (Nat.le_of_ble_eq_true rfl) ⟨Nat.zero_le _, Nat.zero_le _⟩ dX8_may_46 (fun r15 hr15 => ?_)
        obtain ⟨⟨b16, hb16, rfl⟩, hx16⟩ := hr15
        obtain ⟨g17, hF17, hg17⟩ := wt_I hW (show (62, 7) ∈ rLI by decide)
        obtain ⟨b18, hb18, he18⟩ := (pr_S (hg17 2 (by decide))).2.1 rfl
        have hN19 := aN_of (j := 2) hF17 he18 (by omega)
        obtain ⟨g20, hF20, hg20⟩ := wt_I hW (show (60, 52) ∈ rLI by decide)
        obtain ⟨b21, hb21, he21⟩ := (pr_T (by decide) (hg20 0 (by decide))).1 rfl
        have hN22 := aN_of (j := 0) hF20 he21 (by omega)
        have hy16 : b16 ≠ 0 → b18 < b21 := fun q => by have h9 := hx16 (nI_ne0 (by omega) (by omega)); omega
        refine lv_if_eq (tgt := 56) S.1 S.2.1 dX8_may_49 (by decide) (fun c23 => ?_) (fun c23 => ?_)
        · skip
          have k24 := ci_eq (nI_toInt (n := b16) (by omega)) z_ti c23
          refine lv_iconst (v := (nI 0)) S.1 S.2.1 dX8_may_56 (by decide +kernel) ?_
          exact hret 57 _ _ dX8_may_57 rfl (trivial)
        have k25 := ci_ne (nI_toInt (n := b16) (by omega)) z_ti c23
        refine lv_iconst (v := (nI 1)) S.1 S.2.1 dX8_may_52 (by decide +kernel) ?_
        refine lv_goto (tgt := 57) S.1 S.2.1 dX8_may_53 (by decide) ?_
        exact hret 57 _ _ dX8_may_57 rfl (trivial)
      have k26 := ci_eq rfl z_ti c13
      refine lv_aload_n S.1 S.2.1 dX8_may_26 rfl (lv_at hl0 0 rfl) ?_
      refine lv_aload_n S.1 S.2.1 dX8_may_27 rfl (lv_at hl0 0 rfl) ?_
      refine r_get S hK hP 58 (by decide) hF9 (C := RX8) (T := TX8) (N := 23) hiX8 rfl 4 (by decide) (by decide +kernel) (v := .ref (ad 62)) rfl dX8_may_28 ?_
      refine lv_iconst (v := (nI 0)) S.1 S.2.1 dX8_may_31 (by decide +kernel) ?_
      obtain ⟨g27, hF27, hg27⟩ := wt_I hW (show (62, 7) ∈ rLI by decide)
      refine r_iald S hK hP 62 (by decide) hF27 (vp_in_nI (show 0 < 7 by omega) (by omega)) dX8_may_32 ?_
      refine lv_topi (fun v29 e29 => ?_)
      obtain ⟨b30, hb30, he30⟩ := (pr_S (hg27 0 (by decide))).1 rfl
      obtain rfl : v29 = nI b30 := e29.trans he30
      refine lv_aload_n S.1 S.2.1 dX8_may_33 rfl (lv_at hl0 0 rfl) ?_
      refine r_get S hK hP 58 (by decide) hF9 (C := RX8) (T := TX8) (N := 23) hiX8 rfl 4 (by decide) (by decide +kernel) (v := .ref (ad 62)) rfl dX8_may_34 ?_
      refine lv_iconst (v := (nI 5)) S.1 S.2.1 dX8_may_37 (by decide +kernel) ?_
      refine r_iald S hK hP 62 (by decide) hF27 (vp_in_nI (show 5 < 7 by omega) (by omega)) dX8_may_38 ?_
      refine lv_topi (fun v32 e32 => ?_)
      refine r_cVp (As := [.int (nI b30), .int v32]) (rest := []) S hK hZ hP hS hl0.1 58 (by decide) hF9 (C := RX8) rfl (c_X8_walks l D cA ad t hI F hW (nI b30) v32) (cwV 2 S.2.2.2.2 gX8_may_X8_walks rfl rfl rfl (by decide +kernel) ⟨Nat.le_of_ble_eq_true rfl, Nat.le_of_ble_eq_true rfl⟩) rfl rfl (Nat.le_of_ble_eq_true rfl) ⟨Nat.zero_le _, Nat.zero_le _⟩ dX8_may_39 (fun r33 hr33 => ?_)
      refine lv_goto (tgt := 57) S.1 S.2.1 dX8_may_42 (by decide) ?_
      exact hret 57 _ _ dX8_may_57 rfl (trivial)
    have k34 := ci_eq (nI_toInt (n := b10) (by omega)) z_ti c11
    refine lv_ldc (v := (-1000000003)) S.1 S.2.1 S.2.2.2.1 (S.2.2.2.2 (.constant RX8 139 (-1000000003)) (by decide +kernel)) dX8_may_19 ?_
    exact hret 21 _ _ dX8_may_21 rfl (trivial)
  have k35 := ci_eq (nI_toInt (n := b2) (by omega)) z_ti c6
  refine lv_ldc (v := (-1000000002)) S.1 S.2.1 S.2.2.2.1 (S.2.2.2.2 (.constant RX8 59 (-1000000002)) (by decide +kernel)) dX8_may_9 ?_
  exact hret 11 _ _ dX8_may_11 rfl (trivial)
set_option maxHeartbeats 4000000 in
set_option maxRecDepth 100000 in
theorem c_X8_reach (l : Launch) (D : va_G) (cA ad : Nat → Nat) (t : Nat) (hI : rI ad) (F : Nat → va_E) (hW : WT cA ad F) (p1 : Int32) : MP l D cA ad t yX8_reach wsX8_reach { frames := 2, cells := 0, slots := 0, locals := 48 } [.ref (ad 58), .int p1] F (fun r => True) := by
  refine en_P rfl (by decide +kernel) (Nat.le_of_ble_eq_true rfl) ?_
  intro p e s m args below meth c ls0 Q S hK hZ hP hS hl0 hret
  have hl0 : lv_has ls0 6 [(0, .ref (ad 58)), (1, .int p1)] := hl0
  have hiX8 : ∀ w ∈ u_ws RX8 TX8 23, w ∈ wsX8_reach := by decide +kernel
  refine lv_aload_n S.1 S.2.1 dX8_reach_0 rfl (lv_at hl0 0 rfl) ?_
  refine lv_iload_n S.1 S.2.1 dX8_reach_1 rfl (lv_at hl0 1 rfl) ?_
  obtain ⟨ty2, kn2, no2, en2, at2, sa2, sd2, wr2, pl2, va2, hF2, hb2_1, hb2_2, hb2_3, hb2_4, hb2_5, hb2_6⟩ := wt_m hW
  refine r_cVp (As := [.int p1]) (rest := []) S hK hZ hP hS hl0.1 58 (by decide) hF2 (C := RX8) rfl (c_X8_isTown l D cA ad t hI F hW p1) (cwV 1 S.2.2.2.2 gX8_reach_X8_isTown rfl rfl rfl (by decide +kernel) ⟨Nat.le_of_ble_eq_true rfl, Nat.le_of_ble_eq_true rfl⟩) rfl rfl (Nat.le_of_ble_eq_true rfl) ⟨Nat.zero_le _, Nat.zero_le _⟩ dX8_reach_2 (fun r1 hr1 => ?_)
  obtain ⟨⟨b3, hb3, rfl⟩, hx3⟩ := hr1
  have hx3 : b3 ≠ 0 → 0 ≤ p1.toInt ∧ p1.toInt ≤ _ := fun q => hx3 (nI_ne0 (by omega) (by omega))
  refine lv_if_ne (tgt := 11) S.1 S.2.1 dX8_reach_5 (by decide) (fun c4 => ?_) (fun c4 => ?_)
  · skip
    have k5 := ci_ne (nI_toInt (n := b3) (by omega)) z_ti c4
    refine lv_aload_n S.1 S.2.1 dX8_reach_11 rfl (lv_at hl0 0 rfl) ?_
    refine r_cVp (As := []) (rest := []) S hK hZ hP hS hl0.1 58 (by decide) hF2 (C := RX8) rfl (c_X8_goesOn l D cA ad t hI F hW ) (cwV 0 S.2.2.2.2 gX8_reach_X8_goesOn rfl rfl rfl (by decide +kernel) ⟨Nat.le_of_ble_eq_true rfl, Nat.le_of_ble_eq_true rfl⟩) rfl rfl (Nat.le_of_ble_eq_true rfl) ⟨Nat.zero_le _, Nat.zero_le _⟩ dX8_reach_12 (fun r6 hr6 => ?_)
    obtain ⟨b7, hb7, rfl⟩ := hr6
    refine lv_if_ne (tgt := 21) S.1 S.2.1 dX8_reach_15 (by decide) (fun c8 => ?_) (fun c8 => ?_)
    · skip
      have k9 := ci_ne (nI_toInt (n := b7) (by omega)) z_ti c8
      refine lv_iconst (v := (nI 1)) S.1 S.2.1 dX8_reach_21 (by decide +kernel) ?_
      refine lv_aload_n S.1 S.2.1 dX8_reach_22 rfl (lv_at hl0 0 rfl) ?_
      refine r_get S hK hP 58 (by decide) hF2 (C := RX8) (T := TX8) (N := 23) hiX8 rfl 4 (by decide) (by decide +kernel) (v := .ref (ad 62)) rfl dX8_reach_23 ?_
      refine lv_iconst (v := (nI 0)) S.1 S.2.1 dX8_reach_26 (by decide +kernel) ?_
      obtain ⟨g10, hF10, hg10⟩ := wt_I hW (show (62, 7) ∈ rLI by decide)
      refine r_iald S hK hP 62 (by decide) hF10 (vp_in_nI (show 0 < 7 by omega) (by omega)) dX8_reach_27 ?_
      refine lv_topi (fun v12 e12 => ?_)
      obtain ⟨b13, hb13, he13⟩ := (pr_S (hg10 0 (by decide))).1 rfl
      obtain rfl : v12 = nI b13 := e12.trans he13
      refine lv_ishl S.1 S.2.1 dX8_reach_28 ?_
      refine lv_topi (fun v14 e14 => ?_)
      refine lv_istore_n (lv' := [(2, .int v14), (0, .ref (ad 58)), (1, .int p1)]) S.1 S.2.1 dX8_reach_29 rfl hl0 (by decide) rfl (fun ls15 hl15 => ?_)
      refine lv_iconst (v := (nI 0)) S.1 S.2.1 dX8_reach_30 (by decide +kernel) ?_
      refine lv_istore_n (lv' := [(3, .int (nI 0)), (2, .int v14), (0, .ref (ad 58)), (1, .int p1)]) S.1 S.2.1 dX8_reach_31 rfl hl15 (by decide) rfl (fun ls16 hl16 => ?_)
      have lp17 : ∀ (n17 : Nat) (q317 : Nat) (x17_2 : Int32), q317 ≤ 9 → 9 - q317 < n17 → ∀ (ls : Array Slot), lv_has ls 6 [(3, .int (nI q317)), (2, .int x17_2), (0, .ref (ad 58)), (1, .int p1)] → W p l e { frames := 2, cells := 0, slots := 0, locals := 48 } s m args below meth c s.heap [] 0 0 Q (F0 m 32 ls []) := by
        intro n17
        induction n17 with
        | zero =>
          intro q317 x17_2 iv17_0 hm17 ls17 hl17
          exact absurd hm17 (Nat.not_lt_zero _)
        | succ n17 ih17 =>
          intro q317 x17_2 iv17_0 hm17 ls17 hl17
          refine lv_iload_n S.1 S.2.1 dX8_reach_32 rfl (lv_at hl17 0 rfl) ?_
          refine lv_bipush (v := (nI 8)) S.1 S.2.1 dX8_reach_33 (by decide +kernel) ?_
          refine lv_icmp_gt (tgt := 112) S.1 S.2.1 dX8_reach_35 (by decide) (fun c18 => ?_) (fun c18 => ?_)
          · skip
            have k19 := ci_lt (nI_toInt (n := 8) (by omega)) (nI_toInt (n := q317) (by omega)) c18
            refine lv_iconst (v := (-1)) S.1 S.2.1 dX8_reach_112 (by decide +kernel) ?_
            exact hret 113 _ _ dX8_reach_113 rfl (trivial)
          have k20 := ci_nlt (nI_toInt (n := 8) (by omega)) (nI_toInt (n := q317) (by omega)) c18
          refine lv_iload_n S.1 S.2.1 dX8_reach_38 rfl (lv_at hl17 1 rfl) ?_
          refine lv_iload_n S.1 S.2.1 dX8_reach_39 rfl (lv_at hl17 3 rfl) ?_
          refine lv_ishr S.1 S.2.1 dX8_reach_40 ?_
          refine lv_topi (fun v21 e21 => ?_)
          refine lv_iconst (v := (nI 1)) S.1 S.2.1 dX8_reach_41 (by decide +kernel) ?_
          refine lv_iand S.1 S.2.1 dX8_reach_42 ?_
          refine lv_topi (fun v22 e22 => ?_)
          refine lv_iconst (v := (nI 1)) S.1 S.2.1 dX8_reach_43 (by decide +kernel) ?_
          refine lv_icmp_ne (tgt := 49) S.1 S.2.1 dX8_reach_44 (by decide) (fun c23 => ?_) (fun c23 => ?_)
          · skip
            have k24 := ci_ne rfl (nI_toInt (n := 1) (by omega)) c23
            refine lv_iload_n S.1 S.2.1 dX8_reach_49 rfl (lv_at hl17 1 rfl) ?_
            refine lv_istore (lv' := [(4, .int x17_2), (3, .int (nI q317)), (2, .int x17_2), (0, .ref (ad 58)), (1, .int p1)]) S.1 S.2.1 dX8_reach_50 hl17 (by decide) rfl (fun ls25 hl25 => ?_)
            refine lv_iconst (v := (nI 0)) S.1 S.2.1 dX8_reach_52 (by decide +kernel) ?_
            refine lv_istore (lv' := [(5, .int (nI 0)), (4, .int x17_2), (3, .int (nI q317)), (2, .int x17_2), (0, .ref (ad 58)), (1, .int p1)]) S.1 S.2.1 dX8_reach_53 hl25 (by decide) rfl (fun ls26 hl26 => ?_)
            have lp27 : ∀ (n27 : Nat) (q527 : Nat) (x27_4 : Int32), q527 ≤ 8 → 8 - q527 < n27 → ∀ (ls : Array Slot), lv_has ls 6 [(5, .int (nI q527)), (4, .int x27_4), (3, .int (nI q317)), (2, .int x17_2), (0, .ref (ad 58)), (1, .int p1)] → W p l e { frames := 2, cells := 0, slots := 0, locals := 48 } s m args below meth c s.heap [] 0 0 Q (F0 m 55 ls []) := by
              intro n27
              induction n27 with
              | zero =>
                intro q527 x27_4 iv27_0 hm27 ls27 hl27
                exact absurd hm27 (Nat.not_lt_zero _)
              | succ n27 ih27 =>
                intro q527 x27_4 iv27_0 hm27 ls27 hl27
                refine lv_iload S.1 S.2.1 dX8_reach_55 (lv_at hl27 0 rfl) ?_
                refine lv_aload_n S.1 S.2.1 dX8_reach_57 rfl (lv_at hl27 4 rfl) ?_
                refine r_get S hK hP 58 (by decide) hF2 (C := RX8) (T := TX8) (N := 23) hiX8 rfl 2 (by decide) (by decide +kernel) (v := .ref (ad 60)) rfl dX8_reach_58 ?_
                refine lv_iconst (v := (nI 2)) S.1 S.2.1 dX8_reach_61 (by decide +kernel) ?_
                obtain ⟨g28, hF28, hg28⟩ := wt_I hW (show (60, 52) ∈ rLI by decide)
                refine r_iald S hK hP 60 (by decide) hF28 (vp_in_nI (show 2 < 52 by omega) (by omega)) dX8_reach_62 ?_
                refine lv_topi (fun v30 e30 => ?_)
                obtain ⟨b31, hb31, he31⟩ := (pr_T (by decide) (hg28 2 (by decide))).2.1 rfl
                obtain rfl : v30 = nI b31 := e30.trans he31
                refine lv_icmp_ge (tgt := 103) S.1 S.2.1 dX8_reach_63 (by decide) (fun c32 => ?_) (fun c32 => ?_)
                · skip
                  have k33 := ci_le (nI_toInt (n := b31) (by omega)) (nI_toInt (n := q527) (by omega)) c32
                  refine lv_iload S.1 S.2.1 dX8_reach_103 (lv_at hl27 1 rfl) ?_
                  refine lv_istore_n (lv' := [(2, .int x27_4), (5, .int (nI q527)), (4, .int x27_4), (3, .int (nI q317)), (0, .ref (ad 58)), (1, .int p1)]) S.1 S.2.1 dX8_reach_105 rfl hl27 (by decide) rfl (fun ls34 hl34 => ?_)
                  refine lv_iinc (v := (nI (q317 + 1))) (lv' := [(3, .int (nI (q317 + 1))), (2, .int x27_4), (5, .int (nI q527)), (4, .int x27_4), (0, .ref (ad 58)), (1, .int p1)]) S.1 S.2.1 dX8_reach_106 hl34 (k := 3) rfl (nI_add _ 1) (by decide) rfl (fun ls35 hl35 => ?_)
                  refine lv_goto (tgt := 32) S.1 S.2.1 dX8_reach_109 (by decide) ?_
                  exact ih17 (q317 + 1) (x27_4) (by omega) (by omega) ls35 (lv_sub hl35 [0, 1, 4, 5] rfl)
                have k36 := ci_nle (nI_toInt (n := b31) (by omega)) (nI_toInt (n := q527) (by omega)) c32
                refine lv_iload S.1 S.2.1 dX8_reach_66 (lv_at hl27 1 rfl) ?_
                refine lv_iload_n S.1 S.2.1 dX8_reach_68 rfl (lv_at hl27 3 rfl) ?_
                refine lv_iload S.1 S.2.1 dX8_reach_69 (lv_at hl27 0 rfl) ?_
                refine lv_ishr S.1 S.2.1 dX8_reach_71 ?_
                refine lv_topi (fun v37 e37 => ?_)
                refine lv_iconst (v := (nI 1)) S.1 S.2.1 dX8_reach_72 (by decide +kernel) ?_
                refine lv_iand S.1 S.2.1 dX8_reach_73 ?_
                refine lv_topi (fun v38 e38 => ?_)
                refine lv_iconst (v := (nI 1)) S.1 S.2.1 dX8_reach_74 (by decide +kernel) ?_
                refine lv_icmp_ne (tgt := 93) S.1 S.2.1 dX8_reach_75 (by decide) (fun c39 => ?_) (fun c39 => ?_)
                · skip
                  have k40 := ci_ne rfl (nI_toInt (n := 1) (by omega)) c39
                  refine lv_iconst (v := (nI 0)) S.1 S.2.1 dX8_reach_93 (by decide +kernel) ?_
                  refine lv_ior S.1 S.2.1 dX8_reach_94 ?_
                  refine lv_topi (fun v41 e41 => ?_)
                  refine lv_istore (lv' := [(4, .int v41), (5, .int (nI q527)), (3, .int (nI q317)), (2, .int x17_2), (0, .ref (ad 58)), (1, .int p1)]) S.1 S.2.1 dX8_reach_95 hl27 (by decide) rfl (fun ls42 hl42 => ?_)
                  refine lv_iinc (v := (nI (q527 + 1))) (lv' := [(5, .int (nI (q527 + 1))), (4, .int v41), (3, .int (nI q317)), (2, .int x17_2), (0, .ref (ad 58)), (1, .int p1)]) S.1 S.2.1 dX8_reach_97 hl42 (k := 1) rfl (nI_add _ 1) (by decide) rfl (fun ls43 hl43 => ?_)
                  refine lv_goto (tgt := 55) S.1 S.2.1 dX8_reach_100 (by decide) ?_
                  exact ih27 (q527 + 1) (v41) (by omega) (by omega) ls43 (lv_sub hl43 [0, 1, 2, 3, 4, 5] rfl)
                have k44 := ci_eq rfl (nI_toInt (n := 1) (by omega)) c39
                refine lv_aload_n S.1 S.2.1 dX8_reach_78 rfl (lv_at hl27 4 rfl) ?_
                refine lv_iload S.1 S.2.1 dX8_reach_79 (lv_at hl27 0 rfl) ?_
                refine lv_aload_n S.1 S.2.1 dX8_reach_81 rfl (lv_at hl27 4 rfl) ?_
                refine r_get S hK hP 58 (by decide) hF2 (C := RX8) (T := TX8) (N := 23) hiX8 rfl 4 (by decide) (by decide +kernel) (v := .ref (ad 62)) rfl dX8_reach_82 ?_
                refine lv_iconst (v := (nI 5)) S.1 S.2.1 dX8_reach_85 (by decide +kernel) ?_
                refine r_iald S hK hP 62 (by decide) hF10 (vp_in_nI (show 5 < 7 by omega) (by omega)) dX8_reach_86 ?_
                refine lv_topi (fun v46 e46 => ?_)
                refine r_cVp (As := [.int (nI q527), .int v46]) (rest := [.int x27_4]) S hK hZ hP hS hl27.1 58 (by decide) hF2 (C := RX8) rfl (c_X8_walks l D cA ad t hI F hW (nI q527) v46) (cwV 2 S.2.2.2.2 gX8_reach_X8_walks rfl rfl rfl (by decide +kernel) ⟨Nat.le_of_ble_eq_true rfl, Nat.le_of_ble_eq_true rfl⟩) rfl rfl (Nat.le_of_ble_eq_true rfl) ⟨Nat.zero_le _, Nat.zero_le _⟩ dX8_reach_87 (fun r47 hr47 => ?_)
                refine lv_goto (tgt := 94) S.1 S.2.1 dX8_reach_90 (by decide) ?_
                refine lv_ior S.1 S.2.1 dX8_reach_94 ?_
                refine lv_topi (fun v48 e48 => ?_)
                refine lv_istore (lv' := [(4, .int v48), (5, .int (nI q527)), (3, .int (nI q317)), (2, .int x17_2), (0, .ref (ad 58)), (1, .int p1)]) S.1 S.2.1 dX8_reach_95 hl27 (by decide) rfl (fun ls49 hl49 => ?_)
                refine lv_iinc (v := (nI (q527 + 1))) (lv' := [(5, .int (nI (q527 + 1))), (4, .int v48), (3, .int (nI q317)), (2, .int x17_2), (0, .ref (ad 58)), (1, .int p1)]) S.1 S.2.1 dX8_reach_97 hl49 (k := 1) rfl (nI_add _ 1) (by decide) rfl (fun ls50 hl50 => ?_)
                refine lv_goto (tgt := 55) S.1 S.2.1 dX8_reach_100 (by decide) ?_
                exact ih27 (q527 + 1) (v48) (by omega) (by omega) ls50 (lv_sub hl50 [0, 1, 2, 3, 4, 5] rfl)
            exact lp27 (8 - (0) + 1) (0) (x17_2) (by omega) (by omega) ls26 (lv_sub hl26 [0, 1, 2, 3, 4, 5] rfl)
          have k51 := ci_eq rfl (nI_toInt (n := 1) (by omega)) c23
          refine lv_iload_n S.1 S.2.1 dX8_reach_47 rfl (lv_at hl17 0 rfl) ?_
          exact hret 48 _ _ dX8_reach_48 rfl (trivial)
      exact lp17 (9 - (0) + 1) (0) (v14) (by omega) (by omega) ls16 (lv_sub hl16 [0, 1, 2, 3] rfl)
    have k52 := ci_eq (nI_toInt (n := b7) (by omega)) z_ti c8
    refine lv_ldc (v := (-1000000003)) S.1 S.2.1 S.2.2.2.1 (S.2.2.2.2 (.constant RX8 139 (-1000000003)) (by decide +kernel)) dX8_reach_18 ?_
    exact hret 20 _ _ dX8_reach_20 rfl (trivial)
  have k53 := ci_eq (nI_toInt (n := b3) (by omega)) z_ti c4
  refine lv_ldc (v := (-1000000001)) S.1 S.2.1 S.2.2.2.1 (S.2.2.2.2 (.constant RX8 126 (-1000000001)) (by decide +kernel)) dX8_reach_8 ?_
  exact hret 10 _ _ dX8_reach_10 rfl (trivial)
