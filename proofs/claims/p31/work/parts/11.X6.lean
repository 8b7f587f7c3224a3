set_option maxHeartbeats 4000000 in
set_option maxRecDepth 100000 in
theorem c_J6_bitCount_0f7a4 (l : Launch) (D : va_G) (cA ad : Nat → Nat) (t : Nat) (hI : rI ad) (F : Nat → va_E) (hW : WT cA ad F) (p1 : Int32) : MP l D cA ad t yJ6_bitCount_0f7a4 wsJ6_bitCount_0f7a4 { frames := 0, cells := 0, slots := 0, locals := 0 } [.int p1] F (fun r => True) := by
  refine en_P rfl (by decide +kernel) (Nat.le_of_ble_eq_true rfl) ?_
  intro p e s m args below meth c ls0 Q S hK hZ hP hS hl0 hret
  have hl0 : lv_has ls0 1 [(0, .int p1)] := hl0
  refine lv_iload_n S.1 S.2.1 dJ6_bitCount_0f7a4_0 rfl (lv_at hl0 0 rfl) ?_
  refine lv_iload_n S.1 S.2.1 dJ6_bitCount_0f7a4_1 rfl (lv_at hl0 0 rfl) ?_
  refine lv_iconst (v := (nI 1)) S.1 S.2.1 dJ6_bitCount_0f7a4_2 (by decide +kernel) ?_
  refine lv_iushr S.1 S.2.1 dJ6_bitCount_0f7a4_3 rfl ?_
  refine lv_topi (fun v1 e1 => ?_)
  refine lv_ldcw (v := (1431655765)) S.1 S.2.1 S.2.2.2.1 (S.2.2.2.2 (.constant RJ6 265 (1431655765)) (by decide +kernel)) dJ6_bitCount_0f7a4_4 ?_
  refine lv_iand S.1 S.2.1 dJ6_bitCount_0f7a4_7 ?_
  refine lv_topi (fun v2 e2 => ?_)
  refine lv_isub S.1 S.2.1 dJ6_bitCount_0f7a4_8 ?_
  refine lv_topi (fun v3 e3 => ?_)
  refine lv_istore_n (lv' := [(0, .int v3)]) S.1 S.2.1 dJ6_bitCount_0f7a4_9 rfl hl0 (by decide) rfl (fun ls4 hl4 => ?_)
  refine lv_iload_n S.1 S.2.1 dJ6_bitCount_0f7a4_10 rfl (lv_at hl4 0 rfl) ?_
  refine lv_ldcw (v := (858993459)) S.1 S.2.1 S.2.2.2.1 (S.2.2.2.2 (.constant RJ6 266 (858993459)) (by decide +kernel)) dJ6_bitCount_0f7a4_11 ?_
  refine lv_iand S.1 S.2.1 dJ6_bitCount_0f7a4_14 ?_
  refine lv_topi (fun v5 e5 => ?_)
  refine lv_iload_n S.1 S.2.1 dJ6_bitCount_0f7a4_15 rfl (lv_at hl4 0 rfl) ?_
  refine lv_iconst (v := (nI 2)) S.1 S.2.1 dJ6_bitCount_0f7a4_16 (by decide +kernel) ?_
  refine lv_iushr S.1 S.2.1 dJ6_bitCount_0f7a4_17 rfl ?_
  refine lv_topi (fun v6 e6 => ?_)
  refine lv_ldcw (v := (858993459)) S.1 S.2.1 S.2.2.2.1 (S.2.2.2.2 (.constant RJ6 266 (858993459)) (by decide +kernel)) dJ6_bitCount_0f7a4_18 ?_
  refine lv_iand S.1 S.2.1 dJ6_bitCount_0f7a4_21 ?_
  refine lv_topi (fun v7 e7 => ?_)
  refine lv_iadd S.1 S.2.1 dJ6_bitCount_0f7a4_22 ?_
  refine lv_topi (fun v8 e8 => ?_)
  refine lv_istore_n (lv' := [(0, .int v8)]) S.1 S.2.1 dJ6_bitCount_0f7a4_23 rfl hl4 (by decide) rfl (fun ls9 hl9 => ?_)
  refine lv_iload_n S.1 S.2.1 dJ6_bitCount_0f7a4_24 rfl (lv_at hl9 0 rfl) ?_
  refine lv_iload_n S.1 S.2.1 dJ6_bitCount_0f7a4_25 rfl (lv_at hl9 0 rfl) ?_
  refine lv_iconst (v := (nI 4)) S.1 S.2.1 dJ6_bitCount_0f7a4_26 (by decide +kernel) ?_
  refine lv_iushr S.1 S.2.1 dJ6_bitCount_0f7a4_27 rfl ?_
  refine lv_topi (fun v10 e10 => ?_)
  refine lv_iadd S.1 S.2.1 dJ6_bitCount_0f7a4_28 ?_
  refine lv_topi (fun v11 e11 => ?_)
  refine lv_ldcw (v := (252645135)) S.1 S.2.1 S.2.2.2.1 (S.2.2.2.2 (.constant RJ6 267 (252645135)) (by decide +kernel)) dJ6_bitCount_0f7a4_29 ?_
  refine lv_iand S.1 S.2.1 dJ6_bitCount_0f7a4_32 ?_
  refine lv_topi (fun v12 e12 => ?_)
  refine lv_istore_n (lv' := [(0, .int v12)]) S.1 S.2.1 dJ6_bitCount_0f7a4_33 rfl hl9 (by decide) rfl (fun ls13 hl13 => ?_)
  refine lv_iload_n S.1 S.2.1 dJ6_bitCount_0f7a4_34 rfl (lv_at hl13 0 rfl) ?_
  refine lv_iload_n S.1 S.2.1 dJ6_bitCount_0f7a4_35 rfl (lv_at hl13 0 rfl) ?_
  refine lv_bipush (v := (nI 8)) S.1 S.2.1 dJ6_bitCount_0f7a4_36 (by decide +kernel) ?_
  refine lv_iushr S.1 S.2.1 dJ6_bitCount_0f7a4_38 rfl ?_
  refine lv_topi (fun v14 e14 => ?_)
  refine lv_iadd S.1 S.2.1 dJ6_bitCount_0f7a4_39 ?_
  refine lv_topi (fun v15 e15 => ?_)
  refine lv_istore_n (lv' := [(0, .int v15)]) S.1 S.2.1 dJ6_bitCount_0f7a4_40 rfl hl13 (by decide) rfl (fun ls16 hl16 => ?_)
  refine lv_iload_n S.1 S.2.1 dJ6_bitCount_0f7a4_41 rfl (lv_at hl16 0 rfl) ?_
  refine lv_iload_n S.1 S.2.1 dJ6_bitCount_0f7a4_42 rfl (lv_at hl16 0 rfl) ?_
  refine lv_bipush (v := (nI 16)) S.1 S.2.1 dJ6_bitCount_0f7a4_43 (by decide +kernel) ?_
  refine lv_iushr S.1 S.2.1 dJ6_bitCount_0f7a4_45 rfl ?_
  refine lv_topi (fun v17 e17 => ?_)
  refine lv_iadd S.1 S.2.1 dJ6_bitCount_0f7a4_46 ?_
  refine lv_topi (fun v18 e18 => ?_)
  refine lv_istore_n (lv' := [(0, .int v18)]) S.1 S.2.1 dJ6_bitCount_0f7a4_47 rfl hl16 (by decide) rfl (fun ls19 hl19 => ?_)
  refine lv_iload_n S.1 S.2.1 dJ6_bitCount_0f7a4_48 rfl (lv_at hl19 0 rfl) ?_
  refine lv_bipush (v := (nI 63)) S.1 S.2.1 dJ6_bitCount_0f7a4_49 (by decide +kernel) ?_
  refine lv_iand S.1 S.2.1 dJ6_bitCount_0f7a4_51 ?_
  refine lv_topi (fun v20 e20 => ?_)
  exact hret 52 _ _ dJ6_bitCount_0f7a4_52 rfl (trivial)
set_option maxHeartbeats 4000000 in
set_option maxRecDepth 100000 in
theorem c_X6_add (l : Launch) (D : va_G) (cA ad : Nat → Nat) (t : Nat) (hI : rI ad) (F : Nat → va_E) (hW : WT cA ad F) (p1 : Int32) (p2 : Int32) : MV l D cA ad t yX6_add wsX6_add { frames := 0, cells := 0, slots := 0, locals := 0 } [.ref (ad 33), .int p1, .int p2] F (fun F' => WT cA ad F' ∧ rFr [33, 34, 35] F F' ∧ (True)) := by
  refine en_V rfl (by decide +kernel) (Nat.le_of_ble_eq_true rfl) ?_
  intro p e s m args below meth c ls0 Q S hK hZ hP hS hl0 hret
  have hl0 : lv_has ls0 3 [(0, .ref (ad 33)), (1, .int p1), (2, .int p2)] := hl0
  have hFr : rFr [33, 34, 35] F F := rFr.rf
  have hiX6 : ∀ w ∈ u_ws RX6 TX6 6, w ∈ wsX6_add := by decide +kernel
  refine lv_aload_n S.1 S.2.1 dX6_add_0 rfl (lv_at hl0 0 rfl) ?_
  obtain ⟨k1, hF1, hk1⟩ := wt_ways hW
  refine r_get S hK hP 33 (by decide) hF1 (C := RX6) (T := TX6) (N := 6) hiX6 rfl 0 (by decide) (by decide +kernel) (v := .int (nI k1)) rfl dX6_add_1 ?_
  refine lv_bipush (v := (nI 8)) S.1 S.2.1 dX6_add_4 (by decide +kernel) ?_
  refine lv_icmp_ge (tgt := 39) S.1 S.2.1 dX6_add_6 (by decide) (fun c2 => ?_) (fun c2 => ?_)
  · skip
    have k3 := ci_le (nI_toInt (n := 8) (by omega)) (nI_toInt (n := k1) (by omega)) c2
    exact hret 39 _ _ _ _ dX6_add_39 hP hS ⟨hW, hFr, trivial⟩
  have k4 := ci_nle (nI_toInt (n := 8) (by omega)) (nI_toInt (n := k1) (by omega)) c2
  refine lv_aload_n S.1 S.2.1 dX6_add_9 rfl (lv_at hl0 0 rfl) ?_
  refine r_get S hK hP 33 (by decide) hF1 (C := RX6) (T := TX6) (N := 6) hiX6 rfl 1 (by decide) (by decide +kernel) (v := .ref (ad 34)) rfl dX6_add_10 ?_
  refine lv_aload_n S.1 S.2.1 dX6_add_13 rfl (lv_at hl0 0 rfl) ?_
  refine r_get S hK hP 33 (by decide) hF1 (C := RX6) (T := TX6) (N := 6) hiX6 rfl 0 (by decide) (by decide +kernel) (v := .int (nI k1)) rfl dX6_add_14 ?_
  refine lv_iload_n S.1 S.2.1 dX6_add_17 rfl (lv_at hl0 1 rfl) ?_
  obtain ⟨g5, hF5, hg5⟩ := wt_I hW (show (34, 8) ∈ rLI by decide)
  refine r_iast S hI hK hP hS 34 (by decide) hF5 (vp_in_nI (show k1 < 8 by omega) (by omega)) dX6_add_18 (fun F6 H6 locs6 eF6 hP6 hS6 => ?_)
  have hW6 := hW.up eF6 (ok_I (show (34, 8) ∈ rLI by decide) (okI_up hg5 (pr_of (by decide))))
  have hFr6 := hFr.up eF6 (by simp <;> first | omega | (simp only [isC, isJ] at *; omega))
  refine lv_aload_n S.1 S.2.1 dX6_add_19 rfl (lv_at hl0 0 rfl) ?_
  have hF7 := (show F6 33 = F 33 by rw [eF6]; exact va_up_ne _ _ (by decide)).trans hF1
  refine r_get S hK hP6 33 (by decide) hF7 (C := RX6) (T := TX6) (N := 6) hiX6 rfl 2 (by decide) (by decide +kernel) (v := .ref (ad 35)) rfl dX6_add_20 ?_
  refine lv_aload_n S.1 S.2.1 dX6_add_23 rfl (lv_at hl0 0 rfl) ?_
  refine r_get S hK hP6 33 (by decide) hF7 (C := RX6) (T := TX6) (N := 6) hiX6 rfl 0 (by decide) (by decide +kernel) (v := .int (nI k1)) rfl dX6_add_24 ?_
  refine lv_iload_n S.1 S.2.1 dX6_add_27 rfl (lv_at hl0 2 rfl) ?_
  obtain ⟨g8, hF8, hg8⟩ := wt_I hW6 (show (35, 8) ∈ rLI by decide)
  refine r_iast S hI hK hP6 hS6 35 (by decide) hF8 (vp_in_nI (show k1 < 8 by omega) (by omega)) dX6_add_28 (fun F9 H9 locs9 eF9 hP9 hS9 => ?_)
  have hW9 := hW6.up eF9 (ok_I (show (35, 8) ∈ rLI by decide) (okI_up hg8 (pr_of (by decide))))
  have hFr9 := hFr6.up eF9 (by simp <;> first | omega | (simp only [isC, isJ] at *; omega))
  refine lv_aload_n S.1 S.2.1 dX6_add_29 rfl (lv_at hl0 0 rfl) ?_
  refine lv_dup S.1 S.2.1 dX6_add_30 rfl ?_
  have hF10 := (show F9 33 = F6 33 by rw [eF9]; exact va_up_ne _ _ (by decide)).trans hF7
  refine r_get S hK hP9 33 (by decide) hF10 (C := RX6) (T := TX6) (N := 6) hiX6 rfl 0 (by decide) (by decide +kernel) (v := .int (nI k1)) rfl dX6_add_31 ?_
  refine lv_iconst (v := (nI 1)) S.1 S.2.1 dX6_add_34 (by decide +kernel) ?_
  refine lv_iadd S.1 S.2.1 dX6_add_35 ?_
  refine lv_topi (fun v11 e11 => ?_)
  obtain rfl : v11 = nI (k1 + 1) := e11.trans (nI_add _ _)
  refine r_put S hI hK hP9 hS9 33 (by decide) hF10 (C := RX6) (T := TX6) (N := 6) hiX6 tyX6_ok nmX6 rfl 0 (by decide) (by decide +kernel) rfl rfl rfl (Nat.le_of_ble_eq_true rfl) dX6_add_36 (fun F12 H12 locs12 eF12 hP12 hS12 => ?_)
  have hF12 : F12 33 = .inr (6, [.int (nI (k1 + 1)), .ref (ad 34), .ref (ad 35), .ref (ad 36), .ref (ad 37), .ref (ad 38)]) := by rw [eF12]; exact va_up_self _ _ _
  have hW12 := hW9.up eF12 (ok_ways ⟨k1 + 1, rfl, by omega⟩)
  have hFr12 := hFr9.up eF12 (by simp <;> first | omega | (simp only [isC, isJ] at *; omega))
  exact hret 39 _ _ _ _ dX6_add_39 hP12 hS12 ⟨hW12, hFr12, trivial⟩
set_option maxHeartbeats 4000000 in
set_option maxRecDepth 100000 in
theorem c_X6_union (l : Launch) (D : va_G) (cA ad : Nat → Nat) (t : Nat) (hI : rI ad) (F : Nat → va_E) (hW : WT cA ad F) (ra : Nat) (hra : (ra, 245) ∈ rLI) (hura : ra ∉ [60, 61, 62, 63, 64, 66]) (m2 : Nat) (hm2 : m2 ≤ 48) : MP l D cA ad t yX6_union wsX6_union { frames := 0, cells := 0, slots := 0, locals := 0 } [.ref (ad ra), .int (nI m2)] F (fun r => True) := by
  refine en_P rfl (by decide +kernel) (Nat.le_of_ble_eq_true rfl) ?_
  intro p e s m args below meth c ls0 Q S hK hZ hP hS hl0 hret
  have hl0 : lv_has ls0 4 [(0, .ref (ad ra)), (1, .int (nI m2))] := hl0
  refine lv_iconst (v := (nI 0)) S.1 S.2.1 dX6_union_0 (by decide +kernel) ?_
  refine lv_istore_n (lv' := [(2, .int (nI 0)), (0, .ref (ad ra)), (1, .int (nI m2))]) S.1 S.2.1 dX6_union_1 rfl hl0 (by decide) rfl (fun ls1 hl1 => ?_)
  refine lv_iconst (v := (nI 0)) S.1 S.2.1 dX6_union_2 (by decide +kernel) ?_
  refine lv_istore_n (lv' := [(3, .int (nI 0)), (2, .int (nI 0)), (0, .ref (ad ra)), (1, .int (nI m2))]) S.1 S.2.1 dX6_union_3 rfl hl1 (by decide) rfl (fun ls2 hl2 => ?_)
  have lp3 : ∀ (n3 : Nat) (q33 : Nat) (x3_2 : Int32), q33 ≤ 5 → 5 - q33 < n3 → ∀ (ls : Array Slot), lv_has ls 4 [(3, .int (nI q33)), (2, .int x3_2), (0, .ref (ad ra)), (1, .int (nI m2))] → W p l e { frames := 0, cells := 0, slots := 0, locals := 0 } s m args below meth c s.heap [] 0 0 Q (F0 m 4 ls []) := by
    intro n3
    induction n3 with
    | zero =>
      intro q33 x3_2 iv3_0 hm3 ls3 hl3
      exact absurd hm3 (Nat.not_lt_zero _)
    | succ n3 ih3 =>
      intro q33 x3_2 iv3_0 hm3 ls3 hl3
      refine lv_iload_n S.1 S.2.1 dX6_union_4 rfl (lv_at hl3 0 rfl) ?_
      refine lv_iconst (v := (nI 5)) S.1 S.2.1 dX6_union_5 (by decide +kernel) ?_
      refine lv_icmp_ge (tgt := 25) S.1 S.2.1 dX6_union_6 (by decide) (fun c4 => ?_) (fun c4 => ?_)
      · skip
        have k5 := ci_le (nI_toInt (n := 5) (by omega)) (nI_toInt (n := q33) (by omega)) c4
        refine lv_iload_n S.1 S.2.1 dX6_union_25 rfl (lv_at hl3 1 rfl) ?_
        exact hret 26 _ _ dX6_union_26 rfl (trivial)
      have k6 := ci_nle (nI_toInt (n := 5) (by omega)) (nI_toInt (n := q33) (by omega)) c4
      refine lv_iload_n S.1 S.2.1 dX6_union_9 rfl (lv_at hl3 1 rfl) ?_
      refine lv_aload_n S.1 S.2.1 dX6_union_10 rfl (lv_at hl3 2 rfl) ?_
      refine lv_iload_n S.1 S.2.1 dX6_union_11 rfl (lv_at hl3 3 rfl) ?_
      refine lv_iconst (v := (nI 5)) S.1 S.2.1 dX6_union_12 (by decide +kernel) ?_
      refine lv_imul S.1 S.2.1 dX6_union_13 ?_
      refine lv_topi (fun v7 e7 => ?_)
      obtain rfl : v7 = nI (m2 * 5) := e7.trans (pk_mul _ _)
      refine lv_iload_n S.1 S.2.1 dX6_union_14 rfl (lv_at hl3 0 rfl) ?_
      refine lv_iadd S.1 S.2.1 dX6_union_15 ?_
      refine lv_topi (fun v8 e8 => ?_)
      obtain rfl : v8 = nI ((m2 * 5) + q33) := e8.trans (nI_add _ _)
      obtain ⟨g9, hF9, hg9⟩ := wt_I hW hra
      refine r_iald S hK hP ra (lt_I hra) hF9 (vp_in_nI (show (m2 * 5) + q33 < 245 by omega) (by omega)) dX6_union_16 ?_
      refine lv_topi (fun v11 e11 => ?_)
      refine lv_ior S.1 S.2.1 dX6_union_17 ?_
      refine lv_topi (fun v12 e12 => ?_)
      refine lv_istore_n (lv' := [(2, .int v12), (3, .int (nI q33)), (0, .ref (ad ra)), (1, .int (nI m2))]) S.1 S.2.1 dX6_union_18 rfl hl3 (by decide) rfl (fun ls13 hl13 => ?_)
      refine lv_iinc (v := (nI (q33 + 1))) (lv' := [(3, .int (nI (q33 + 1))), (2, .int v12), (0, .ref (ad ra)), (1, .int (nI m2))]) S.1 S.2.1 dX6_union_19 hl13 (k := 1) rfl (nI_add _ 1) (by decide) rfl (fun ls14 hl14 => ?_)
      refine lv_goto (tgt := 4) S.1 S.2.1 dX6_union_22 (by decide) ?_
      exact ih3 (q33 + 1) (v12) (by omega) (by omega) ls14 (lv_sub hl14 [0, 1, 2, 3] rfl)
  exact lp3 (5 - (0) + 1) (0) ((nI 0)) (by omega) (by omega) ls2 (lv_sub hl2 [0, 1, 2, 3] rfl)
set_option maxHeartbeats 4000000 in
set_option maxRecDepth 100000 in
theorem c_X6_isTold (l : Launch) (D : va_G) (cA ad : Nat → Nat) (t : Nat) (hI : rI ad) (F : Nat → va_E) (hW : WT cA ad F) (p1 : Int32) (p2 : Int32) : MP l D cA ad t yX6_isTold wsX6_isTold { frames := 0, cells := 0, slots := 0, locals := 0 } [.ref (ad 33), .int p1, .int p2] F (fun r => le32 1 r) := by
  refine en_P rfl (by decide +kernel) (Nat.le_of_ble_eq_true rfl) ?_
  intro p e s m args below meth c ls0 Q S hK hZ hP hS hl0 hret
  have hl0 : lv_has ls0 4 [(0, .ref (ad 33)), (1, .int p1), (2, .int p2)] := hl0
  have hiX6 : ∀ w ∈ u_ws RX6 TX6 6, w ∈ wsX6_isTold := by decide +kernel
  refine lv_iconst (v := (nI 0)) S.1 S.2.1 dX6_isTold_0 (by decide +kernel) ?_
  refine lv_istore_n (lv' := [(3, .int (nI 0)), (0, .ref (ad 33)), (1, .int p1), (2, .int p2)]) S.1 S.2.1 dX6_isTold_1 rfl hl0 (by decide) rfl (fun ls1 hl1 => ?_)
  have lp2 : ∀ (n2 : Nat) (q32 : Nat), q32 ≤ 8 → 8 - q32 < n2 → ∀ (ls : Array Slot), lv_has ls 4 [(3, .int (nI q32)), (0, .ref (ad 33)), (1, .int p1), (2, .int p2)] → W p l e { frames := 0, cells := 0, slots := 0, locals := 0 } s m args below meth c s.heap [] 0 0 Q (F0 m 2 ls []) := by
    intro n2
    induction n2 with
    | zero =>
      intro q32 iv2_0 hm2 ls2 hl2
      exact absurd hm2 (Nat.not_lt_zero _)
    | succ n2 ih2 =>
      intro q32 iv2_0 hm2 ls2 hl2
      refine lv_iload_n S.1 S.2.1 dX6_isTold_2 rfl (lv_at hl2 0 rfl) ?_
      refine lv_aload_n S.1 S.2.1 dX6_isTold_3 rfl (lv_at hl2 1 rfl) ?_
      obtain ⟨k3, hF3, hk3⟩ := wt_ways hW
      refine r_get S hK hP 33 (by decide) hF3 (C := RX6) (T := TX6) (N := 6) hiX6 rfl 0 (by decide) (by decide +kernel) (v := .int (nI k3)) rfl dX6_isTold_4 ?_
      refine lv_icmp_ge (tgt := 33) S.1 S.2.1 dX6_isTold_7 (by decide) (fun c4 => ?_) (fun c4 => ?_)
      · skip
        have k5 := ci_le (nI_toInt (n := k3) (by omega)) (nI_toInt (n := q32) (by omega)) c4
        refine lv_iconst (v := (nI 0)) S.1 S.2.1 dX6_isTold_33 (by decide +kernel) ?_
        exact hret 34 _ _ dX6_isTold_34 rfl (⟨0, by omega, rfl⟩)
      have k6 := ci_nle (nI_toInt (n := k3) (by omega)) (nI_toInt (n := q32) (by omega)) c4
      refine lv_iload_n S.1 S.2.1 dX6_isTold_10 rfl (lv_at hl2 0 rfl) ?_
      refine lv_iload_n S.1 S.2.1 dX6_isTold_11 rfl (lv_at hl2 3 rfl) ?_
      refine lv_icmp_eq (tgt := 27) S.1 S.2.1 dX6_isTold_12 (by decide) (fun c7 => ?_) (fun c7 => ?_)
      · skip
        have k8 := ci_eq (nI_toInt (n := q32) (by omega)) rfl c7
        refine lv_iinc (v := (nI (q32 + 1))) (lv' := [(3, .int (nI (q32 + 1))), (0, .ref (ad 33)), (1, .int p1), (2, .int p2)]) S.1 S.2.1 dX6_isTold_27 hl2 (k := 0) rfl (nI_add _ 1) (by decide) rfl (fun ls9 hl9 => ?_)
        refine lv_goto (tgt := 2) S.1 S.2.1 dX6_isTold_30 (by decide) ?_
        exact ih2 (q32 + 1) (by omega) (by omega) ls9 (lv_sub hl9 [0, 1, 2, 3] rfl)
      have k10 := ci_ne (nI_toInt (n := q32) (by omega)) rfl c7
      refine lv_aload_n S.1 S.2.1 dX6_isTold_15 rfl (lv_at hl2 1 rfl) ?_
      refine r_get S hK hP 33 (by decide) hF3 (C := RX6) (T := TX6) (N := 6) hiX6 rfl 2 (by decide) (by decide +kernel) (v := .ref (ad 35)) rfl dX6_isTold_16 ?_
      refine lv_iload_n S.1 S.2.1 dX6_isTold_19 rfl (lv_at hl2 0 rfl) ?_
      obtain ⟨g11, hF11, hg11⟩ := wt_I hW (show (35, 8) ∈ rLI by decide)
      refine r_iald S hK hP 35 (by decide) hF11 (vp_in_nI (show q32 < 8 by omega) (by omega)) dX6_isTold_20 ?_
      refine lv_topi (fun v13 e13 => ?_)
      refine lv_iload_n S.1 S.2.1 dX6_isTold_21 rfl (lv_at hl2 2 rfl) ?_
      refine lv_icmp_ne (tgt := 27) S.1 S.2.1 dX6_isTold_22 (by decide) (fun c14 => ?_) (fun c14 => ?_)
      · skip
        have k15 := ci_ne rfl rfl c14
        refine lv_iinc (v := (nI (q32 + 1))) (lv' := [(3, .int (nI (q32 + 1))), (0, .ref (ad 33)), (1, .int p1), (2, .int p2)]) S.1 S.2.1 dX6_isTold_27 hl2 (k := 0) rfl (nI_add _ 1) (by decide) rfl (fun ls16 hl16 => ?_)
        refine lv_goto (tgt := 2) S.1 S.2.1 dX6_isTold_30 (by decide) ?_
        exact ih2 (q32 + 1) (by omega) (by omega) ls16 (lv_sub hl16 [0, 1, 2, 3] rfl)
      have k17 := ci_eq rfl rfl c14
      refine lv_iconst (v := (nI 1)) S.1 S.2.1 dX6_isTold_25 (by decide +kernel) ?_
      exact hret 26 _ _ dX6_isTold_26 rfl (⟨1, by omega, rfl⟩)
  exact lp2 (8 - (0) + 1) (0) (by omega) (by omega) ls1 (lv_sub hl1 [0, 1, 2, 3] rfl)
set_option maxHeartbeats 4000000 in
set_option maxRecDepth 100000 in
theorem c_X6_staysIn (l : Launch) (D : va_G) (cA ad : Nat → Nat) (t : Nat) (hI : rI ad) (F : Nat → va_E) (hW : WT cA ad F) (rc : Nat) (hrc : isC rc) (p2 : Int32) (p3 : Int32) : MP l D cA ad t yX6_staysIn wsX6_staysIn { frames := 2, cells := 0, slots := 0, locals := 43 } [.ref (ad 33), .ref (ad rc), .int p2, .int p3] F (fun r => True) := by
  refine en_P rfl (by decide +kernel) (Nat.le_of_ble_eq_true rfl) ?_
  intro p e s m args below meth c ls0 Q S hK hZ hP hS hl0 hret
  have hl0 : lv_has ls0 6 [(0, .ref (ad 33)), (1, .ref (ad rc)), (2, .int p2), (3, .int p3)] := hl0
  have hiX6 : ∀ w ∈ u_ws RX6 TX6 6, w ∈ wsX6_staysIn := by decide +kernel
  refine lv_sipush (v := (nI 255)) S.1 S.2.1 dX6_staysIn_0 (by decide +kernel) ?_
  refine lv_istore (lv' := [(4, .int (nI 255)), (0, .ref (ad 33)), (1, .ref (ad rc)), (2, .int p2), (3, .int p3)]) S.1 S.2.1 dX6_staysIn_3 hl0 (by decide) rfl (fun ls1 hl1 => ?_)
  refine lv_iconst (v := (nI 0)) S.1 S.2.1 dX6_staysIn_5 (by decide +kernel) ?_
  refine lv_istore (lv' := [(5, .int (nI 0)), (4, .int (nI 255)), (0, .ref (ad 33)), (1, .ref (ad rc)), (2, .int p2), (3, .int p3)]) S.1 S.2.1 dX6_staysIn_6 hl1 (by decide) rfl (fun ls2 hl2 => ?_)
  have lp3 : ∀ (n3 : Nat) (q53 : Nat) (x3_4 : Int32), q53 ≤ 8 → 8 - q53 < n3 → ∀ (ls : Array Slot), lv_has ls 6 [(5, .int (nI q53)), (4, .int x3_4), (0, .ref (ad 33)), (1, .ref (ad rc)), (2, .int p2), (3, .int p3)] → W p l e { frames := 2, cells := 0, slots := 0, locals := 43 } s m args below meth c s.heap [] 0 0 Q (F0 m 8 ls []) := by
    intro n3
    induction n3 with
    | zero =>
      intro q53 x3_4 iv3_0 hm3 ls3 hl3
      exact absurd hm3 (Nat.not_lt_zero _)
    | succ n3 ih3 =>
      intro q53 x3_4 iv3_0 hm3 ls3 hl3
      refine lv_iload S.1 S.2.1 dX6_staysIn_8 (lv_at hl3 0 rfl) ?_
      refine lv_aload_n S.1 S.2.1 dX6_staysIn_10 rfl (lv_at hl3 2 rfl) ?_
      obtain ⟨k4, hF4, hk4⟩ := wt_ways hW
      refine r_get S hK hP 33 (by decide) hF4 (C := RX6) (T := TX6) (N := 6) hiX6 rfl 0 (by decide) (by decide +kernel) (v := .int (nI k4)) rfl dX6_staysIn_11 ?_
      refine lv_icmp_ge (tgt := 73) S.1 S.2.1 dX6_staysIn_14 (by decide) (fun c5 => ?_) (fun c5 => ?_)
      · skip
        have k6 := ci_le (nI_toInt (n := k4) (by omega)) (nI_toInt (n := q53) (by omega)) c5
        refine lv_iload S.1 S.2.1 dX6_staysIn_73 (lv_at hl3 1 rfl) ?_
        exact hret 75 _ _ dX6_staysIn_75 rfl (trivial)
      have k7 := ci_nle (nI_toInt (n := k4) (by omega)) (nI_toInt (n := q53) (by omega)) c5
      refine lv_iload S.1 S.2.1 dX6_staysIn_17 (lv_at hl3 0 rfl) ?_
      refine lv_iload_n S.1 S.2.1 dX6_staysIn_19 rfl (lv_at hl3 5 rfl) ?_
      refine lv_icmp_eq (tgt := 67) S.1 S.2.1 dX6_staysIn_20 (by decide) (fun c8 => ?_) (fun c8 => ?_)
      · skip
        have k9 := ci_eq (nI_toInt (n := q53) (by omega)) rfl c8
        refine lv_iinc (v := (nI (q53 + 1))) (lv' := [(5, .int (nI (q53 + 1))), (4, .int x3_4), (0, .ref (ad 33)), (1, .ref (ad rc)), (2, .int p2), (3, .int p3)]) S.1 S.2.1 dX6_staysIn_67 hl3 (k := 0) rfl (nI_add _ 1) (by decide) rfl (fun ls10 hl10 => ?_)
        refine lv_goto (tgt := 8) S.1 S.2.1 dX6_staysIn_70 (by decide) ?_
        exact ih3 (q53 + 1) (x3_4) (by omega) (by omega) ls10 (lv_sub hl10 [0, 1, 2, 3, 4, 5] rfl)
      have k11 := ci_ne (nI_toInt (n := q53) (by omega)) rfl c8
      refine lv_aload_n S.1 S.2.1 dX6_staysIn_23 rfl (lv_at hl3 2 rfl) ?_
      refine r_get S hK hP 33 (by decide) hF4 (C := RX6) (T := TX6) (N := 6) hiX6 rfl 2 (by decide) (by decide +kernel) (v := .ref (ad 35)) rfl dX6_staysIn_24 ?_
      refine lv_iload S.1 S.2.1 dX6_staysIn_27 (lv_at hl3 0 rfl) ?_
      obtain ⟨g12, hF12, hg12⟩ := wt_I hW (show (35, 8) ∈ rLI by decide)
      refine r_iald S hK hP 35 (by decide) hF12 (vp_in_nI (show q53 < 8 by omega) (by omega)) dX6_staysIn_29 ?_
      refine lv_topi (fun v14 e14 => ?_)
      refine lv_iload_n S.1 S.2.1 dX6_staysIn_30 rfl (lv_at hl3 4 rfl) ?_
      refine lv_icmp_ne (tgt := 67) S.1 S.2.1 dX6_staysIn_31 (by decide) (fun c15 => ?_) (fun c15 => ?_)
      · skip
        have k16 := ci_ne rfl rfl c15
        refine lv_iinc (v := (nI (q53 + 1))) (lv' := [(5, .int (nI (q53 + 1))), (4, .int x3_4), (0, .ref (ad 33)), (1, .ref (ad rc)), (2, .int p2), (3, .int p3)]) S.1 S.2.1 dX6_staysIn_67 hl3 (k := 0) rfl (nI_add _ 1) (by decide) rfl (fun ls17 hl17 => ?_)
        refine lv_goto (tgt := 8) S.1 S.2.1 dX6_staysIn_70 (by decide) ?_
        exact ih3 (q53 + 1) (x3_4) (by omega) (by omega) ls17 (lv_sub hl17 [0, 1, 2, 3, 4, 5] rfl)
      have k18 := ci_eq rfl rfl c15
      refine lv_iload S.1 S.2.1 dX6_staysIn_34 (lv_at hl3 1 rfl) ?_
      refine lv_aload_n S.1 S.2.1 dX6_staysIn_36 rfl (lv_at hl3 3 rfl) ?_
      refine lv_aload_n S.1 S.2.1 dX6_staysIn_37 rfl (lv_at hl3 2 rfl) ?_
      refine r_get S hK hP 33 (by decide) hF4 (C := RX6) (T := TX6) (N := 6) hiX6 rfl 1 (by decide) (by decide +kernel) (v := .ref (ad 34)) rfl dX6_staysIn_38 ?_
      refine lv_iload S.1 S.2.1 dX6_staysIn_41 (lv_at hl3 0 rfl) ?_
      obtain ⟨g19, hF19, hg19⟩ := wt_I hW (show (34, 8) ∈ rLI by decide)
      refine r_iald S hK hP 34 (by decide) hF19 (vp_in_nI (show q53 < 8 by omega) (by omega)) dX6_staysIn_43 ?_
      refine lv_topi (fun v21 e21 => ?_)
      refine lv_iload_n S.1 S.2.1 dX6_staysIn_44 rfl (lv_at hl3 4 rfl) ?_
      obtain ⟨sl23, fm23, tn23, rn23, bn23, hF23, hb23_1, hb23_2, hb23_3⟩ := wt_C hW hrc
      refine r_cVp (As := [.int v21, .int p2]) (rest := [.int x3_4]) S hK hZ hP hS hl3.1 rc (lt_C hrc) hF23 (C := RX0) rfl (c_X0_worksIn l D cA ad t hI F hW rc hrc v21 p2) (cwV 2 S.2.2.2.2 gX6_staysIn_X0_worksIn rfl rfl rfl (by decide +kernel) ⟨Nat.le_of_ble_eq_true rfl, Nat.le_of_ble_eq_true rfl⟩) rfl rfl (Nat.le_of_ble_eq_true rfl) ⟨Nat.zero_le _, Nat.zero_le _⟩ dX6_staysIn_45 (fun r22 hr22 => ?_)
      obtain ⟨⟨b24, hb24, rfl⟩, hx24⟩ := hr22
      have hx24 : b24 ≠ 0 → 0 ≤ v21.toInt ∧ v21.toInt ≤ _ := fun q => hx24 (nI_ne0 (by omega) (by omega))
      refine lv_if_eq (tgt := 63) S.1 S.2.1 dX6_staysIn_48 (by decide) (fun c25 => ?_) (fun c25 => ?_)
      · skip
        have k26 := ci_eq (nI_toInt (n := b24) (by omega)) z_ti c25
        refine lv_iconst (v := (nI 0)) S.1 S.2.1 dX6_staysIn_63 (by decide +kernel) ?_
        refine lv_iand S.1 S.2.1 dX6_staysIn_64 ?_
        refine lv_topi (fun v27 e27 => ?_)
        refine lv_istore (lv' := [(4, .int v27), (5, .int (nI q53)), (0, .ref (ad 33)), (1, .ref (ad rc)), (2, .int p2), (3, .int p3)]) S.1 S.2.1 dX6_staysIn_65 hl3 (by decide) rfl (fun ls28 hl28 => ?_)
        refine lv_iinc (v := (nI (q53 + 1))) (lv' := [(5, .int (nI (q53 + 1))), (4, .int v27), (0, .ref (ad 33)), (1, .ref (ad rc)), (2, .int p2), (3, .int p3)]) S.1 S.2.1 dX6_staysIn_67 hl28 (k := 1) rfl (nI_add _ 1) (by decide) rfl (fun ls29 hl29 => ?_)
        refine lv_goto (tgt := 8) S.1 S.2.1 dX6_staysIn_70 (by decide) ?_
        exact ih3 (q53 + 1) (v27) (by omega) (by omega) ls29 (lv_sub hl29 [0, 1, 2, 3, 4, 5] rfl)
      have k30 := ci_ne (nI_toInt (n := b24) (by omega)) z_ti c25
      refine lv_iconst (v := (nI 1)) S.1 S.2.1 dX6_staysIn_51 (by decide +kernel) ?_
      refine lv_aload_n S.1 S.2.1 dX6_staysIn_52 rfl (lv_at hl3 2 rfl) ?_
      refine r_get S hK hP 33 (by decide) hF4 (C := RX6) (T := TX6) (N := 6) hiX6 rfl 1 (by decide) (by decide +kernel) (v := .ref (ad 34)) rfl dX6_staysIn_53 ?_
      refine lv_iload S.1 S.2.1 dX6_staysIn_56 (lv_at hl3 0 rfl) ?_
      refine r_iald S hK hP 34 (by decide) hF19 (vp_in_nI (show q53 < 8 by omega) (by omega)) dX6_staysIn_58 ?_
      refine lv_topi (fun v32 e32 => ?_)
      refine lv_ishl S.1 S.2.1 dX6_staysIn_59 ?_
      refine lv_topi (fun v33 e33 => ?_)
      refine lv_goto (tgt := 64) S.1 S.2.1 dX6_staysIn_60 (by decide) ?_
      refine lv_iand S.1 S.2.1 dX6_staysIn_64 ?_
      refine lv_topi (fun v34 e34 => ?_)
      refine lv_istore (lv' := [(4, .int v34), (5, .int (nI q53)), (0, .ref (ad 33)), (1, .ref (ad rc)), (2, .int p2), (3, .int p3)]) S.1 S.2.1 dX6_staysIn_65 hl3 (by decide) rfl (fun ls35 hl35 => ?_)
      refine lv_iinc (v := (nI (q53 + 1))) (lv' := [(5, .int (nI (q53 + 1))), (4, .int v34), (0, .ref (ad 33)), (1, .ref (ad rc)), (2, .int p2), (3, .int p3)]) S.1 S.2.1 dX6_staysIn_67 hl35 (k := 1) rfl (nI_add _ 1) (by decide) rfl (fun ls36 hl36 => ?_)
      refine lv_goto (tgt := 8) S.1 S.2.1 dX6_staysIn_70 (by decide) ?_
      exact ih3 (q53 + 1) (v34) (by omega) (by omega) ls36 (lv_sub hl36 [0, 1, 2, 3, 4, 5] rfl)
  exact lp3 (8 - (0) + 1) (0) ((nI 255)) (by omega) (by omega) ls2 (lv_sub hl2 [0, 1, 2, 3, 4, 5] rfl)
set_option maxHeartbeats 4000000 in
set_option maxRecDepth 100000 in
theorem c_X6_entriesTo (l : Launch) (D : va_G) (cA ad : Nat → Nat) (t : Nat) (hI : rI ad) (F : Nat → va_E) (hW : WT cA ad F) (p1 : Int32) : MP l D cA ad t yX6_entriesTo wsX6_entriesTo { frames := 0, cells := 0, slots := 0, locals := 0 } [.ref (ad 33), .int p1] F (fun r => True) := by
  refine en_P rfl (by decide +kernel) (Nat.le_of_ble_eq_true rfl) ?_
  intro p e s m args below meth c ls0 Q S hK hZ hP hS hl0 hret
  have hl0 : lv_has ls0 4 [(0, .ref (ad 33)), (1, .int p1)] := hl0
  have hiX6 : ∀ w ∈ u_ws RX6 TX6 6, w ∈ wsX6_entriesTo := by decide +kernel
  refine lv_iconst (v := (nI 0)) S.1 S.2.1 dX6_entriesTo_0 (by decide +kernel) ?_
  refine lv_istore_n (lv' := [(2, .int (nI 0)), (0, .ref (ad 33)), (1, .int p1)]) S.1 S.2.1 dX6_entriesTo_1 rfl hl0 (by decide) rfl (fun ls1 hl1 => ?_)
  refine lv_iconst (v := (nI 0)) S.1 S.2.1 dX6_entriesTo_2 (by decide +kernel) ?_
  refine lv_istore_n (lv' := [(3, .int (nI 0)), (2, .int (nI 0)), (0, .ref (ad 33)), (1, .int p1)]) S.1 S.2.1 dX6_entriesTo_3 rfl hl1 (by decide) rfl (fun ls2 hl2 => ?_)
  have lp3 : ∀ (n3 : Nat) (q33 : Nat) (x3_2 : Int32), q33 ≤ 8 → 8 - q33 < n3 → ∀ (ls : Array Slot), lv_has ls 4 [(3, .int (nI q33)), (2, .int x3_2), (0, .ref (ad 33)), (1, .int p1)] → W p l e { frames := 0, cells := 0, slots := 0, locals := 0 } s m args below meth c s.heap [] 0 0 Q (F0 m 4 ls []) := by
    intro n3
    induction n3 with
    | zero =>
      intro q33 x3_2 iv3_0 hm3 ls3 hl3
      exact absurd hm3 (Nat.not_lt_zero _)
    | succ n3 ih3 =>
      intro q33 x3_2 iv3_0 hm3 ls3 hl3
      refine lv_iload_n S.1 S.2.1 dX6_entriesTo_4 rfl (lv_at hl3 0 rfl) ?_
      refine lv_bipush (v := (nI 8)) S.1 S.2.1 dX6_entriesTo_5 (by decide +kernel) ?_
      refine lv_icmp_ge (tgt := 33) S.1 S.2.1 dX6_entriesTo_7 (by decide) (fun c4 => ?_) (fun c4 => ?_)
      · skip
        have k5 := ci_le (nI_toInt (n := 8) (by omega)) (nI_toInt (n := q33) (by omega)) c4
        refine lv_iload_n S.1 S.2.1 dX6_entriesTo_33 rfl (lv_at hl3 1 rfl) ?_
        exact hret 34 _ _ dX6_entriesTo_34 rfl (trivial)
      have k6 := ci_nle (nI_toInt (n := 8) (by omega)) (nI_toInt (n := q33) (by omega)) c4
      refine lv_aload_n S.1 S.2.1 dX6_entriesTo_10 rfl (lv_at hl3 2 rfl) ?_
      obtain ⟨k7, hF7, hk7⟩ := wt_ways hW
      refine r_get S hK hP 33 (by decide) hF7 (C := RX6) (T := TX6) (N := 6) hiX6 rfl 3 (by decide) (by decide +kernel) (v := .ref (ad 36)) rfl dX6_entriesTo_11 ?_
      refine lv_iload_n S.1 S.2.1 dX6_entriesTo_14 rfl (lv_at hl3 0 rfl) ?_
      obtain ⟨g8, hF8, hg8⟩ := wt_I hW (show (36, 8) ∈ rLI by decide)
      refine r_iald S hK hP 36 (by decide) hF8 (vp_in_nI (show q33 < 8 by omega) (by omega)) dX6_entriesTo_15 ?_
      refine lv_topi (fun v10 e10 => ?_)
      refine lv_iload_n S.1 S.2.1 dX6_entriesTo_16 rfl (lv_at hl3 3 rfl) ?_
      refine lv_iand S.1 S.2.1 dX6_entriesTo_17 ?_
      refine lv_topi (fun v11 e11 => ?_)
      refine lv_if_eq (tgt := 27) S.1 S.2.1 dX6_entriesTo_18 (by decide) (fun c12 => ?_) (fun c12 => ?_)
      · skip
        have k13 := ci_eq rfl z_ti c12
        refine lv_iinc (v := (nI (q33 + 1))) (lv' := [(3, .int (nI (q33 + 1))), (2, .int x3_2), (0, .ref (ad 33)), (1, .int p1)]) S.1 S.2.1 dX6_entriesTo_27 hl3 (k := 0) rfl (nI_add _ 1) (by decide) rfl (fun ls14 hl14 => ?_)
        refine lv_goto (tgt := 4) S.1 S.2.1 dX6_entriesTo_30 (by decide) ?_
        exact ih3 (q33 + 1) (x3_2) (by omega) (by omega) ls14 (lv_sub hl14 [0, 1, 2, 3] rfl)
      have k15 := ci_ne rfl z_ti c12
      refine lv_iload_n S.1 S.2.1 dX6_entriesTo_21 rfl (lv_at hl3 1 rfl) ?_
      refine lv_iconst (v := (nI 1)) S.1 S.2.1 dX6_entriesTo_22 (by decide +kernel) ?_
      refine lv_iload_n S.1 S.2.1 dX6_entriesTo_23 rfl (lv_at hl3 0 rfl) ?_
      refine lv_ishl S.1 S.2.1 dX6_entriesTo_24 ?_
      refine lv_topi (fun v16 e16 => ?_)
      refine lv_ior S.1 S.2.1 dX6_entriesTo_25 ?_
      refine lv_topi (fun v17 e17 => ?_)
      refine lv_istore_n (lv' := [(2, .int v17), (3, .int (nI q33)), (0, .ref (ad 33)), (1, .int p1)]) S.1 S.2.1 dX6_entriesTo_26 rfl hl3 (by decide) rfl (fun ls18 hl18 => ?_)
      refine lv_iinc (v := (nI (q33 + 1))) (lv' := [(3, .int (nI (q33 + 1))), (2, .int v17), (0, .ref (ad 33)), (1, .int p1)]) S.1 S.2.1 dX6_entriesTo_27 hl18 (k := 1) rfl (nI_add _ 1) (by decide) rfl (fun ls19 hl19 => ?_)
      refine lv_goto (tgt := 4) S.1 S.2.1 dX6_entriesTo_30 (by decide) ?_
      exact ih3 (q33 + 1) (v17) (by omega) (by omega) ls19 (lv_sub hl19 [0, 1, 2, 3] rfl)
  exact lp3 (8 - (0) + 1) (0) ((nI 0)) (by omega) (by omega) ls2 (lv_sub hl2 [0, 1, 2, 3] rfl)
set_option maxHeartbeats 4000000 in
set_option maxRecDepth 100000 in
theorem c_X6_townsAt (l : Launch) (D : va_G) (cA ad : Nat → Nat) (t : Nat) (hI : rI ad) (F : Nat → va_E) (hW : WT cA ad F) (m1 : Nat) (hm1 : m1 ≤ 48) : MP l D cA ad t yX6_townsAt wsX6_townsAt { frames := 0, cells := 0, slots := 0, locals := 0 } [.ref (ad 33), .int (nI m1)] F (fun r => True) := by
  refine en_P rfl (by decide +kernel) (Nat.le_of_ble_eq_true rfl) ?_
  intro p e s m args below meth c ls0 Q S hK hZ hP hS hl0 hret
  have hl0 : lv_has ls0 4 [(0, .ref (ad 33)), (1, .int (nI m1))] := hl0
  have hiX6 : ∀ w ∈ u_ws RX6 TX6 6, w ∈ wsX6_townsAt := by decide +kernel
  refine lv_iconst (v := (nI 0)) S.1 S.2.1 dX6_townsAt_0 (by decide +kernel) ?_
  refine lv_istore_n (lv' := [(2, .int (nI 0)), (0, .ref (ad 33)), (1, .int (nI m1))]) S.1 S.2.1 dX6_townsAt_1 rfl hl0 (by decide) rfl (fun ls1 hl1 => ?_)
  refine lv_iconst (v := (nI 0)) S.1 S.2.1 dX6_townsAt_2 (by decide +kernel) ?_
  refine lv_istore_n (lv' := [(3, .int (nI 0)), (2, .int (nI 0)), (0, .ref (ad 33)), (1, .int (nI m1))]) S.1 S.2.1 dX6_townsAt_3 rfl hl1 (by decide) rfl (fun ls2 hl2 => ?_)
  have lp3 : ∀ (n3 : Nat) (q33 : Nat) (x3_2 : Int32), q33 ≤ 5 → 5 - q33 < n3 → ∀ (ls : Array Slot), lv_has ls 4 [(3, .int (nI q33)), (2, .int x3_2), (0, .ref (ad 33)), (1, .int (nI m1))] → W p l e { frames := 0, cells := 0, slots := 0, locals := 0 } s m args below meth c s.heap [] 0 0 Q (F0 m 4 ls []) := by
    intro n3
    induction n3 with
    | zero =>
      intro q33 x3_2 iv3_0 hm3 ls3 hl3
      exact absurd hm3 (Nat.not_lt_zero _)
    | succ n3 ih3 =>
      intro q33 x3_2 iv3_0 hm3 ls3 hl3
      refine lv_iload_n S.1 S.2.1 dX6_townsAt_4 rfl (lv_at hl3 0 rfl) ?_
      refine lv_iconst (v := (nI 5)) S.1 S.2.1 dX6_townsAt_5 (by decide +kernel) ?_
      refine lv_icmp_ge (tgt := 39) S.1 S.2.1 dX6_townsAt_6 (by decide) (fun c4 => ?_) (fun c4 => ?_)
      · skip
        have k5 := ci_le (nI_toInt (n := 5) (by omega)) (nI_toInt (n := q33) (by omega)) c4
        refine lv_iload_n S.1 S.2.1 dX6_townsAt_39 rfl (lv_at hl3 1 rfl) ?_
        exact hret 40 _ _ dX6_townsAt_40 rfl (trivial)
      have k6 := ci_nle (nI_toInt (n := 5) (by omega)) (nI_toInt (n := q33) (by omega)) c4
      refine lv_iload_n S.1 S.2.1 dX6_townsAt_9 rfl (lv_at hl3 1 rfl) ?_
      refine lv_aload_n S.1 S.2.1 dX6_townsAt_10 rfl (lv_at hl3 2 rfl) ?_
      obtain ⟨k7, hF7, hk7⟩ := wt_ways hW
      refine r_get S hK hP 33 (by decide) hF7 (C := RX6) (T := TX6) (N := 6) hiX6 rfl 4 (by decide) (by decide +kernel) (v := .ref (ad 37)) rfl dX6_townsAt_11 ?_
      refine lv_iload_n S.1 S.2.1 dX6_townsAt_14 rfl (lv_at hl3 3 rfl) ?_
      refine lv_iconst (v := (nI 5)) S.1 S.2.1 dX6_townsAt_15 (by decide +kernel) ?_
      refine lv_imul S.1 S.2.1 dX6_townsAt_16 ?_
      refine lv_topi (fun v8 e8 => ?_)
      obtain rfl : v8 = nI (m1 * 5) := e8.trans (pk_mul _ _)
      refine lv_iload_n S.1 S.2.1 dX6_townsAt_17 rfl (lv_at hl3 0 rfl) ?_
      refine lv_iadd S.1 S.2.1 dX6_townsAt_18 ?_
      refine lv_topi (fun v9 e9 => ?_)
      obtain rfl : v9 = nI ((m1 * 5) + q33) := e9.trans (nI_add _ _)
      obtain ⟨g10, hF10, hg10⟩ := wt_I hW (show (37, 245) ∈ rLI by decide)
      refine r_iald S hK hP 37 (by decide) hF10 (vp_in_nI (show (m1 * 5) + q33 < 245 by omega) (by omega)) dX6_townsAt_19 ?_
      refine lv_topi (fun v12 e12 => ?_)
      refine lv_aload_n S.1 S.2.1 dX6_townsAt_20 rfl (lv_at hl3 2 rfl) ?_
      refine r_get S hK hP 33 (by decide) hF7 (C := RX6) (T := TX6) (N := 6) hiX6 rfl 5 (by decide) (by decide +kernel) (v := .ref (ad 38)) rfl dX6_townsAt_21 ?_
      refine lv_iload_n S.1 S.2.1 dX6_townsAt_24 rfl (lv_at hl3 3 rfl) ?_
      refine lv_iconst (v := (nI 5)) S.1 S.2.1 dX6_townsAt_25 (by decide +kernel) ?_
      refine lv_imul S.1 S.2.1 dX6_townsAt_26 ?_
      refine lv_topi (fun v13 e13 => ?_)
      obtain rfl : v13 = nI (m1 * 5) := e13.trans (pk_mul _ _)
      refine lv_iload_n S.1 S.2.1 dX6_townsAt_27 rfl (lv_at hl3 0 rfl) ?_
      refine lv_iadd S.1 S.2.1 dX6_townsAt_28 ?_
      refine lv_topi (fun v14 e14 => ?_)
      obtain rfl : v14 = nI ((m1 * 5) + q33) := e14.trans (nI_add _ _)
      obtain ⟨g15, hF15, hg15⟩ := wt_I hW (show (38, 245) ∈ rLI by decide)
      refine r_iald S hK hP 38 (by decide) hF15 (vp_in_nI (show (m1 * 5) + q33 < 245 by omega) (by omega)) dX6_townsAt_29 ?_
      refine lv_topi (fun v17 e17 => ?_)
      refine lv_iand S.1 S.2.1 dX6_townsAt_30 ?_
      refine lv_topi (fun v18 e18 => ?_)
      refine lv_ior S.1 S.2.1 dX6_townsAt_31 ?_
      refine lv_topi (fun v19 e19 => ?_)
      refine lv_istore_n (lv' := [(2, .int v19), (3, .int (nI q33)), (0, .ref (ad 33)), (1, .int (nI m1))]) S.1 S.2.1 dX6_townsAt_32 rfl hl3 (by decide) rfl (fun ls20 hl20 => ?_)
      refine lv_iinc (v := (nI (q33 + 1))) (lv' := [(3, .int (nI (q33 + 1))), (2, .int v19), (0, .ref (ad 33)), (1, .int (nI m1))]) S.1 S.2.1 dX6_townsAt_33 hl20 (k := 1) rfl (nI_add _ 1) (by decide) rfl (fun ls21 hl21 => ?_)
      refine lv_goto (tgt := 4) S.1 S.2.1 dX6_townsAt_36 (by decide) ?_
      exact ih3 (q33 + 1) (v19) (by omega) (by omega) ls21 (lv_sub hl21 [0, 1, 2, 3] rfl)
  exact lp3 (5 - (0) + 1) (0) ((nI 0)) (by omega) (by omega) ls2 (lv_sub hl2 [0, 1, 2, 3] rfl)
set_option maxHeartbeats 4000000 in
set_option maxRecDepth 100000 in
theorem c_X6_sweepAhead (l : Launch) (D : va_G) (cA ad : Nat → Nat) (t : Nat) (hI : rI ad) (F : Nat → va_E) (hW : WT cA ad F) (rc : Nat) (hrc : isC rc) (p2 : Int32) : MV l D cA ad t yX6_sweepAhead wsX6_sweepAhead { frames := 3, cells := 0, slots := 0, locals := 69 } [.ref (ad 33), .ref (ad rc), .int p2] F (fun F' => WT cA ad F' ∧ rFr [36, 37] F F' ∧ (True)) := by
  refine en_V rfl (by decide +kernel) (Nat.le_of_ble_eq_true rfl) ?_
  intro p e s m args below meth c ls0 Q S hK hZ hP hS hl0 hret
  have hl0 : lv_has ls0 8 [(0, .ref (ad 33)), (1, .ref (ad rc)), (2, .int p2)] := hl0
  have hFr : rFr [36, 37] F F := rFr.rf
  have hiX0 : ∀ w ∈ u_ws RX0 TX0 10, w ∈ wsX6_sweepAhead := by decide +kernel
  have hiX6 : ∀ w ∈ u_ws RX6 TX6 6, w ∈ wsX6_sweepAhead := by decide +kernel
  refine lv_aload_n S.1 S.2.1 dX6_sweepAhead_0 rfl (lv_at hl0 1 rfl) ?_
  refine lv_aload_n S.1 S.2.1 dX6_sweepAhead_1 rfl (lv_at hl0 0 rfl) ?_
  obtain ⟨k1, hF1, hk1⟩ := wt_ways hW
  refine r_get S hK hP 33 (by decide) hF1 (C := RX6) (T := TX6) (N := 6) hiX6 rfl 3 (by decide) (by decide +kernel) (v := .ref (ad 36)) rfl dX6_sweepAhead_2 ?_
  refine lv_iconst (v := (nI 0)) S.1 S.2.1 dX6_sweepAhead_5 (by decide +kernel) ?_
  obtain ⟨sl3, fm3, tn3, rn3, bn3, hF3, hb3_1, hb3_2, hb3_3⟩ := wt_C hW hrc
  refine r_cVv (As := [.ref (ad 36), .int (nI 0)]) (rest := []) S hK hZ hP hS hl0.1 rc (lt_C hrc) hF3 (C := RX0) rfl (c_X0_fillExits l D cA ad t hI F hW rc hrc 36 (show (36, 8) ∈ rLI by decide) (by decide) (nI 0)) (cwV 2 S.2.2.2.2 gX6_sweepAhead_X0_fillExits rfl rfl rfl (by decide +kernel) ⟨Nat.le_of_ble_eq_true rfl, Nat.le_of_ble_eq_true rfl⟩) rfl rfl (Nat.le_of_ble_eq_true rfl) ⟨Nat.zero_le _, Nat.zero_le _⟩ dX6_sweepAhead_6 (fun F2 H2 locs2 hr2 hP2 hS2 => ?_)
  obtain ⟨hW2, hFc2, hr2⟩ := hr2
  have hFr2 := hFr.tr hFc2 (by simp <;> first | omega | (simp only [isC, isJ] at *; omega))
  refine lv_iconst (v := (nI 0)) S.1 S.2.1 dX6_sweepAhead_9 (by decide +kernel) ?_
  refine lv_istore_n (lv' := [(3, .int (nI 0)), (0, .ref (ad 33)), (1, .ref (ad rc)), (2, .int p2)]) S.1 S.2.1 dX6_sweepAhead_10 rfl hl0 (by decide) rfl (fun ls4 hl4 => ?_)
  have lp5 : ∀ (n5 : Nat) (q35 : Nat), ∀ (Fl5 : Nat → va_E) (Hl5 : Heap) (lol5 : List Loc), q35 ≤ 5 → 5 - q35 < n5 → WT cA ad Fl5 → rFr [36, 37] F Fl5 → va_P D vwCl (rW ad Fl5) Hl5 → va_S (rA ad) s.heap Hl5 lol5 → ∀ (ls : Array Slot), lv_has ls 8 [(3, .int (nI q35)), (0, .ref (ad 33)), (1, .ref (ad rc)), (2, .int p2)] → W p l e { frames := 3, cells := 0, slots := 0, locals := 69 } s m args below meth c Hl5 lol5 0 0 Q (F0 m 11 ls []) := by
    intro n5
    induction n5 with
    | zero =>
      intro q35 Fl5 Hl5 lol5 iv5_0 hm5 hWl5 hFl5 hPl5 hSl5 ls5 hl5
      exact absurd hm5 (Nat.not_lt_zero _)
    | succ n5 ih5 =>
      intro q35 Fl5 Hl5 lol5 iv5_0 hm5 hWl5 hFl5 hPl5 hSl5 ls5 hl5
      refine lv_iload_n S.1 S.2.1 dX6_sweepAhead_11 rfl (lv_at hl5 0 rfl) ?_
      refine lv_iconst (v := (nI 5)) S.1 S.2.1 dX6_sweepAhead_12 (by decide +kernel) ?_
      refine lv_icmp_ge (tgt := 44) S.1 S.2.1 dX6_sweepAhead_13 (by decide) (fun c6 => ?_) (fun c6 => ?_)
      · skip
        have k7 := ci_le (nI_toInt (n := 5) (by omega)) (nI_toInt (n := q35) (by omega)) c6
        refine lv_iconst (v := (nI 0)) S.1 S.2.1 dX6_sweepAhead_44 (by decide +kernel) ?_
        refine lv_istore_n (lv' := [(3, .int (nI 0)), (0, .ref (ad 33)), (1, .ref (ad rc)), (2, .int p2)]) S.1 S.2.1 dX6_sweepAhead_45 rfl hl5 (by decide) rfl (fun ls8 hl8 => ?_)
        have lp9 : ∀ (n9 : Nat) (q39 : Nat), ∀ (Fl9 : Nat → va_E) (Hl9 : Heap) (lol9 : List Loc), q39 ≤ 48 → 48 - q39 < n9 → WT cA ad Fl9 → rFr [36, 37] F Fl9 → va_P D vwCl (rW ad Fl9) Hl9 → va_S (rA ad) s.heap Hl9 lol9 → ∀ (ls : Array Slot), lv_has ls 8 [(3, .int (nI q39)), (0, .ref (ad 33)), (1, .ref (ad rc)), (2, .int p2)] → W p l e { frames := 3, cells := 0, slots := 0, locals := 69 } s m args below meth c Hl9 lol9 0 0 Q (F0 m 46 ls []) := by
          intro n9
          induction n9 with
          | zero =>
            intro q39 Fl9 Hl9 lol9 iv9_0 hm9 hWl9 hFl9 hPl9 hSl9 ls9 hl9
            exact absurd hm9 (Nat.not_lt_zero _)
          | succ n9 ih9 =>
            intro q39 Fl9 Hl9 lol9 iv9_0 hm9 hWl9 hFl9 hPl9 hSl9 ls9 hl9
            refine lv_iload_n S.1 S.2.1 dX6_sweepAhead_46 rfl (lv_at hl9 0 rfl) ?_
            refine lv_bipush (v := (nI 48)) S.1 S.2.1 dX6_sweepAhead_47 (by decide +kernel) ?_
            refine lv_icmp_ge (tgt := 166) S.1 S.2.1 dX6_sweepAhead_49 (by decide) (fun c10 => ?_) (fun c10 => ?_)
            · skip
              have k11 := ci_le (nI_toInt (n := 48) (by omega)) (nI_toInt (n := q39) (by omega)) c10
              exact hret 166 _ _ _ _ dX6_sweepAhead_166 hPl9 hSl9 ⟨hWl9, hFl9, trivial⟩
            have k12 := ci_nle (nI_toInt (n := 48) (by omega)) (nI_toInt (n := q39) (by omega)) c10
            refine lv_iload_n S.1 S.2.1 dX6_sweepAhead_52 rfl (lv_at hl9 0 rfl) ?_
            refine lv_iconst (v := (nI 5)) S.1 S.2.1 dX6_sweepAhead_53 (by decide +kernel) ?_
            refine lv_imul S.1 S.2.1 dX6_sweepAhead_54 ?_
            refine lv_topi (fun v13 e13 => ?_)
            obtain rfl : v13 = nI (q39 * 5) := e13.trans (pk_mul _ _)
            refine lv_istore (lv' := [(4, .int (nI (q39 * 5))), (3, .int (nI q39)), (0, .ref (ad 33)), (1, .ref (ad rc)), (2, .int p2)]) S.1 S.2.1 dX6_sweepAhead_55 hl9 (by decide) rfl (fun ls14 hl14 => ?_)
            refine lv_iload S.1 S.2.1 dX6_sweepAhead_57 (lv_at hl14 0 rfl) ?_
            refine lv_iconst (v := (nI 5)) S.1 S.2.1 dX6_sweepAhead_59 (by decide +kernel) ?_
            refine lv_iadd S.1 S.2.1 dX6_sweepAhead_60 ?_
            refine lv_topi (fun v15 e15 => ?_)
            obtain rfl : v15 = nI ((q39 * 5) + 5) := e15.trans (nI_add _ _)
            refine lv_istore (lv' := [(5, .int (nI ((q39 * 5) + 5))), (4, .int (nI (q39 * 5))), (3, .int (nI q39)), (0, .ref (ad 33)), (1, .ref (ad rc)), (2, .int p2)]) S.1 S.2.1 dX6_sweepAhead_61 hl14 (by decide) rfl (fun ls16 hl16 => ?_)
            refine lv_aload_n S.1 S.2.1 dX6_sweepAhead_63 rfl (lv_at hl16 3 rfl) ?_
            refine lv_aload_n S.1 S.2.1 dX6_sweepAhead_64 rfl (lv_at hl16 4 rfl) ?_
            refine lv_iload_n S.1 S.2.1 dX6_sweepAhead_65 rfl (lv_at hl16 2 rfl) ?_
            refine lv_iload_n S.1 S.2.1 dX6_sweepAhead_66 rfl (lv_at hl16 5 rfl) ?_
            obtain ⟨k18, hF18, hk18⟩ := wt_ways hWl9
            refine r_cVp (As := [.ref (ad rc), .int (nI q39), .int p2]) (rest := []) S hK hZ hPl9 hSl9 hl16.1 33 (by decide) hF18 (C := RX6) rfl (c_X6_staysIn l D cA ad t hI Fl9 hWl9 rc hrc (nI q39) p2) (cwV 3 S.2.2.2.2 gX6_sweepAhead_X6_staysIn rfl rfl rfl (by decide +kernel) ⟨Nat.le_of_ble_eq_true rfl, Nat.le_of_ble_eq_true rfl⟩) rfl rfl (Nat.le_of_ble_eq_true rfl) ⟨Nat.zero_le _, Nat.zero_le _⟩ dX6_sweepAhead_67 (fun r17 hr17 => ?_)
            refine lv_istore (lv' := [(6, .int r17), (5, .int (nI ((q39 * 5) + 5))), (4, .int (nI (q39 * 5))), (3, .int (nI q39)), (0, .ref (ad 33)), (1, .ref (ad rc)), (2, .int p2)]) S.1 S.2.1 dX6_sweepAhead_70 hl16 (by decide) rfl (fun ls19 hl19 => ?_)
            refine lv_aload_n S.1 S.2.1 dX6_sweepAhead_72 rfl (lv_at hl19 4 rfl) ?_
            refine r_get S hK hPl9 33 (by decide) hF18 (C := RX6) (T := TX6) (N := 6) hiX6 rfl 4 (by decide) (by decide +kernel) (v := .ref (ad 37)) rfl dX6_sweepAhead_73 ?_
            refine lv_iload S.1 S.2.1 dX6_sweepAhead_76 (lv_at hl19 1 rfl) ?_
            refine lv_aload_n S.1 S.2.1 dX6_sweepAhead_78 rfl (lv_at hl19 4 rfl) ?_
            refine lv_iload_n S.1 S.2.1 dX6_sweepAhead_79 rfl (lv_at hl19 3 rfl) ?_
            refine lv_iload_n S.1 S.2.1 dX6_sweepAhead_80 rfl (lv_at hl19 6 rfl) ?_
            refine r_cVp (As := [.int (nI q39), .int p2]) (rest := [.int (nI ((q39 * 5) + 5)), .ref (ad 37)]) S hK hZ hPl9 hSl9 hl19.1 33 (by decide) hF18 (C := RX6) rfl (c_X6_isTold l D cA ad t hI Fl9 hWl9 (nI q39) p2) (cwV 2 S.2.2.2.2 gX6_sweepAhead_X6_isTold rfl rfl rfl (by decide +kernel) ⟨Nat.le_of_ble_eq_true rfl, Nat.le_of_ble_eq_true rfl⟩) rfl rfl (Nat.le_of_ble_eq_true rfl) ⟨Nat.zero_le _, Nat.zero_le _⟩ dX6_sweepAhead_81 (fun r20 hr20 => ?_)
            obtain ⟨b21, hb21, rfl⟩ := hr20
            refine lv_if_eq (tgt := 91) S.1 S.2.1 dX6_sweepAhead_84 (by decide) (fun c22 => ?_) (fun c22 => ?_)
            · skip
              have k23 := ci_eq (nI_toInt (n := b21) (by omega)) z_ti c22
              refine lv_aload_n S.1 S.2.1 dX6_sweepAhead_91 rfl (lv_at hl19 4 rfl) ?_
              refine r_get S hK hPl9 33 (by decide) hF18 (C := RX6) (T := TX6) (N := 6) hiX6 rfl 4 (by decide) (by decide +kernel) (v := .ref (ad 37)) rfl dX6_sweepAhead_92 ?_
              refine lv_iload_n S.1 S.2.1 dX6_sweepAhead_95 rfl (lv_at hl19 3 rfl) ?_
              refine r_cSp (As := [.ref (ad 37), .int (nI q39)]) (rest := [.int (nI ((q39 * 5) + 5)), .ref (ad 37)]) S hK hZ hPl9 hSl9 hl19.1 (c_X6_union l D cA ad t hI Fl9 hWl9 37 (show (37, 245) ∈ rLI by decide) (by decide) (q39) (by omega)) (va_cwS 2 S.2.2.2.2 gX6_sweepAhead_X6_union rfl rfl rfl (by decide +kernel) ⟨Nat.le_of_ble_eq_true rfl, Nat.le_of_ble_eq_true rfl⟩) rfl rfl (Nat.le_of_ble_eq_true rfl) ⟨Nat.zero_le _, Nat.zero_le _⟩ dX6_sweepAhead_96 (fun r24 hr24 => ?_)
              refine lv_aload_n S.1 S.2.1 dX6_sweepAhead_99 rfl (lv_at hl19 4 rfl) ?_
              refine r_get S hK hPl9 33 (by decide) hF18 (C := RX6) (T := TX6) (N := 6) hiX6 rfl 3 (by decide) (by decide +kernel) (v := .ref (ad 36)) rfl dX6_sweepAhead_100 ?_
              refine r_cNp (As := [.int r24, .ref (ad 36)]) (rest := [.int (nI ((q39 * 5) + 5)), .ref (ad 37)]) S hK hZ hPl9 hSl9 hl19.1 (c_X7_exitsOf l D cA ad t hI Fl9 hWl9 r24 36 (show (36, 8) ∈ rLI by decide) (by decide)) (va_cnB 2 S.2.2.2.2 gX6_sweepAhead_X7_exitsOf_n73 rfl rfl rfl hZ.2.2.2 (S.2.2.2.2 (.initialized RX7) (by decide +kernel)) (by decide +kernel) ⟨Nat.le_of_ble_eq_true rfl, Nat.le_of_ble_eq_true rfl⟩) (S.2.2.2.2 (.static yX7_exitsOf) (by decide +kernel)) rfl rfl (Nat.le_of_ble_eq_true rfl) ⟨Nat.zero_le _, Nat.zero_le _⟩ dX6_sweepAhead_103 (fun r25 hr25 => ?_)
              obtain ⟨g26, hF26, hg26⟩ := wt_I hWl9 (show (37, 245) ∈ rLI by decide)
              refine r_iast S hI hK hPl9 hSl9 37 (by decide) hF26 (vp_in_nI (show (q39 * 5) + 5 < 245 by omega) (by omega)) dX6_sweepAhead_106 (fun F27 H27 locs27 eF27 hP27 hS27 => ?_)
              have hW27 := hWl9.up eF27 (ok_I (show (37, 245) ∈ rLI by decide) (okI_up hg26 (pr_of (by decide))))
              have hFr27 := hFl9.up eF27 (by simp <;> first | omega | (simp only [isC, isJ] at *; omega))
              refine lv_iconst (v := (nI 1)) S.1 S.2.1 dX6_sweepAhead_107 (by decide +kernel) ?_
              refine lv_istore (lv' := [(7, .int (nI 1)), (6, .int r17), (5, .int (nI ((q39 * 5) + 5))), (4, .int (nI (q39 * 5))), (3, .int (nI q39)), (0, .ref (ad 33)), (1, .ref (ad rc)), (2, .int p2)]) S.1 S.2.1 dX6_sweepAhead_108 hl19 (by decide) rfl (fun ls28 hl28 => ?_)
              have lp29 : ∀ (n29 : Nat) (q729 : Nat), ∀ (Fl29 : Nat → va_E) (Hl29 : Heap) (lol29 : List Loc), 1 ≤ q729 ∧ q729 ≤ 5 → 5 - q729 < n29 → WT cA ad Fl29 → rFr [36, 37] F Fl29 → va_P D vwCl (rW ad Fl29) Hl29 → va_S (rA ad) s.heap Hl29 lol29 → ∀ (ls : Array Slot), lv_has ls 8 [(7, .int (nI q729)), (6, .int r17), (5, .int (nI ((q39 * 5) + 5))), (4, .int (nI (q39 * 5))), (3, .int (nI q39)), (0, .ref (ad 33)), (1, .ref (ad rc)), (2, .int p2)] → W p l e { frames := 3, cells := 0, slots := 0, locals := 69 } s m args below meth c Hl29 lol29 0 0 Q (F0 m 110 ls []) := by
                intro n29
                induction n29 with
                | zero =>
                  intro q729 Fl29 Hl29 lol29 iv29_0 hm29 hWl29 hFl29 hPl29 hSl29 ls29 hl29
                  exact absurd hm29 (Nat.not_lt_zero _)
                | succ n29 ih29 =>
                  intro q729 Fl29 Hl29 lol29 iv29_0 hm29 hWl29 hFl29 hPl29 hSl29 ls29 hl29
                  refine lv_iload S.1 S.2.1 dX6_sweepAhead_110 (lv_at hl29 0 rfl) ?_
                  refine lv_iconst (v := (nI 5)) S.1 S.2.1 dX6_sweepAhead_112 (by decide +kernel) ?_
                  refine lv_icmp_ge (tgt := 160) S.1 S.2.1 dX6_sweepAhead_113 (by decide) (fun c30 => ?_) (fun c30 => ?_)
                  · skip
                    have k31 := ci_le (nI_toInt (n := 5) (by omega)) (nI_toInt (n := q729) (by omega)) c30
                    refine lv_iinc (v := (nI (q39 + 1))) (lv' := [(3, .int (nI (q39 + 1))), (7, .int (nI q729)), (6, .int r17), (5, .int (nI ((q39 * 5) + 5))), (4, .int (nI (q39 * 5))), (0, .ref (ad 33)), (1, .ref (ad rc)), (2, .int p2)]) S.1 S.2.1 dX6_sweepAhead_160 hl29 (k := 4) rfl (nI_add _ 1) (by decide) rfl (fun ls32 hl32 => ?_)
                    refine lv_goto (tgt := 46) S.1 S.2.1 dX6_sweepAhead_163 (by decide) ?_
                    exact ih9 (q39 + 1) Fl29 Hl29 lol29 (by omega) (by omega) hWl29 hFl29 hPl29 hSl29 ls32 (lv_sub hl32 [0, 5, 6, 7] rfl)
                  have k33 := ci_nle (nI_toInt (n := 5) (by omega)) (nI_toInt (n := q729) (by omega)) c30
                  refine lv_aload_n S.1 S.2.1 dX6_sweepAhead_116 rfl (lv_at hl29 5 rfl) ?_
                  obtain ⟨k34, hF34, hk34⟩ := wt_ways hWl29
                  refine r_get S hK hPl29 33 (by decide) hF34 (C := RX6) (T := TX6) (N := 6) hiX6 rfl 4 (by decide) (by decide +kernel) (v := .ref (ad 37)) rfl dX6_sweepAhead_117 ?_
                  refine lv_iload S.1 S.2.1 dX6_sweepAhead_120 (lv_at hl29 2 rfl) ?_
                  refine lv_iload S.1 S.2.1 dX6_sweepAhead_122 (lv_at hl29 0 rfl) ?_
                  refine lv_iadd S.1 S.2.1 dX6_sweepAhead_124 ?_
                  refine lv_topi (fun v35 e35 => ?_)
                  obtain rfl : v35 = nI (((q39 * 5) + 5) + q729) := e35.trans (nI_add _ _)
                  refine lv_iload S.1 S.2.1 dX6_sweepAhead_125 (lv_at hl29 0 rfl) ?_
                  refine lv_aload_n S.1 S.2.1 dX6_sweepAhead_127 rfl (lv_at hl29 6 rfl) ?_
                  obtain ⟨sl36, fm36, tn36, rn36, bn36, hF36, hb36_1, hb36_2, hb36_3⟩ := wt_C hWl29 hrc
                  refine r_get S hK hPl29 rc (lt_C hrc) hF36 (C := RX0) (T := TX0) (N := 10) hiX0 rfl 0 (by decide) (by decide +kernel) (v := .int (nI sl36)) rfl dX6_sweepAhead_128 ?_
                  refine lv_icmp_gt (tgt := 152) S.1 S.2.1 dX6_sweepAhead_131 (by decide) (fun c37 => ?_) (fun c37 => ?_)
                  · skip
                    have k38 := ci_lt (nI_toInt (n := sl36) (by omega)) (nI_toInt (n := q729) (by omega)) c37
                    refine lv_iconst (v := (nI 0)) S.1 S.2.1 dX6_sweepAhead_152 (by decide +kernel) ?_
                    obtain ⟨g39, hF39, hg39⟩ := wt_I hWl29 (show (37, 245) ∈ rLI by decide)
                    refine r_iast S hI hK hPl29 hSl29 37 (by decide) hF39 (vp_in_nI (show ((q39 * 5) + 5) + q729 < 245 by omega) (by omega)) dX6_sweepAhead_153 (fun F40 H40 locs40 eF40 hP40 hS40 => ?_)
                    have hW40 := hWl29.up eF40 (ok_I (show (37, 245) ∈ rLI by decide) (okI_up hg39 (pr_of (by decide))))
                    have hFr40 := hFl29.up eF40 (by simp <;> first | omega | (simp only [isC, isJ] at *; omega))
                    refine lv_iinc (v := (nI (q729 + 1))) (lv' := [(7, .int (nI (q729 + 1))), (6, .int r17), (5, .int (nI ((q39 * 5) + 5))), (4, .int (nI (q39 * 5))), (3, .int (nI q39)), (0, .ref (ad 33)), (1, .ref (ad rc)), (2, .int p2)]) S.1 S.2.1 dX6_sweepAhead_154 hl29 (k := 0) rfl (nI_add _ 1) (by decide) rfl (fun ls41 hl41 => ?_)
                    refine lv_goto (tgt := 110) S.1 S.2.1 dX6_sweepAhead_157 (by decide) ?_
                    exact ih29 (q729 + 1) F40 H40 locs40 (by omega) (by omega) hW40 hFr40 hP40 hS40 ls41 (lv_sub hl41 [0, 1, 2, 3, 4, 5, 6, 7] rfl)
                  have k42 := ci_nlt (nI_toInt (n := sl36) (by omega)) (nI_toInt (n := q729) (by omega)) c37
                  refine lv_aload_n S.1 S.2.1 dX6_sweepAhead_134 rfl (lv_at hl29 5 rfl) ?_
                  refine r_get S hK hPl29 33 (by decide) hF34 (C := RX6) (T := TX6) (N := 6) hiX6 rfl 4 (by decide) (by decide +kernel) (v := .ref (ad 37)) rfl dX6_sweepAhead_135 ?_
                  refine lv_iload S.1 S.2.1 dX6_sweepAhead_138 (lv_at hl29 3 rfl) ?_
                  refine lv_iload S.1 S.2.1 dX6_sweepAhead_140 (lv_at hl29 0 rfl) ?_
                  refine lv_iadd S.1 S.2.1 dX6_sweepAhead_142 ?_
                  refine lv_topi (fun v43 e43 => ?_)
                  obtain rfl : v43 = nI ((q39 * 5) + q729) := e43.trans (nI_add _ _)
                  refine lv_iconst (v := (nI 1)) S.1 S.2.1 dX6_sweepAhead_143 (by decide +kernel) ?_
                  refine lv_isub S.1 S.2.1 dX6_sweepAhead_144 ?_
                  refine lv_topi (fun v44 e44 => ?_)
                  obtain rfl : v44 = nI (((q39 * 5) + q729) - 1) := e44.trans (pk_sub (by omega))
                  obtain ⟨g45, hF45, hg45⟩ := wt_I hWl29 (show (37, 245) ∈ rLI by decide)
                  refine r_iald S hK hPl29 37 (by decide) hF45 (vp_in_nI (show ((q39 * 5) + q729) - 1 < 245 by omega) (by omega)) dX6_sweepAhead_145 ?_
                  refine lv_topi (fun v47 e47 => ?_)
                  refine lv_iload S.1 S.2.1 dX6_sweepAhead_146 (lv_at hl29 1 rfl) ?_
                  refine lv_iand S.1 S.2.1 dX6_sweepAhead_148 ?_
                  refine lv_topi (fun v48 e48 => ?_)
                  refine lv_goto (tgt := 153) S.1 S.2.1 dX6_sweepAhead_149 (by decide) ?_
                  refine r_iast S hI hK hPl29 hSl29 37 (by decide) hF45 (vp_in_nI (show ((q39 * 5) + 5) + q729 < 245 by omega) (by omega)) dX6_sweepAhead_153 (fun F49 H49 locs49 eF49 hP49 hS49 => ?_)
                  have hW49 := hWl29.up eF49 (ok_I (show (37, 245) ∈ rLI by decide) (okI_up hg45 (pr_of (by decide))))
                  have hFr49 := hFl29.up eF49 (by simp <;> first | omega | (simp only [isC, isJ] at *; omega))
                  refine lv_iinc (v := (nI (q729 + 1))) (lv' := [(7, .int (nI (q729 + 1))), (6, .int r17), (5, .int (nI ((q39 * 5) + 5))), (4, .int (nI (q39 * 5))), (3, .int (nI q39)), (0, .ref (ad 33)), (1, .ref (ad rc)), (2, .int p2)]) S.1 S.2.1 dX6_sweepAhead_154 hl29 (k := 0) rfl (nI_add _ 1) (by decide) rfl (fun ls50 hl50 => ?_)
                  refine lv_goto (tgt := 110) S.1 S.2.1 dX6_sweepAhead_157 (by decide) ?_
                  exact ih29 (q729 + 1) F49 H49 locs49 (by omega) (by omega) hW49 hFr49 hP49 hS49 ls50 (lv_sub hl50 [0, 1, 2, 3, 4, 5, 6, 7] rfl)
              exact lp29 (5 - (1) + 1) (1) F27 H27 locs27 (by omega) (by omega) hW27 hFr27 hP27 hS27 ls28 (lv_sub hl28 [0, 1, 2, 3, 4, 5, 6, 7] rfl)
            have k51 := ci_ne (nI_toInt (n := b21) (by omega)) z_ti c22
            refine lv_iconst (v := (nI 0)) S.1 S.2.1 dX6_sweepAhead_87 (by decide +kernel) ?_
            refine lv_goto (tgt := 106) S.1 S.2.1 dX6_sweepAhead_88 (by decide) ?_
            obtain ⟨g52, hF52, hg52⟩ := wt_I hWl9 (show (37, 245) ∈ rLI by decide)
            refine r_iast S hI hK hPl9 hSl9 37 (by decide) hF52 (vp_in_nI (show (q39 * 5) + 5 < 245 by omega) (by omega)) dX6_sweepAhead_106 (fun F53 H53 locs53 eF53 hP53 hS53 => ?_)
            have hW53 := hWl9.up eF53 (ok_I (show (37, 245) ∈ rLI by decide) (okI_up hg52 (pr_of (by decide))))
            have hFr53 := hFl9.up eF53 (by simp <;> first | omega | (simp only [isC, isJ] at *; omega))
            refine lv_iconst (v := (nI 1)) S.1 S.2.1 dX6_sweepAhead_107 (by decide +kernel) ?_
            refine lv_istore (lv' := [(7, .int (nI 1)), (6, .int r17), (5, .int (nI ((q39 * 5) + 5))), (4, .int (nI (q39 * 5))), (3, .int (nI q39)), (0, .ref (ad 33)), (1, .ref (ad rc)), (2, .int p2)]) S.1 S.2.1 dX6_sweepAhead_108 hl19 (by decide) rfl (fun ls54 hl54 => ?_)
            have lp55 : ∀ (n55 : Nat) (q755 : Nat), ∀ (Fl55 : Nat → va_E) (Hl55 : Heap) (lol55 : List Loc), 1 ≤ q755 ∧ q755 ≤ 5 → 5 - q755 < n55 → WT cA ad Fl55 → rFr [36, 37] F Fl55 → va_P D vwCl (rW ad Fl55) Hl55 → va_S (rA ad) s.heap Hl55 lol55 → ∀ (ls : Array Slot), lv_has ls 8 [(7, .int (nI q755)), (6, .int r17), (5, .int (nI ((q39 * 5) + 5))), (4, .int (nI (q39 * 5))), (3, .int (nI q39)), (0, .ref (ad 33)), (1, .ref (ad rc)), (2, .int p2)] → W p l e { frames := 3, cells := 0, slots := 0, locals := 69 } s m args below meth c Hl55 lol55 0 0 Q (F0 m 110 ls []) := by
              intro n55
              induction n55 with
              | zero =>
                intro q755 Fl55 Hl55 lol55 iv55_0 hm55 hWl55 hFl55 hPl55 hSl55 ls55 hl55
                exact absurd hm55 (Nat.not_lt_zero _)
              | succ n55 ih55 =>
                intro q755 Fl55 Hl55 lol55 iv55_0 hm55 hWl55 hFl55 hPl55 hSl55 ls55 hl55
                refine lv_iload S.1 S.2.1 dX6_sweepAhead_110 (lv_at hl55 0 rfl) ?_
                refine lv_iconst (v := (nI 5)) S.1 S.2.1 dX6_sweepAhead_112 (by decide +kernel) ?_
                refine lv_icmp_ge (tgt := 160) S.1 S.2.1 dX6_sweepAhead_113 (by decide) (fun c56 => ?_) (fun c56 => ?_)
                · skip
                  have k57 := ci_le (nI_toInt (n := 5) (by omega)) (nI_toInt (n := q755) (by omega)) c56
                  refine lv_iinc (v := (nI (q39 + 1))) (lv' := [(3, .int (nI (q39 + 1))), (7, .int (nI q755)), (6, .int r17), (5, .int (nI ((q39 * 5) + 5))), (4, .int (nI (q39 * 5))), (0, .ref (ad 33)), (1, .ref (ad rc)), (2, .int p2)]) S.1 S.2.1 dX6_sweepAhead_160 hl55 (k := 4) rfl (nI_add _ 1) (by decide) rfl (fun ls58 hl58 => ?_)
                  refine lv_goto (tgt := 46) S.1 S.2.1 dX6_sweepAhead_163 (by decide) ?_
                  exact ih9 (q39 + 1) Fl55 Hl55 lol55 (by omega) (by omega) hWl55 hFl55 hPl55 hSl55 ls58 (lv_sub hl58 [0, 5, 6, 7] rfl)
                have k59 := ci_nle (nI_toInt (n := 5) (by omega)) (nI_toInt (n := q755) (by omega)) c56
                refine lv_aload_n S.1 S.2.1 dX6_sweepAhead_116 rfl (lv_at hl55 5 rfl) ?_
                obtain ⟨k60, hF60, hk60⟩ := wt_ways hWl55
                refine r_get S hK hPl55 33 (by decide) hF60 (C := RX6) (T := TX6) (N := 6) hiX6 rfl 4 (by decide) (by decide +kernel) (v := .ref (ad 37)) rfl dX6_sweepAhead_117 ?_
                refine lv_iload S.1 S.2.1 dX6_sweepAhead_120 (lv_at hl55 2 rfl) ?_
                refine lv_iload S.1 S.2.1 dX6_sweepAhead_122 (lv_at hl55 0 rfl) ?_
                refine lv_iadd S.1 S.2.1 dX6_sweepAhead_124 ?_
                refine lv_topi (fun v61 e61 => ?_)
                obtain rfl : v61 = nI (((q39 * 5) + 5) + q755) := e61.trans (nI_add _ _)
                refine lv_iload S.1 S.2.1 dX6_sweepAhead_125 (lv_at hl55 0 rfl) ?_
                refine lv_aload_n S.1 S.2.1 dX6_sweepAhead_127 rfl (lv_at hl55 6 rfl) ?_
                obtain ⟨sl62, fm62, tn62, rn62, bn62, hF62, hb62_1, hb62_2, hb62_3⟩ := wt_C hWl55 hrc
                refine r_get S hK hPl55 rc (lt_C hrc) hF62 (C := RX0) (T := TX0) (N := 10) hiX0 rfl 0 (by decide) (by decide +kernel) (v := .int (nI sl62)) rfl dX6_sweepAhead_128 ?_
                refine lv_icmp_gt (tgt := 152) S.1 S.2.1 dX6_sweepAhead_131 (by decide) (fun c63 => ?_) (fun c63 => ?_)
                · skip
                  have k64 := ci_lt (nI_toInt (n := sl62) (by omega)) (nI_toInt (n := q755) (by omega)) c63
                  refine lv_iconst (v := (nI 0)) S.1 S.2.1 dX6_sweepAhead_152 (by decide +kernel) ?_
                  obtain ⟨g65, hF65, hg65⟩ := wt_I hWl55 (show (37, 245) ∈ rLI by decide)
                  refine r_iast S hI hK hPl55 hSl55 37 (by decide) hF65 (vp_in_nI (show ((q39 * 5) + 5) + q755 < 245 by omega) (by omega)) dX6_sweepAhead_153 (fun F66 H66 locs66 eF66 hP66 hS66 => ?_)
                  have hW66 := hWl55.up eF66 (ok_I (show (37, 245) ∈ rLI by decide) (okI_up hg65 (pr_of (by decide))))
                  have hFr66 := hFl55.up eF66 (by simp <;> first | omega | (simp only [isC, isJ] at *; omega))
                  refine lv_iinc (v := (nI (q755 + 1))) (lv' := [(7, .int (nI (q755 + 1))), (6, .int r17), (5, .int (nI ((q39 * 5) + 5))), (4, .int (nI (q39 * 5))), (3, .int (nI q39)), (0, .ref (ad 33)), (1, .ref (ad rc)), (2, .int p2)]) S.1 S.2.1 dX6_sweepAhead_154 hl55 (k := 0) rfl (nI_add _ 1) (by decide) rfl (fun ls67 hl67 => ?_)
                  refine lv_goto (tgt := 110) S.1 S.2.1 dX6_sweepAhead_157 (by decide) ?_
                  exact ih55 (q755 + 1) F66 H66 locs66 (by omega) (by omega) hW66 hFr66 hP66 hS66 ls67 (lv_sub hl67 [0, 1, 2, 3, 4, 5, 6, 7] rfl)
                have k68 := ci_nlt (nI_toInt (n := sl62) (by omega)) (nI_toInt (n := q755) (by omega)) c63
                refine lv_aload_n S.1 S.2.1 dX6_sweepAhead_134 rfl (lv_at hl55 5 rfl) ?_
                refine r_get S hK hPl55 33 (by decide) hF60 (C := RX6) (T := TX6) (N := 6) hiX6 rfl 4 (by decide) (by decide +kernel) (v := .ref (ad 37)) rfl dX6_sweepAhead_135 ?_
                refine lv_iload S.1 S.2.1 dX6_sweepAhead_138 (lv_at hl55 3 rfl) ?_
                refine lv_iload S.1 S.2.1 dX6_sweepAhead_140 (lv_at hl55 0 rfl) ?_
                refine lv_iadd S.1 S.2.1 dX6_sweepAhead_142 ?_
                refine lv_topi (fun v69 e69 => ?_)
                obtain rfl : v69 = nI ((q39 * 5) + q755) := e69.trans (nI_add _ _)
                refine lv_iconst (v := (nI 1)) S.1 S.2.1 dX6_sweepAhead_143 (by decide +kernel) ?_
                refine lv_isub S.1 S.2.1 dX6_sweepAhead_144 ?_
                refine lv_topi (fun v70 e70 => ?_)
                obtain rfl : v70 = nI (((q39 * 5) + q755) - 1) := e70.trans (pk_sub (by omega))
                obtain ⟨g71, hF71, hg71⟩ := wt_I hWl55 (show (37, 245) ∈ rLI by decide)
                refine r_iald S hK hPl55 37 (by decide) hF71 (vp_in_nI (show ((q39 * 5) + q755) - 1 < 245 by omega) (by omega)) dX6_sweepAhead_145 ?_
                refine lv_topi (fun v73 e73 => ?_)
                refine lv_iload S.1 S.2.1 dX6_sweepAhead_146 (lv_at hl55 1 rfl) ?_
                refine lv_iand S.1 S.2.1 dX6_sweepAhead_148 ?_
                refine lv_topi (fun v74 e74 => ?_)
                refine lv_goto (tgt := 153) S.1 S.2.1 dX6_sweepAhead_149 (by decide) ?_
                refine r_iast S hI hK hPl55 hSl55 37 (by decide) hF71 (vp_in_nI (show ((q39 * 5) + 5) + q755 < 245 by omega) (by omega)) dX6_sweepAhead_153 (fun F75 H75 locs75 eF75 hP75 hS75 => ?_)
                have hW75 := hWl55.up eF75 (ok_I (show (37, 245) ∈ rLI by decide) (okI_up hg71 (pr_of (by decide))))
                have hFr75 := hFl55.up eF75 (by simp <;> first | omega | (simp only [isC, isJ] at *; omega))
                refine lv_iinc (v := (nI (q755 + 1))) (lv' := [(7, .int (nI (q755 + 1))), (6, .int r17), (5, .int (nI ((q39 * 5) + 5))), (4, .int (nI (q39 * 5))), (3, .int (nI q39)), (0, .ref (ad 33)), (1, .ref (ad rc)), (2, .int p2)]) S.1 S.2.1 dX6_sweepAhead_154 hl55 (k := 0) rfl (nI_add _ 1) (by decide) rfl (fun ls76 hl76 => ?_)
                refine lv_goto (tgt := 110) S.1 S.2.1 dX6_sweepAhead_157 (by decide) ?_
                exact ih55 (q755 + 1) F75 H75 locs75 (by omega) (by omega) hW75 hFr75 hP75 hS75 ls76 (lv_sub hl76 [0, 1, 2, 3, 4, 5, 6, 7] rfl)
            exact lp55 (5 - (1) + 1) (1) F53 H53 locs53 (by omega) (by omega) hW53 hFr53 hP53 hS53 ls54 (lv_sub hl54 [0, 1, 2, 3, 4, 5, 6, 7] rfl)
        exact lp9 (48 - (0) + 1) (0) Fl5 Hl5 lol5 (by omega) (by omega) hWl5 hFl5 hPl5 hSl5 ls8 (lv_sub hl8 [0, 1, 2, 3] rfl)
      have k77 := ci_nle (nI_toInt (n := 5) (by omega)) (nI_toInt (n := q35) (by omega)) c6
      refine lv_aload_n S.1 S.2.1 dX6_sweepAhead_16 rfl (lv_at hl5 1 rfl) ?_
      obtain ⟨k78, hF78, hk78⟩ := wt_ways hWl5
      refine r_get S hK hPl5 33 (by decide) hF78 (C := RX6) (T := TX6) (N := 6) hiX6 rfl 4 (by decide) (by decide +kernel) (v := .ref (ad 37)) rfl dX6_sweepAhead_17 ?_
      refine lv_iload_n S.1 S.2.1 dX6_sweepAhead_20 rfl (lv_at hl5 0 rfl) ?_
      refine lv_iload_n S.1 S.2.1 dX6_sweepAhead_21 rfl (lv_at hl5 0 rfl) ?_
      refine lv_if_ne (tgt := 36) S.1 S.2.1 dX6_sweepAhead_22 (by decide) (fun c79 => ?_) (fun c79 => ?_)
      · skip
        have k80 := ci_ne (nI_toInt (n := q35) (by omega)) z_ti c79
        refine lv_iconst (v := (nI 0)) S.1 S.2.1 dX6_sweepAhead_36 (by decide +kernel) ?_
        obtain ⟨g81, hF81, hg81⟩ := wt_I hWl5 (show (37, 245) ∈ rLI by decide)
        refine r_iast S hI hK hPl5 hSl5 37 (by decide) hF81 (vp_in_nI (show q35 < 245 by omega) (by omega)) dX6_sweepAhead_37 (fun F82 H82 locs82 eF82 hP82 hS82 => ?_)
        have hW82 := hWl5.up eF82 (ok_I (show (37, 245) ∈ rLI by decide) (okI_up hg81 (pr_of (by decide))))
        have hFr82 := hFl5.up eF82 (by simp <;> first | omega | (simp only [isC, isJ] at *; omega))
        refine lv_iinc (v := (nI (q35 + 1))) (lv' := [(3, .int (nI (q35 + 1))), (0, .ref (ad 33)), (1, .ref (ad rc)), (2, .int p2)]) S.1 S.2.1 dX6_sweepAhead_38 hl5 (k := 0) rfl (nI_add _ 1) (by decide) rfl (fun ls83 hl83 => ?_)
        refine lv_goto (tgt := 11) S.1 S.2.1 dX6_sweepAhead_41 (by decide) ?_
        exact ih5 (q35 + 1) F82 H82 locs82 (by omega) (by omega) hW82 hFr82 hP82 hS82 ls83 (lv_sub hl83 [0, 1, 2, 3] rfl)
      have k84 := ci_eq (nI_toInt (n := q35) (by omega)) z_ti c79
      refine lv_aload_n S.1 S.2.1 dX6_sweepAhead_25 rfl (lv_at hl5 2 rfl) ?_
      obtain ⟨sl85, fm85, tn85, rn85, bn85, hF85, hb85_1, hb85_2, hb85_3⟩ := wt_C hWl5 hrc
      refine r_get S hK hPl5 rc (lt_C hrc) hF85 (C := RX0) (T := TX0) (N := 10) hiX0 rfl 2 (by decide) (by decide +kernel) (v := .int (nI tn85)) rfl dX6_sweepAhead_26 ?_
      refine lv_if_le (tgt := 36) S.1 S.2.1 dX6_sweepAhead_29 (by decide) (fun c86 => ?_) (fun c86 => ?_)
      · skip
        have k87 := ci_le (nI_toInt (n := tn85) (by omega)) z_ti c86
        refine lv_iconst (v := (nI 0)) S.1 S.2.1 dX6_sweepAhead_36 (by decide +kernel) ?_
        obtain ⟨g88, hF88, hg88⟩ := wt_I hWl5 (show (37, 245) ∈ rLI by decide)
        refine r_iast S hI hK hPl5 hSl5 37 (by decide) hF88 (vp_in_nI (show q35 < 245 by omega) (by omega)) dX6_sweepAhead_37 (fun F89 H89 locs89 eF89 hP89 hS89 => ?_)
        have hW89 := hWl5.up eF89 (ok_I (show (37, 245) ∈ rLI by decide) (okI_up hg88 (pr_of (by decide))))
        have hFr89 := hFl5.up eF89 (by simp <;> first | omega | (simp only [isC, isJ] at *; omega))
        refine lv_iinc (v := (nI (q35 + 1))) (lv' := [(3, .int (nI (q35 + 1))), (0, .ref (ad 33)), (1, .ref (ad rc)), (2, .int p2)]) S.1 S.2.1 dX6_sweepAhead_38 hl5 (k := 0) rfl (nI_add _ 1) (by decide) rfl (fun ls90 hl90 => ?_)
        refine lv_goto (tgt := 11) S.1 S.2.1 dX6_sweepAhead_41 (by decide) ?_
        exact ih5 (q35 + 1) F89 H89 locs89 (by omega) (by omega) hW89 hFr89 hP89 hS89 ls90 (lv_sub hl90 [0, 1, 2, 3] rfl)
      have k91 := ci_nle (nI_toInt (n := tn85) (by omega)) z_ti c86
      refine lv_iconst (v := (nI 1)) S.1 S.2.1 dX6_sweepAhead_32 (by decide +kernel) ?_
      refine lv_goto (tgt := 37) S.1 S.2.1 dX6_sweepAhead_33 (by decide) ?_
      obtain ⟨g92, hF92, hg92⟩ := wt_I hWl5 (show (37, 245) ∈ rLI by decide)
      refine r_iast S hI hK hPl5 hSl5 37 (by decide) hF92 (vp_in_nI (show q35 < 245 by omega) (by omega)) dX6_sweepAhead_37 (fun F93 H93 locs93 eF93 hP93 hS93 => ?_)
      have hW93 := hWl5.up eF93 (ok_I (show (37, 245) ∈ rLI by decide) (okI_up hg92 (pr_of (by decide))))
      have hFr93 := hFl5.up eF93 (by simp <;> first | omega | (simp only [isC, isJ] at *; omega))
      refine lv_iinc (v := (nI (q35 + 1))) (lv' := [(3, .int (nI (q35 + 1))), (0, .ref (ad 33)), (1, .ref (ad rc)), (2, .int p2)]) S.1 S.2.1 dX6_sweepAhead_38 hl5 (k := 0) rfl (nI_add _ 1) (by decide) rfl (fun ls94 hl94 => ?_)
      refine lv_goto (tgt := 11) S.1 S.2.1 dX6_sweepAhead_41 (by decide) ?_
      exact ih5 (q35 + 1) F93 H93 locs93 (by omega) (by omega) hW93 hFr93 hP93 hS93 ls94 (lv_sub hl94 [0, 1, 2, 3] rfl)
  exact lp5 (5 - (0) + 1) (0) F2 H2 locs2 (by omega) (by omega) hW2 hFr2 hP2 hS2 ls4 (lv_sub hl4 [0, 1, 2, 3] rfl)
set_option maxHeartbeats 4000000 in
set_option maxRecDepth 100000 in
theorem c_X6_sweepBehind (l : Launch) (D : va_G) (cA ad : Nat → Nat) (t : Nat) (hI : rI ad) (F : Nat → va_E) (hW : WT cA ad F) (rc : Nat) (hrc : isC rc) : MV l D cA ad t yX6_sweepBehind wsX6_sweepBehind { frames := 3, cells := 0, slots := 0, locals := 68 } [.ref (ad 33), .ref (ad rc)] F (fun F' => WT cA ad F' ∧ rFr [38] F F' ∧ (True)) := by
  refine en_V rfl (by decide +kernel) (Nat.le_of_ble_eq_true rfl) ?_
  intro p e s m args below meth c ls0 Q S hK hZ hP hS hl0 hret
  have hl0 : lv_has ls0 8 [(0, .ref (ad 33)), (1, .ref (ad rc))] := hl0
  have hFr : rFr [38] F F := rFr.rf
  have hiX0 : ∀ w ∈ u_ws RX0 TX0 10, w ∈ wsX6_sweepBehind := by decide +kernel
  have hiX6 : ∀ w ∈ u_ws RX6 TX6 6, w ∈ wsX6_sweepBehind := by decide +kernel
  refine lv_iconst (v := (nI 0)) S.1 S.2.1 dX6_sweepBehind_0 (by decide +kernel) ?_
  refine lv_istore_n (lv' := [(2, .int (nI 0)), (0, .ref (ad 33)), (1, .ref (ad rc))]) S.1 S.2.1 dX6_sweepBehind_1 rfl hl0 (by decide) rfl (fun ls1 hl1 => ?_)
  have lp2 : ∀ (n2 : Nat) (q22 : Nat), ∀ (Fl2 : Nat → va_E) (Hl2 : Heap) (lol2 : List Loc), q22 ≤ 5 → 5 - q22 < n2 → WT cA ad Fl2 → rFr [38] F Fl2 → va_P D vwCl (rW ad Fl2) Hl2 → va_S (rA ad) s.heap Hl2 lol2 → ∀ (ls : Array Slot), lv_has ls 8 [(2, .int (nI q22)), (0, .ref (ad 33)), (1, .ref (ad rc))] → W p l e { frames := 3, cells := 0, slots := 0, locals := 68 } s m args below meth c Hl2 lol2 0 0 Q (F0 m 2 ls []) := by
    intro n2
    induction n2 with
    | zero =>
      intro q22 Fl2 Hl2 lol2 iv2_0 hm2 hWl2 hFl2 hPl2 hSl2 ls2 hl2
      exact absurd hm2 (Nat.not_lt_zero _)
    | succ n2 ih2 =>
      intro q22 Fl2 Hl2 lol2 iv2_0 hm2 hWl2 hFl2 hPl2 hSl2 ls2 hl2
      refine lv_iload_n S.1 S.2.1 dX6_sweepBehind_2 rfl (lv_at hl2 0 rfl) ?_
      refine lv_iconst (v := (nI 5)) S.1 S.2.1 dX6_sweepBehind_3 (by decide +kernel) ?_
      refine lv_icmp_ge (tgt := 27) S.1 S.2.1 dX6_sweepBehind_4 (by decide) (fun c3 => ?_) (fun c3 => ?_)
      · skip
        have k4 := ci_le (nI_toInt (n := 5) (by omega)) (nI_toInt (n := q22) (by omega)) c3
        refine lv_bipush (v := (nI 47)) S.1 S.2.1 dX6_sweepBehind_27 (by decide +kernel) ?_
        refine lv_istore_n (lv' := [(2, .int (nI 47)), (0, .ref (ad 33)), (1, .ref (ad rc))]) S.1 S.2.1 dX6_sweepBehind_29 rfl hl2 (by decide) rfl (fun ls5 hl5 => ?_)
        have lp6 : ∀ (n6 : Nat) (x6_2 : Int32), ∀ (Fl6 : Nat → va_E) (Hl6 : Heap) (lol6 : List Loc), -1 ≤ x6_2.toInt → x6_2.toInt ≤ 47 → (x6_2.toInt + 1).toNat < n6 → WT cA ad Fl6 → rFr [38] F Fl6 → va_P D vwCl (rW ad Fl6) Hl6 → va_S (rA ad) s.heap Hl6 lol6 → ∀ (ls : Array Slot), lv_has ls 8 [(2, .int x6_2), (0, .ref (ad 33)), (1, .ref (ad rc))] → W p l e { frames := 3, cells := 0, slots := 0, locals := 68 } s m args below meth c Hl6 lol6 0 0 Q (F0 m 30 ls []) := by
          intro n6
          induction n6 with
          | zero =>
            intro x6_2 Fl6 Hl6 lol6 iv6_0 iv6_1 hm6 hWl6 hFl6 hPl6 hSl6 ls6 hl6
            exact absurd hm6 (Nat.not_lt_zero _)
          | succ n6 ih6 =>
            intro x6_2 Fl6 Hl6 lol6 iv6_0 iv6_1 hm6 hWl6 hFl6 hPl6 hSl6 ls6 hl6
            refine lv_iload_n S.1 S.2.1 dX6_sweepBehind_30 rfl (lv_at hl6 0 rfl) ?_
            refine lv_if_lt (tgt := 139) S.1 S.2.1 dX6_sweepBehind_31 (by decide) (fun c7 => ?_) (fun c7 => ?_)
            · skip
              have k8 := ci_lt rfl z_ti c7
              exact hret 139 _ _ _ _ dX6_sweepBehind_139 hPl6 hSl6 ⟨hWl6, hFl6, trivial⟩
            have k9 := ci_nlt rfl z_ti c7
            obtain ⟨j10, hj10, rfl⟩ := nI_of_le (x := x6_2) (B := 47) (by omega) (by omega)
            have kj10 := nI_toInt (n := j10) (by omega)
            refine lv_iload_n S.1 S.2.1 dX6_sweepBehind_34 rfl (lv_at hl6 0 rfl) ?_
            refine lv_iconst (v := (nI 5)) S.1 S.2.1 dX6_sweepBehind_35 (by decide +kernel) ?_
            refine lv_imul S.1 S.2.1 dX6_sweepBehind_36 ?_
            refine lv_topi (fun v11 e11 => ?_)
            obtain rfl : v11 = nI (j10 * 5) := e11.trans (pk_mul _ _)
            refine lv_istore_n (lv' := [(3, .int (nI (j10 * 5))), (2, .int (nI j10)), (0, .ref (ad 33)), (1, .ref (ad rc))]) S.1 S.2.1 dX6_sweepBehind_37 rfl hl6 (by decide) rfl (fun ls12 hl12 => ?_)
            refine lv_iload_n S.1 S.2.1 dX6_sweepBehind_38 rfl (lv_at hl12 0 rfl) ?_
            refine lv_iconst (v := (nI 5)) S.1 S.2.1 dX6_sweepBehind_39 (by decide +kernel) ?_
            refine lv_iadd S.1 S.2.1 dX6_sweepBehind_40 ?_
            refine lv_topi (fun v13 e13 => ?_)
            obtain rfl : v13 = nI ((j10 * 5) + 5) := e13.trans (nI_add _ _)
            refine lv_istore (lv' := [(4, .int (nI ((j10 * 5) + 5))), (3, .int (nI (j10 * 5))), (2, .int (nI j10)), (0, .ref (ad 33)), (1, .ref (ad rc))]) S.1 S.2.1 dX6_sweepBehind_41 hl12 (by decide) rfl (fun ls14 hl14 => ?_)
            refine lv_aload_n S.1 S.2.1 dX6_sweepBehind_43 rfl (lv_at hl14 3 rfl) ?_
            refine lv_aload_n S.1 S.2.1 dX6_sweepBehind_44 rfl (lv_at hl14 4 rfl) ?_
            refine lv_iload_n S.1 S.2.1 dX6_sweepBehind_45 rfl (lv_at hl14 2 rfl) ?_
            refine lv_iconst (v := (-1)) S.1 S.2.1 dX6_sweepBehind_46 (by decide +kernel) ?_
            obtain ⟨k16, hF16, hk16⟩ := wt_ways hWl6
            refine r_cVp (As := [.ref (ad rc), .int (nI j10), .int (-1)]) (rest := []) S hK hZ hPl6 hSl6 hl14.1 33 (by decide) hF16 (C := RX6) rfl (c_X6_staysIn l D cA ad t hI Fl6 hWl6 rc hrc (nI j10) (-1)) (cwV 3 S.2.2.2.2 gX6_sweepBehind_X6_staysIn rfl rfl rfl (by decide +kernel) ⟨Nat.le_of_ble_eq_true rfl, Nat.le_of_ble_eq_true rfl⟩) rfl rfl (Nat.le_of_ble_eq_true rfl) ⟨Nat.zero_le _, Nat.zero_le _⟩ dX6_sweepBehind_47 (fun r15 hr15 => ?_)
            refine lv_istore (lv' := [(5, .int r15), (4, .int (nI ((j10 * 5) + 5))), (3, .int (nI (j10 * 5))), (2, .int (nI j10)), (0, .ref (ad 33)), (1, .ref (ad rc))]) S.1 S.2.1 dX6_sweepBehind_50 hl14 (by decide) rfl (fun ls17 hl17 => ?_)
            refine lv_aload_n S.1 S.2.1 dX6_sweepBehind_52 rfl (lv_at hl17 4 rfl) ?_
            refine lv_iload_n S.1 S.2.1 dX6_sweepBehind_53 rfl (lv_at hl17 3 rfl) ?_
            refine lv_iconst (v := (-1)) S.1 S.2.1 dX6_sweepBehind_54 (by decide +kernel) ?_
            refine r_cVp (As := [.int (nI j10), .int (-1)]) (rest := []) S hK hZ hPl6 hSl6 hl17.1 33 (by decide) hF16 (C := RX6) rfl (c_X6_isTold l D cA ad t hI Fl6 hWl6 (nI j10) (-1)) (cwV 2 S.2.2.2.2 gX6_sweepBehind_X6_isTold rfl rfl rfl (by decide +kernel) ⟨Nat.le_of_ble_eq_true rfl, Nat.le_of_ble_eq_true rfl⟩) rfl rfl (Nat.le_of_ble_eq_true rfl) ⟨Nat.zero_le _, Nat.zero_le _⟩ dX6_sweepBehind_55 (fun r18 hr18 => ?_)
            obtain ⟨b19, hb19, rfl⟩ := hr18
            refine lv_if_eq (tgt := 65) S.1 S.2.1 dX6_sweepBehind_58 (by decide) (fun c20 => ?_) (fun c20 => ?_)
            · skip
              have k21 := ci_eq (nI_toInt (n := b19) (by omega)) z_ti c20
              refine lv_aload_n S.1 S.2.1 dX6_sweepBehind_65 rfl (lv_at hl17 4 rfl) ?_
              refine lv_aload_n S.1 S.2.1 dX6_sweepBehind_66 rfl (lv_at hl17 4 rfl) ?_
              refine r_get S hK hPl6 33 (by decide) hF16 (C := RX6) (T := TX6) (N := 6) hiX6 rfl 5 (by decide) (by decide +kernel) (v := .ref (ad 38)) rfl dX6_sweepBehind_67 ?_
              refine lv_iload S.1 S.2.1 dX6_sweepBehind_70 (lv_at hl17 1 rfl) ?_
              obtain ⟨g22, hF22, hg22⟩ := wt_I hWl6 (show (38, 245) ∈ rLI by decide)
              refine r_iald S hK hPl6 38 (by decide) hF22 (vp_in_nI (show (j10 * 5) + 5 < 245 by omega) (by omega)) dX6_sweepBehind_72 ?_
              refine lv_topi (fun v24 e24 => ?_)
              refine r_cVp (As := [.int v24]) (rest := []) S hK hZ hPl6 hSl6 hl17.1 33 (by decide) hF16 (C := RX6) rfl (c_X6_entriesTo l D cA ad t hI Fl6 hWl6 v24) (cwV 1 S.2.2.2.2 gX6_sweepBehind_X6_entriesTo rfl rfl rfl (by decide +kernel) ⟨Nat.le_of_ble_eq_true rfl, Nat.le_of_ble_eq_true rfl⟩) rfl rfl (Nat.le_of_ble_eq_true rfl) ⟨Nat.zero_le _, Nat.zero_le _⟩ dX6_sweepBehind_73 (fun r25 hr25 => ?_)
              refine lv_istore (lv' := [(6, .int r25), (5, .int r15), (4, .int (nI ((j10 * 5) + 5))), (3, .int (nI (j10 * 5))), (2, .int (nI j10)), (0, .ref (ad 33)), (1, .ref (ad rc))]) S.1 S.2.1 dX6_sweepBehind_76 hl17 (by decide) rfl (fun ls26 hl26 => ?_)
              refine lv_iconst (v := (nI 0)) S.1 S.2.1 dX6_sweepBehind_78 (by decide +kernel) ?_
              refine lv_istore (lv' := [(7, .int (nI 0)), (6, .int r25), (5, .int r15), (4, .int (nI ((j10 * 5) + 5))), (3, .int (nI (j10 * 5))), (2, .int (nI j10)), (0, .ref (ad 33)), (1, .ref (ad rc))]) S.1 S.2.1 dX6_sweepBehind_79 hl26 (by decide) rfl (fun ls27 hl27 => ?_)
              have lp28 : ∀ (n28 : Nat) (q728 : Nat), ∀ (Fl28 : Nat → va_E) (Hl28 : Heap) (lol28 : List Loc), q728 ≤ 5 → 5 - q728 < n28 → WT cA ad Fl28 → rFr [38] F Fl28 → va_P D vwCl (rW ad Fl28) Hl28 → va_S (rA ad) s.heap Hl28 lol28 → ∀ (ls : Array Slot), lv_has ls 8 [(7, .int (nI q728)), (6, .int r25), (5, .int r15), (4, .int (nI ((j10 * 5) + 5))), (3, .int (nI (j10 * 5))), (2, .int (nI j10)), (0, .ref (ad 33)), (1, .ref (ad rc))] → W p l e { frames := 3, cells := 0, slots := 0, locals := 68 } s m args below meth c Hl28 lol28 0 0 Q (F0 m 81 ls []) := by
                intro n28
                induction n28 with
                | zero =>
                  intro q728 Fl28 Hl28 lol28 iv28_0 hm28 hWl28 hFl28 hPl28 hSl28 ls28 hl28
                  exact absurd hm28 (Nat.not_lt_zero _)
                | succ n28 ih28 =>
                  intro q728 Fl28 Hl28 lol28 iv28_0 hm28 hWl28 hFl28 hPl28 hSl28 ls28 hl28
                  refine lv_iload S.1 S.2.1 dX6_sweepBehind_81 (lv_at hl28 0 rfl) ?_
                  refine lv_iconst (v := (nI 5)) S.1 S.2.1 dX6_sweepBehind_83 (by decide +kernel) ?_
                  refine lv_icmp_ge (tgt := 133) S.1 S.2.1 dX6_sweepBehind_84 (by decide) (fun c29 => ?_) (fun c29 => ?_)
                  · skip
                    have k30 := ci_le (nI_toInt (n := 5) (by omega)) (nI_toInt (n := q728) (by omega)) c29
                    obtain ⟨v31, e31⟩ : ∃ y : Int32, y = (nI j10) + Int32.ofInt (-1) := ⟨_, rfl⟩
                    have kd31 : v31.toInt = ((j10 : Nat) : Int) - 1 := by rw [e31]; exact nI_dec (by omega)
                    refine lv_iinc (v := v31) (lv' := [(2, .int v31), (7, .int (nI q728)), (6, .int r25), (5, .int r15), (4, .int (nI ((j10 * 5) + 5))), (3, .int (nI (j10 * 5))), (0, .ref (ad 33)), (1, .ref (ad rc))]) S.1 S.2.1 dX6_sweepBehind_133 hl28 (k := 5) rfl e31.symm (by decide) rfl (fun ls31 hl31 => ?_)
                    refine lv_goto (tgt := 30) S.1 S.2.1 dX6_sweepBehind_136 (by decide) ?_
                    exact ih6 (v31) Fl28 Hl28 lol28 (by omega) (by omega) (by omega) hWl28 hFl28 hPl28 hSl28 ls31 (lv_sub hl31 [0, 6, 7] rfl)
                  have k32 := ci_nle (nI_toInt (n := 5) (by omega)) (nI_toInt (n := q728) (by omega)) c29
                  refine lv_aload_n S.1 S.2.1 dX6_sweepBehind_87 rfl (lv_at hl28 6 rfl) ?_
                  obtain ⟨k33, hF33, hk33⟩ := wt_ways hWl28
                  refine r_get S hK hPl28 33 (by decide) hF33 (C := RX6) (T := TX6) (N := 6) hiX6 rfl 5 (by decide) (by decide +kernel) (v := .ref (ad 38)) rfl dX6_sweepBehind_88 ?_
                  refine lv_iload_n S.1 S.2.1 dX6_sweepBehind_91 rfl (lv_at hl28 4 rfl) ?_
                  refine lv_iload S.1 S.2.1 dX6_sweepBehind_92 (lv_at hl28 0 rfl) ?_
                  refine lv_iadd S.1 S.2.1 dX6_sweepBehind_94 ?_
                  refine lv_topi (fun v34 e34 => ?_)
                  obtain rfl : v34 = nI ((j10 * 5) + q728) := e34.trans (nI_add _ _)
                  refine lv_iload S.1 S.2.1 dX6_sweepBehind_95 (lv_at hl28 1 rfl) ?_
                  refine lv_iload S.1 S.2.1 dX6_sweepBehind_97 (lv_at hl28 0 rfl) ?_
                  refine lv_aload_n S.1 S.2.1 dX6_sweepBehind_99 rfl (lv_at hl28 7 rfl) ?_
                  obtain ⟨sl35, fm35, tn35, rn35, bn35, hF35, hb35_1, hb35_2, hb35_3⟩ := wt_C hWl28 hrc
                  refine r_get S hK hPl28 rc (lt_C hrc) hF35 (C := RX0) (T := TX0) (N := 10) hiX0 rfl 0 (by decide) (by decide +kernel) (v := .int (nI sl35)) rfl dX6_sweepBehind_100 ?_
                  refine lv_icmp_ge (tgt := 124) S.1 S.2.1 dX6_sweepBehind_103 (by decide) (fun c36 => ?_) (fun c36 => ?_)
                  · skip
                    have k37 := ci_le (nI_toInt (n := sl35) (by omega)) (nI_toInt (n := q728) (by omega)) c36
                    refine lv_iconst (v := (nI 0)) S.1 S.2.1 dX6_sweepBehind_124 (by decide +kernel) ?_
                    refine lv_ior S.1 S.2.1 dX6_sweepBehind_125 ?_
                    refine lv_topi (fun v38 e38 => ?_)
                    obtain ⟨g39, hF39, hg39⟩ := wt_I hWl28 (show (38, 245) ∈ rLI by decide)
                    refine r_iast S hI hK hPl28 hSl28 38 (by decide) hF39 (vp_in_nI (show (j10 * 5) + q728 < 245 by omega) (by omega)) dX6_sweepBehind_126 (fun F40 H40 locs40 eF40 hP40 hS40 => ?_)
                    have hW40 := hWl28.up eF40 (ok_I (show (38, 245) ∈ rLI by decide) (okI_up hg39 (pr_of (by decide))))
                    have hFr40 := hFl28.up eF40 (by simp <;> first | omega | (simp only [isC, isJ] at *; omega))
                    refine lv_iinc (v := (nI (q728 + 1))) (lv' := [(7, .int (nI (q728 + 1))), (6, .int r25), (5, .int r15), (4, .int (nI ((j10 * 5) + 5))), (3, .int (nI (j10 * 5))), (2, .int (nI j10)), (0, .ref (ad 33)), (1, .ref (ad rc))]) S.1 S.2.1 dX6_sweepBehind_127 hl28 (k := 0) rfl (nI_add _ 1) (by decide) rfl (fun ls41 hl41 => ?_)
                    refine lv_goto (tgt := 81) S.1 S.2.1 dX6_sweepBehind_130 (by decide) ?_
                    exact ih28 (q728 + 1) F40 H40 locs40 (by omega) (by omega) hW40 hFr40 hP40 hS40 ls41 (lv_sub hl41 [0, 1, 2, 3, 4, 5, 6, 7] rfl)
                  have k42 := ci_nle (nI_toInt (n := sl35) (by omega)) (nI_toInt (n := q728) (by omega)) c36
                  refine lv_aload_n S.1 S.2.1 dX6_sweepBehind_106 rfl (lv_at hl28 6 rfl) ?_
                  refine r_get S hK hPl28 33 (by decide) hF33 (C := RX6) (T := TX6) (N := 6) hiX6 rfl 5 (by decide) (by decide +kernel) (v := .ref (ad 38)) rfl dX6_sweepBehind_107 ?_
                  refine lv_iload S.1 S.2.1 dX6_sweepBehind_110 (lv_at hl28 3 rfl) ?_
                  refine lv_iload S.1 S.2.1 dX6_sweepBehind_112 (lv_at hl28 0 rfl) ?_
                  refine lv_iadd S.1 S.2.1 dX6_sweepBehind_114 ?_
                  refine lv_topi (fun v43 e43 => ?_)
                  obtain rfl : v43 = nI (((j10 * 5) + 5) + q728) := e43.trans (nI_add _ _)
                  refine lv_iconst (v := (nI 1)) S.1 S.2.1 dX6_sweepBehind_115 (by decide +kernel) ?_
                  refine lv_iadd S.1 S.2.1 dX6_sweepBehind_116 ?_
                  refine lv_topi (fun v44 e44 => ?_)
                  obtain rfl : v44 = nI ((((j10 * 5) + 5) + q728) + 1) := e44.trans (nI_add _ _)
                  obtain ⟨g45, hF45, hg45⟩ := wt_I hWl28 (show (38, 245) ∈ rLI by decide)
                  refine r_iald S hK hPl28 38 (by decide) hF45 (vp_in_nI (show (((j10 * 5) + 5) + q728) + 1 < 245 by omega) (by omega)) dX6_sweepBehind_117 ?_
                  refine lv_topi (fun v47 e47 => ?_)
                  refine lv_iload S.1 S.2.1 dX6_sweepBehind_118 (lv_at hl28 2 rfl) ?_
                  refine lv_iand S.1 S.2.1 dX6_sweepBehind_120 ?_
                  refine lv_topi (fun v48 e48 => ?_)
                  refine lv_goto (tgt := 125) S.1 S.2.1 dX6_sweepBehind_121 (by decide) ?_
                  refine lv_ior S.1 S.2.1 dX6_sweepBehind_125 ?_
                  refine lv_topi (fun v49 e49 => ?_)
                  refine r_iast S hI hK hPl28 hSl28 38 (by decide) hF45 (vp_in_nI (show (j10 * 5) + q728 < 245 by omega) (by omega)) dX6_sweepBehind_126 (fun F50 H50 locs50 eF50 hP50 hS50 => ?_)
                  have hW50 := hWl28.up eF50 (ok_I (show (38, 245) ∈ rLI by decide) (okI_up hg45 (pr_of (by decide))))
                  have hFr50 := hFl28.up eF50 (by simp <;> first | omega | (simp only [isC, isJ] at *; omega))
                  refine lv_iinc (v := (nI (q728 + 1))) (lv' := [(7, .int (nI (q728 + 1))), (6, .int r25), (5, .int r15), (4, .int (nI ((j10 * 5) + 5))), (3, .int (nI (j10 * 5))), (2, .int (nI j10)), (0, .ref (ad 33)), (1, .ref (ad rc))]) S.1 S.2.1 dX6_sweepBehind_127 hl28 (k := 0) rfl (nI_add _ 1) (by decide) rfl (fun ls51 hl51 => ?_)
                  refine lv_goto (tgt := 81) S.1 S.2.1 dX6_sweepBehind_130 (by decide) ?_
                  exact ih28 (q728 + 1) F50 H50 locs50 (by omega) (by omega) hW50 hFr50 hP50 hS50 ls51 (lv_sub hl51 [0, 1, 2, 3, 4, 5, 6, 7] rfl)
              exact lp28 (5 - (0) + 1) (0) Fl6 Hl6 lol6 (by omega) (by omega) hWl6 hFl6 hPl6 hSl6 ls27 (lv_sub hl27 [0, 1, 2, 3, 4, 5, 6, 7] rfl)
            have k52 := ci_ne (nI_toInt (n := b19) (by omega)) z_ti c20
            refine lv_iconst (v := (nI 0)) S.1 S.2.1 dX6_sweepBehind_61 (by decide +kernel) ?_
            refine lv_goto (tgt := 76) S.1 S.2.1 dX6_sweepBehind_62 (by decide) ?_
            refine lv_istore (lv' := [(6, .int (nI 0)), (5, .int r15), (4, .int (nI ((j10 * 5) + 5))), (3, .int (nI (j10 * 5))), (2, .int (nI j10)), (0, .ref (ad 33)), (1, .ref (ad rc))]) S.1 S.2.1 dX6_sweepBehind_76 hl17 (by decide) rfl (fun ls53 hl53 => ?_)
            refine lv_iconst (v := (nI 0)) S.1 S.2.1 dX6_sweepBehind_78 (by decide +kernel) ?_
            refine lv_istore (lv' := [(7, .int (nI 0)), (6, .int (nI 0)), (5, .int r15), (4, .int (nI ((j10 * 5) + 5))), (3, .int (nI (j10 * 5))), (2, .int (nI j10)), (0, .ref (ad 33)), (1, .ref (ad rc))]) S.1 S.2.1 dX6_sweepBehind_79 hl53 (by decide) rfl (fun ls54 hl54 => ?_)
            have lp55 : ∀ (n55 : Nat) (q755 : Nat), ∀ (Fl55 : Nat → va_E) (Hl55 : Heap) (lol55 : List Loc), q755 ≤ 5 → 5 - q755 < n55 → WT cA ad Fl55 → rFr [38] F Fl55 → va_P D vwCl (rW ad Fl55) Hl55 → va_S (rA ad) s.heap Hl55 lol55 → ∀ (ls : Array Slot), lv_has ls 8 [(7, .int (nI q755)), (6, .int (nI 0)), (5, .int r15), (4, .int (nI ((j10 * 5) + 5))), (3, .int (nI (j10 * 5))), (2, .int (nI j10)), (0, .ref (ad 33)), (1, .ref (ad rc))] → W p l e { frames := 3, cells := 0, slots := 0, locals := 68 } s m args below meth c Hl55 lol55 0 0 Q (F0 m 81 ls []) := by
              intro n55
              induction n55 with
              | zero =>
                intro q755 Fl55 Hl55 lol55 iv55_0 hm55 hWl55 hFl55 hPl55 hSl55 ls55 hl55
                exact absurd hm55 (Nat.not_lt_zero _)
              | succ n55 ih55 =>
                intro q755 Fl55 Hl55 lol55 iv55_0 hm55 hWl55 hFl55 hPl55 hSl55 ls55 hl55
                refine lv_iload S.1 S.2.1 dX6_sweepBehind_81 (lv_at hl55 0 rfl) ?_
                refine lv_iconst (v := (nI 5)) S.1 S.2.1 dX6_sweepBehind_83 (by decide +kernel) ?_
                refine lv_icmp_ge (tgt := 133) S.1 S.2.1 dX6_sweepBehind_84 (by decide) (fun c56 => ?_) (fun c56 => ?_)
                · skip
                  have k57 := ci_le (nI_toInt (n := 5) (by omega)) (nI_toInt (n := q755) (by omega)) c56
                  obtain ⟨v58, e58⟩ : ∃ y : Int32, y = (nI j10) + Int32.ofInt (-1) := ⟨_, rfl⟩
                  have kd58 : v58.toInt = ((j10 : Nat) : Int) - 1 := by rw [e58]; exact nI_dec (by omega)
                  refine lv_iinc (v := v58) (lv' := [(2, .int v58), (7, .int (nI q755)), (6, .int (nI 0)), (5, .int r15), (4, .int (nI ((j10 * 5) + 5))), (3, .int (nI (j10 * 5))), (0, .ref (ad 33)), (1, .ref (ad rc))]) S.1 S.2.1 dX6_sweepBehind_133 hl55 (k := 5) rfl e58.symm (by decide) rfl (fun ls58 hl58 => ?_)
                  refine lv_goto (tgt := 30) S.1 S.2.1 dX6_sweepBehind_136 (by decide) ?_
                  exact ih6 (v58) Fl55 Hl55 lol55 (by omega) (by omega) (by omega) hWl55 hFl55 hPl55 hSl55 ls58 (lv_sub hl58 [0, 6, 7] rfl)
                have k59 := ci_nle (nI_toInt (n := 5) (by omega)) (nI_toInt (n := q755) (by omega)) c56
                refine lv_aload_n S.1 S.2.1 dX6_sweepBehind_87 rfl (lv_at hl55 6 rfl) ?_
                obtain ⟨k60, hF60, hk60⟩ := wt_ways hWl55
                refine r_get S hK hPl55 33 (by decide) hF60 (C := RX6) (T := TX6) (N := 6) hiX6 rfl 5 (by decide) (by decide +kernel) (v := .ref (ad 38)) rfl dX6_sweepBehind_88 ?_
                refine lv_iload_n S.1 S.2.1 dX6_sweepBehind_91 rfl (lv_at hl55 4 rfl) ?_
                refine lv_iload S.1 S.2.1 dX6_sweepBehind_92 (lv_at hl55 0 rfl) ?_
                refine lv_iadd S.1 S.2.1 dX6_sweepBehind_94 ?_
                refine lv_topi (fun v61 e61 => ?_)
                obtain rfl : v61 = nI ((j10 * 5) + q755) := e61.trans (nI_add _ _)
                refine lv_iload S.1 S.2.1 dX6_sweepBehind_95 (lv_at hl55 1 rfl) ?_
                refine lv_iload S.1 S.2.1 dX6_sweepBehind_97 (lv_at hl55 0 rfl) ?_
                refine lv_aload_n S.1 S.2.1 dX6_sweepBehind_99 rfl (lv_at hl55 7 rfl) ?_
                obtain ⟨sl62, fm62, tn62, rn62, bn62, hF62, hb62_1, hb62_2, hb62_3⟩ := wt_C hWl55 hrc
                refine r_get S hK hPl55 rc (lt_C hrc) hF62 (C := RX0) (T := TX0) (N := 10) hiX0 rfl 0 (by decide) (by decide +kernel) (v := .int (nI sl62)) rfl dX6_sweepBehind_100 ?_
                refine lv_icmp_ge (tgt := 124) S.1 S.2.1 dX6_sweepBehind_103 (by decide) (fun c63 => ?_) (fun c63 => ?_)
                · skip
                  have k64 := ci_le (nI_toInt (n := sl62) (by omega)) (nI_toInt (n := q755) (by omega)) c63
                  refine lv_iconst (v := (nI 0)) S.1 S.2.1 dX6_sweepBehind_124 (by decide +kernel) ?_
                  refine lv_ior S.1 S.2.1 dX6_sweepBehind_125 ?_
                  refine lv_topi (fun v65 e65 => ?_)
                  obtain ⟨g66, hF66, hg66⟩ := wt_I hWl55 (show (38, 245) ∈ rLI by decide)
                  refine r_iast S hI hK hPl55 hSl55 38 (by decide) hF66 (vp_in_nI (show (j10 * 5) + q755 < 245 by omega) (by omega)) dX6_sweepBehind_126 (fun F67 H67 locs67 eF67 hP67 hS67 => ?_)
                  have hW67 := hWl55.up eF67 (ok_I (show (38, 245) ∈ rLI by decide) (okI_up hg66 (pr_of (by decide))))
                  have hFr67 := hFl55.up eF67 (by simp <;> first | omega | (simp only [isC, isJ] at *; omega))
                  refine lv_iinc (v := (nI (q755 + 1))) (lv' := [(7, .int (nI (q755 + 1))), (6, .int (nI 0)), (5, .int r15), (4, .int (nI ((j10 * 5) + 5))), (3, .int (nI (j10 * 5))), (2, .int (nI j10)), (0, .ref (ad 33)), (1, .ref (ad rc))]) S.1 S.2.1 dX6_sweepBehind_127 hl55 (k := 0) rfl (nI_add _ 1) (by decide) rfl (fun ls68 hl68 => ?_)
                  refine lv_goto (tgt := 81) S.1 S.2.1 dX6_sweepBehind_130 (by decide) ?_
                  exact ih55 (q755 + 1) F67 H67 locs67 (by omega) (by omega) hW67 hFr67 hP67 hS67 ls68 (lv_sub hl68 [0, 1, 2, 3, 4, 5, 6, 7] rfl)
                have k69 := ci_nle (nI_toInt (n := sl62) (by omega)) (nI_toInt (n := q755) (by omega)) c63
                refine lv_aload_n S.1 S.2.1 dX6_sweepBehind_106 rfl (lv_at hl55 6 rfl) ?_
                refine r_get S hK hPl55 33 (by decide) hF60 (C := RX6) (T := TX6) (N := 6) hiX6 rfl 5 (by decide) (by decide +kernel) (v := .ref (ad 38)) rfl dX6_sweepBehind_107 ?_
                refine lv_iload S.1 S.2.1 dX6_sweepBehind_110 (lv_at hl55 3 rfl) ?_
                refine lv_iload S.1 S.2.1 dX6_sweepBehind_112 (lv_at hl55 0 rfl) ?_
                refine lv_iadd S.1 S.2.1 dX6_sweepBehind_114 ?_
                refine lv_topi (fun v70 e70 => ?_)
                obtain rfl : v70 = nI (((j10 * 5) + 5) + q755) := e70.trans (nI_add _ _)
                refine lv_iconst (v := (nI 1)) S.1 S.2.1 dX6_sweepBehind_115 (by decide +kernel) ?_
                refine lv_iadd S.1 S.2.1 dX6_sweepBehind_116 ?_
                refine lv_topi (fun v71 e71 => ?_)
                obtain rfl : v71 = nI ((((j10 * 5) + 5) + q755) + 1) := e71.trans (nI_add _ _)
                obtain ⟨g72, hF72, hg72⟩ := wt_I hWl55 (show (38, 245) ∈ rLI by decide)
                refine r_iald S hK hPl55 38 (by decide) hF72 (vp_in_nI (show (((j10 * 5) + 5) + q755) + 1 < 245 by omega) (by omega)) dX6_sweepBehind_117 ?_
                refine lv_topi (fun v74 e74 => ?_)
                refine lv_iload S.1 S.2.1 dX6_sweepBehind_118 (lv_at hl55 2 rfl) ?_
                refine lv_iand S.1 S.2.1 dX6_sweepBehind_120 ?_
                refine lv_topi (fun v75 e75 => ?_)
                refine lv_goto (tgt := 125) S.1 S.2.1 dX6_sweepBehind_121 (by decide) ?_
                refine lv_ior S.1 S.2.1 dX6_sweepBehind_125 ?_
                refine lv_topi (fun v76 e76 => ?_)
                refine r_iast S hI hK hPl55 hSl55 38 (by decide) hF72 (vp_in_nI (show (j10 * 5) + q755 < 245 by omega) (by omega)) dX6_sweepBehind_126 (fun F77 H77 locs77 eF77 hP77 hS77 => ?_)
                have hW77 := hWl55.up eF77 (ok_I (show (38, 245) ∈ rLI by decide) (okI_up hg72 (pr_of (by decide))))
                have hFr77 := hFl55.up eF77 (by simp <;> first | omega | (simp only [isC, isJ] at *; omega))
                refine lv_iinc (v := (nI (q755 + 1))) (lv' := [(7, .int (nI (q755 + 1))), (6, .int (nI 0)), (5, .int r15), (4, .int (nI ((j10 * 5) + 5))), (3, .int (nI (j10 * 5))), (2, .int (nI j10)), (0, .ref (ad 33)), (1, .ref (ad rc))]) S.1 S.2.1 dX6_sweepBehind_127 hl55 (k := 0) rfl (nI_add _ 1) (by decide) rfl (fun ls78 hl78 => ?_)
                refine lv_goto (tgt := 81) S.1 S.2.1 dX6_sweepBehind_130 (by decide) ?_
                exact ih55 (q755 + 1) F77 H77 locs77 (by omega) (by omega) hW77 hFr77 hP77 hS77 ls78 (lv_sub hl78 [0, 1, 2, 3, 4, 5, 6, 7] rfl)
            exact lp55 (5 - (0) + 1) (0) Fl6 Hl6 lol6 (by omega) (by omega) hWl6 hFl6 hPl6 hSl6 ls54 (lv_sub hl54 [0, 1, 2, 3, 4, 5, 6, 7] rfl)
        have kt79 := nI_toInt (n := 47) (by omega)
        exact lp6 (((nI 47).toInt + 1).toNat + 1) ((nI 47)) Fl2 Hl2 lol2 (by omega) (by omega) (by omega) hWl2 hFl2 hPl2 hSl2 ls5 (lv_sub hl5 [0, 1, 2] rfl)
      have k80 := ci_nle (nI_toInt (n := 5) (by omega)) (nI_toInt (n := q22) (by omega)) c3
      refine lv_aload_n S.1 S.2.1 dX6_sweepBehind_7 rfl (lv_at hl2 1 rfl) ?_
      obtain ⟨k81, hF81, hk81⟩ := wt_ways hWl2
      refine r_get S hK hPl2 33 (by decide) hF81 (C := RX6) (T := TX6) (N := 6) hiX6 rfl 5 (by decide) (by decide +kernel) (v := .ref (ad 38)) rfl dX6_sweepBehind_8 ?_
      refine lv_sipush (v := (nI 240)) S.1 S.2.1 dX6_sweepBehind_11 (by decide +kernel) ?_
      refine lv_iload_n S.1 S.2.1 dX6_sweepBehind_14 rfl (lv_at hl2 0 rfl) ?_
      refine lv_iadd S.1 S.2.1 dX6_sweepBehind_15 ?_
      refine lv_topi (fun v82 e82 => ?_)
      obtain rfl : v82 = nI (240 + q22) := e82.trans (nI_add _ _)
      refine lv_aload_n S.1 S.2.1 dX6_sweepBehind_16 rfl (lv_at hl2 2 rfl) ?_
      obtain ⟨sl84, fm84, tn84, rn84, bn84, hF84, hb84_1, hb84_2, hb84_3⟩ := wt_C hWl2 hrc
      refine r_cVp (As := []) (rest := [.int (nI (240 + q22)), .ref (ad 38)]) S hK hZ hPl2 hSl2 hl2.1 rc (lt_C hrc) hF84 (C := RX0) rfl (c_X0_allTowns l D cA ad t hI Fl2 hWl2 rc hrc) (cwV 0 S.2.2.2.2 gX6_sweepBehind_X0_allTowns rfl rfl rfl (by decide +kernel) ⟨Nat.le_of_ble_eq_true rfl, Nat.le_of_ble_eq_true rfl⟩) rfl rfl (Nat.le_of_ble_eq_true rfl) ⟨Nat.zero_le _, Nat.zero_le _⟩ dX6_sweepBehind_17 (fun r83 hr83 => ?_)
      obtain ⟨ka85, hka85, ea85⟩ := hr83
      obtain ⟨g86, hF86, hg86⟩ := wt_I hWl2 (show (38, 245) ∈ rLI by decide)
      refine r_iast S hI hK hPl2 hSl2 38 (by decide) hF86 (vp_in_nI (show 240 + q22 < 245 by omega) (by omega)) dX6_sweepBehind_20 (fun F87 H87 locs87 eF87 hP87 hS87 => ?_)
      have hW87 := hWl2.up eF87 (ok_I (show (38, 245) ∈ rLI by decide) (okI_up hg86 (pr_of (by decide))))
      have hFr87 := hFl2.up eF87 (by simp <;> first | omega | (simp only [isC, isJ] at *; omega))
      refine lv_iinc (v := (nI (q22 + 1))) (lv' := [(2, .int (nI (q22 + 1))), (0, .ref (ad 33)), (1, .ref (ad rc))]) S.1 S.2.1 dX6_sweepBehind_21 hl2 (k := 0) rfl (nI_add _ 1) (by decide) rfl (fun ls88 hl88 => ?_)
      refine lv_goto (tgt := 2) S.1 S.2.1 dX6_sweepBehind_24 (by decide) ?_
      exact ih2 (q22 + 1) F87 H87 locs87 (by omega) (by omega) hW87 hFr87 hP87 hS87 ls88 (lv_sub hl88 [0, 1, 2] rfl)
  exact lp2 (5 - (0) + 1) (0) F s.heap [] (by omega) (by omega) hW hFr hP hS ls1 (lv_sub hl1 [0, 1, 2] rfl)
set_option maxHeartbeats 4000000 in
set_option maxRecDepth 100000 in
theorem c_X6_sweepBoth (l : Launch) (D : va_G) (cA ad : Nat → Nat) (t : Nat) (hI : rI ad) (F : Nat → va_E) (hW : WT cA ad F) (rc : Nat) (hrc : isC rc) : MV l D cA ad t yX6_sweepBoth wsX6_sweepBoth { frames := 4, cells := 0, slots := 0, locals := 96 } [.ref (ad 33), .ref (ad rc)] F (fun F' => WT cA ad F' ∧ rFr [36, 37, 38] F F' ∧ (True)) := by
  refine en_V rfl (by decide +kernel) (Nat.le_of_ble_eq_true rfl) ?_
  intro p e s m args below meth c ls0 Q S hK hZ hP hS hl0 hret
  have hl0 : lv_has ls0 2 [(0, .ref (ad 33)), (1, .ref (ad rc))] := hl0
  have hFr : rFr [36, 37, 38] F F := rFr.rf
  refine lv_aload_n S.1 S.2.1 dX6_sweepBoth_0 rfl (lv_at hl0 0 rfl) ?_
  refine lv_aload_n S.1 S.2.1 dX6_sweepBoth_1 rfl (lv_at hl0 1 rfl) ?_
  refine lv_iconst (v := (-1)) S.1 S.2.1 dX6_sweepBoth_2 (by decide +kernel) ?_
  obtain ⟨k2, hF2, hk2⟩ := wt_ways hW
  refine r_cVv (As := [.ref (ad rc), .int (-1)]) (rest := []) S hK hZ hP hS hl0.1 33 (by decide) hF2 (C := RX6) rfl (c_X6_sweepAhead l D cA ad t hI F hW rc hrc (-1)) (cwV 2 S.2.2.2.2 gX6_sweepBoth_X6_sweepAhead rfl rfl rfl (by decide +kernel) ⟨Nat.le_of_ble_eq_true rfl, Nat.le_of_ble_eq_true rfl⟩) rfl rfl (Nat.le_of_ble_eq_true rfl) ⟨Nat.zero_le _, Nat.zero_le _⟩ dX6_sweepBoth_3 (fun F1 H1 locs1 hr1 hP1 hS1 => ?_)
  obtain ⟨hW1, hFc1, hr1⟩ := hr1
  have hFr1 := hFr.tr hFc1 (by simp <;> first | omega | (simp only [isC, isJ] at *; omega))
  refine lv_aload_n S.1 S.2.1 dX6_sweepBoth_6 rfl (lv_at hl0 0 rfl) ?_
  refine lv_aload_n S.1 S.2.1 dX6_sweepBoth_7 rfl (lv_at hl0 1 rfl) ?_
  have hF4 := (hFc1 33 (by decide)).trans hF2
  refine r_cVv (As := [.ref (ad rc)]) (rest := []) S hK hZ hP1 hS1 hl0.1 33 (by decide) hF4 (C := RX6) rfl (c_X6_sweepBehind l D cA ad t hI F1 hW1 rc hrc) (cwV 1 S.2.2.2.2 gX6_sweepBoth_X6_sweepBehind rfl rfl rfl (by decide +kernel) ⟨Nat.le_of_ble_eq_true rfl, Nat.le_of_ble_eq_true rfl⟩) rfl rfl (Nat.le_of_ble_eq_true rfl) ⟨Nat.zero_le _, Nat.zero_le _⟩ dX6_sweepBoth_8 (fun F3 H3 locs3 hr3 hP3 hS3 => ?_)
  obtain ⟨hW3, hFc3, hr3⟩ := hr3
  have hFr3 := hFr1.tr hFc3 (by simp <;> first | omega | (simp only [isC, isJ] at *; omega))
  exact hret 11 _ _ _ _ dX6_sweepBoth_11 hP3 hS3 ⟨hW3, hFr3, trivial⟩
set_option maxHeartbeats 4000000 in
set_option maxRecDepth 100000 in
theorem c_X6_someWay (l : Launch) (D : va_G) (cA ad : Nat → Nat) (t : Nat) (hI : rI ad) (F : Nat → va_E) (hW : WT cA ad F) (rc : Nat) (hrc : isC rc) (p2 : Int32) : MI l D cA ad t yX6_someWay wsX6_someWay { frames := 4, cells := 0, slots := 0, locals := 96 } [.ref (ad 33), .ref (ad rc), .int p2] F (fun r F' => WT cA ad F' ∧ rFr [36, 37] F F' ∧ (le32 1 r)) := by
  refine en_I rfl (by decide +kernel) (Nat.le_of_ble_eq_true rfl) ?_
  intro p e s m args below meth c ls0 Q S hK hZ hP hS hl0 hret
  have hl0 : lv_has ls0 3 [(0, .ref (ad 33)), (1, .ref (ad rc)), (2, .int p2)] := hl0
  have hFr : rFr [36, 37] F F := rFr.rf
  have hiX6 : ∀ w ∈ u_ws RX6 TX6 6, w ∈ wsX6_someWay := by decide +kernel
  refine lv_aload_n S.1 S.2.1 dX6_someWay_0 rfl (lv_at hl0 0 rfl) ?_
  refine lv_aload_n S.1 S.2.1 dX6_someWay_1 rfl (lv_at hl0 1 rfl) ?_
  refine lv_iload_n S.1 S.2.1 dX6_someWay_2 rfl (lv_at hl0 2 rfl) ?_
  obtain ⟨k2, hF2, hk2⟩ := wt_ways hW
  refine r_cVv (As := [.ref (ad rc), .int p2]) (rest := []) S hK hZ hP hS hl0.1 33 (by decide) hF2 (C := RX6) rfl (c_X6_sweepAhead l D cA ad t hI F hW rc hrc p2) (cwV 2 S.2.2.2.2 gX6_someWay_X6_sweepAhead rfl rfl rfl (by decide +kernel) ⟨Nat.le_of_ble_eq_true rfl, Nat.le_of_ble_eq_true rfl⟩) rfl rfl (Nat.le_of_ble_eq_true rfl) ⟨Nat.zero_le _, Nat.zero_le _⟩ dX6_someWay_3 (fun F1 H1 locs1 hr1 hP1 hS1 => ?_)
  obtain ⟨hW1, hFc1, hr1⟩ := hr1
  have hFr1 := hFr.tr hFc1 (by simp <;> first | omega | (simp only [isC, isJ] at *; omega))
  refine lv_aload_n S.1 S.2.1 dX6_someWay_6 rfl (lv_at hl0 0 rfl) ?_
  have hF3 := (hFc1 33 (by decide)).trans hF2
  refine r_get S hK hP1 33 (by decide) hF3 (C := RX6) (T := TX6) (N := 6) hiX6 rfl 4 (by decide) (by decide +kernel) (v := .ref (ad 37)) rfl dX6_someWay_7 ?_
  refine lv_bipush (v := (nI 48)) S.1 S.2.1 dX6_someWay_10 (by decide +kernel) ?_
  refine r_cSp (As := [.ref (ad 37), .int (nI 48)]) (rest := []) S hK hZ hP1 hS1 hl0.1 (c_X6_union l D cA ad t hI F1 hW1 37 (show (37, 245) ∈ rLI by decide) (by decide) (48) (by omega)) (va_cwS 2 S.2.2.2.2 gX6_someWay_X6_union rfl rfl rfl (by decide +kernel) ⟨Nat.le_of_ble_eq_true rfl, Nat.le_of_ble_eq_true rfl⟩) rfl rfl (Nat.le_of_ble_eq_true rfl) ⟨Nat.zero_le _, Nat.zero_le _⟩ dX6_someWay_12 (fun r4 hr4 => ?_)
  refine lv_if_eq (tgt := 22) S.1 S.2.1 dX6_someWay_15 (by decide) (fun c5 => ?_) (fun c5 => ?_)
  · skip
    have k6 := ci_eq rfl z_ti c5
    refine lv_iconst (v := (nI 0)) S.1 S.2.1 dX6_someWay_22 (by decide +kernel) ?_
    exact hret 23 _ _ _ _ _ dX6_someWay_23 rfl hP1 hS1 ⟨hW1, hFr1, ⟨0, by omega, rfl⟩⟩
  have k7 := ci_ne rfl z_ti c5
  refine lv_iconst (v := (nI 1)) S.1 S.2.1 dX6_someWay_18 (by decide +kernel) ?_
  refine lv_goto (tgt := 23) S.1 S.2.1 dX6_someWay_19 (by decide) ?_
  exact hret 23 _ _ _ _ _ dX6_someWay_23 rfl hP1 hS1 ⟨hW1, hFr1, ⟨1, by omega, rfl⟩⟩
set_option maxHeartbeats 4000000 in
set_option maxRecDepth 100000 in
theorem c_X6_boughtSeals (l : Launch) (D : va_G) (cA ad : Nat → Nat) (t : Nat) (hI : rI ad) (F : Nat → va_E) (hW : WT cA ad F) (rc : Nat) (hrc : isC rc) : MI l D cA ad t yX6_boughtSeals wsX6_boughtSeals { frames := 5, cells := 0, slots := 0, locals := 118 } [.ref (ad 33), .ref (ad rc)] F (fun r F' => WT cA ad F' ∧ rFr [36, 37] F F' ∧ (True)) := by
  refine en_I rfl (by decide +kernel) (Nat.le_of_ble_eq_true rfl) ?_
  intro p e s m args below meth c ls0 Q S hK hZ hP hS hl0 hret
  have hl0 : lv_has ls0 4 [(0, .ref (ad 33)), (1, .ref (ad rc))] := hl0
  have hFr : rFr [36, 37] F F := rFr.rf
  have hiX6 : ∀ w ∈ u_ws RX6 TX6 6, w ∈ wsX6_boughtSeals := by decide +kernel
  refine lv_aload_n S.1 S.2.1 dX6_boughtSeals_0 rfl (lv_at hl0 0 rfl) ?_
  refine lv_aload_n S.1 S.2.1 dX6_boughtSeals_1 rfl (lv_at hl0 1 rfl) ?_
  refine lv_iconst (v := (-1)) S.1 S.2.1 dX6_boughtSeals_2 (by decide +kernel) ?_
  obtain ⟨k2, hF2, hk2⟩ := wt_ways hW
  refine r_cVi (As := [.ref (ad rc), .int (-1)]) (rest := []) S hK hZ hP hS hl0.1 33 (by decide) hF2 (C := RX6) rfl (c_X6_someWay l D cA ad t hI F hW rc hrc (-1)) (cwV 2 S.2.2.2.2 gX6_boughtSeals_X6_someWay rfl rfl rfl (by decide +kernel) ⟨Nat.le_of_ble_eq_true rfl, Nat.le_of_ble_eq_true rfl⟩) rfl rfl (Nat.le_of_ble_eq_true rfl) ⟨Nat.zero_le _, Nat.zero_le _⟩ dX6_boughtSeals_3 (fun r1 F1 H1 locs1 hr1 hP1 hS1 => ?_)
  obtain ⟨hW1, hFc1, hr1⟩ := hr1
  have hFr1 := hFr.tr hFc1 (by simp <;> first | omega | (simp only [isC, isJ] at *; omega))
  obtain ⟨b3, hb3, rfl⟩ := hr1
  refine lv_if_eq (tgt := 11) S.1 S.2.1 dX6_boughtSeals_6 (by decide) (fun c4 => ?_) (fun c4 => ?_)
  · skip
    have k5 := ci_eq (nI_toInt (n := b3) (by omega)) z_ti c4
    refine lv_iconst (v := (nI 0)) S.1 S.2.1 dX6_boughtSeals_11 (by decide +kernel) ?_
    refine lv_istore_n (lv' := [(2, .int (nI 0)), (0, .ref (ad 33)), (1, .ref (ad rc))]) S.1 S.2.1 dX6_boughtSeals_12 rfl hl0 (by decide) rfl (fun ls6 hl6 => ?_)
    refine lv_iconst (v := (nI 0)) S.1 S.2.1 dX6_boughtSeals_13 (by decide +kernel) ?_
    refine lv_istore_n (lv' := [(3, .int (nI 0)), (2, .int (nI 0)), (0, .ref (ad 33)), (1, .ref (ad rc))]) S.1 S.2.1 dX6_boughtSeals_14 rfl hl6 (by decide) rfl (fun ls7 hl7 => ?_)
    have lp8 : ∀ (n8 : Nat) (q38 : Nat) (x8_2 : Int32), ∀ (Fl8 : Nat → va_E) (Hl8 : Heap) (lol8 : List Loc), q38 ≤ 8 → 8 - q38 < n8 → WT cA ad Fl8 → rFr [36, 37] F Fl8 → va_P D vwCl (rW ad Fl8) Hl8 → va_S (rA ad) s.heap Hl8 lol8 → ∀ (ls : Array Slot), lv_has ls 4 [(3, .int (nI q38)), (2, .int x8_2), (0, .ref (ad 33)), (1, .ref (ad rc))] → W p l e { frames := 5, cells := 0, slots := 0, locals := 118 } s m args below meth c Hl8 lol8 0 0 Q (F0 m 15 ls []) := by
      intro n8
      induction n8 with
      | zero =>
        intro q38 x8_2 Fl8 Hl8 lol8 iv8_0 hm8 hWl8 hFl8 hPl8 hSl8 ls8 hl8
        exact absurd hm8 (Nat.not_lt_zero _)
      | succ n8 ih8 =>
        intro q38 x8_2 Fl8 Hl8 lol8 iv8_0 hm8 hWl8 hFl8 hPl8 hSl8 ls8 hl8
        refine lv_iload_n S.1 S.2.1 dX6_boughtSeals_15 rfl (lv_at hl8 0 rfl) ?_
        refine lv_aload_n S.1 S.2.1 dX6_boughtSeals_16 rfl (lv_at hl8 2 rfl) ?_
        obtain ⟨k9, hF9, hk9⟩ := wt_ways hWl8
        refine r_get S hK hPl8 33 (by decide) hF9 (C := RX6) (T := TX6) (N := 6) hiX6 rfl 0 (by decide) (by decide +kernel) (v := .int (nI k9)) rfl dX6_boughtSeals_17 ?_
        refine lv_icmp_ge (tgt := 44) S.1 S.2.1 dX6_boughtSeals_20 (by decide) (fun c10 => ?_) (fun c10 => ?_)
        · skip
          have k11 := ci_le (nI_toInt (n := k9) (by omega)) (nI_toInt (n := q38) (by omega)) c10
          refine lv_iload_n S.1 S.2.1 dX6_boughtSeals_44 rfl (lv_at hl8 1 rfl) ?_
          exact hret 45 _ _ _ _ _ dX6_boughtSeals_45 rfl hPl8 hSl8 ⟨hWl8, hFl8, trivial⟩
        have k12 := ci_nle (nI_toInt (n := k9) (by omega)) (nI_toInt (n := q38) (by omega)) c10
        refine lv_aload_n S.1 S.2.1 dX6_boughtSeals_23 rfl (lv_at hl8 2 rfl) ?_
        refine lv_aload_n S.1 S.2.1 dX6_boughtSeals_24 rfl (lv_at hl8 3 rfl) ?_
        refine lv_iload_n S.1 S.2.1 dX6_boughtSeals_25 rfl (lv_at hl8 0 rfl) ?_
        refine r_cVi (As := [.ref (ad rc), .int (nI q38)]) (rest := []) S hK hZ hPl8 hSl8 hl8.1 33 (by decide) hF9 (C := RX6) rfl (c_X6_someWay l D cA ad t hI Fl8 hWl8 rc hrc (nI q38)) (cwV 2 S.2.2.2.2 gX6_boughtSeals_X6_someWay rfl rfl rfl (by decide +kernel) ⟨Nat.le_of_ble_eq_true rfl, Nat.le_of_ble_eq_true rfl⟩) rfl rfl (Nat.le_of_ble_eq_true rfl) ⟨Nat.zero_le _, Nat.zero_le _⟩ dX6_boughtSeals_26 (fun r13 F13 H13 locs13 hr13 hP13 hS13 => ?_)
        obtain ⟨hW13, hFc13, hr13⟩ := hr13
        have hFr13 := hFl8.tr hFc13 (by simp <;> first | omega | (simp only [isC, isJ] at *; omega))
        obtain ⟨b14, hb14, rfl⟩ := hr13
        refine lv_if_eq (tgt := 38) S.1 S.2.1 dX6_boughtSeals_29 (by decide) (fun c15 => ?_) (fun c15 => ?_)
        · skip
          have k16 := ci_eq (nI_toInt (n := b14) (by omega)) z_ti c15
          refine lv_iinc (v := (nI (q38 + 1))) (lv' := [(3, .int (nI (q38 + 1))), (2, .int x8_2), (0, .ref (ad 33)), (1, .ref (ad rc))]) S.1 S.2.1 dX6_boughtSeals_38 hl8 (k := 0) rfl (nI_add _ 1) (by decide) rfl (fun ls17 hl17 => ?_)
          refine lv_goto (tgt := 15) S.1 S.2.1 dX6_boughtSeals_41 (by decide) ?_
          exact ih8 (q38 + 1) (x8_2) F13 H13 locs13 (by omega) (by omega) hW13 hFr13 hP13 hS13 ls17 (lv_sub hl17 [0, 1, 2, 3] rfl)
        have k18 := ci_ne (nI_toInt (n := b14) (by omega)) z_ti c15
        refine lv_iload_n S.1 S.2.1 dX6_boughtSeals_32 rfl (lv_at hl8 1 rfl) ?_
        refine lv_iconst (v := (nI 1)) S.1 S.2.1 dX6_boughtSeals_33 (by decide +kernel) ?_
        refine lv_iload_n S.1 S.2.1 dX6_boughtSeals_34 rfl (lv_at hl8 0 rfl) ?_
        refine lv_ishl S.1 S.2.1 dX6_boughtSeals_35 ?_
        refine lv_topi (fun v19 e19 => ?_)
        refine lv_ior S.1 S.2.1 dX6_boughtSeals_36 ?_
        refine lv_topi (fun v20 e20 => ?_)
        refine lv_istore_n (lv' := [(2, .int v20), (3, .int (nI q38)), (0, .ref (ad 33)), (1, .ref (ad rc))]) S.1 S.2.1 dX6_boughtSeals_37 rfl hl8 (by decide) rfl (fun ls21 hl21 => ?_)
        refine lv_iinc (v := (nI (q38 + 1))) (lv' := [(3, .int (nI (q38 + 1))), (2, .int v20), (0, .ref (ad 33)), (1, .ref (ad rc))]) S.1 S.2.1 dX6_boughtSeals_38 hl21 (k := 1) rfl (nI_add _ 1) (by decide) rfl (fun ls22 hl22 => ?_)
        refine lv_goto (tgt := 15) S.1 S.2.1 dX6_boughtSeals_41 (by decide) ?_
        exact ih8 (q38 + 1) (v20) F13 H13 locs13 (by omega) (by omega) hW13 hFr13 hP13 hS13 ls22 (lv_sub hl22 [0, 1, 2, 3] rfl)
    exact lp8 (8 - (0) + 1) (0) ((nI 0)) F1 H1 locs1 (by omega) (by omega) hW1 hFr1 hP1 hS1 ls7 (lv_sub hl7 [0, 1, 2, 3] rfl)
  have k23 := ci_ne (nI_toInt (n := b3) (by omega)) z_ti c4
  refine lv_iconst (v := (nI 0)) S.1 S.2.1 dX6_boughtSeals_9 (by decide +kernel) ?_
  exact hret 10 _ _ _ _ _ dX6_boughtSeals_10 rfl hP1 hS1 ⟨hW1, hFr1, trivial⟩
set_option maxHeartbeats 4000000 in
set_option maxRecDepth 100000 in
theorem c_X6_widestMonth (l : Launch) (D : va_G) (cA ad : Nat → Nat) (t : Nat) (hI : rI ad) (F : Nat → va_E) (hW : WT cA ad F) : MP l D cA ad t yX6_widestMonth wsX6_widestMonth { frames := 1, cells := 0, slots := 0, locals := 23 } [.ref (ad 33)] F (fun r => True) := by
  refine en_P rfl (by decide +kernel) (Nat.le_of_ble_eq_true rfl) ?_
  intro p e s m args below meth c ls0 Q S hK hZ hP hS hl0 hret
  have hl0 : lv_has ls0 5 [(0, .ref (ad 33))] := hl0
  refine lv_iconst (v := (-1)) S.1 S.2.1 dX6_widestMonth_0 (by decide +kernel) ?_
  refine lv_istore_n (lv' := [(1, .int (-1)), (0, .ref (ad 33))]) S.1 S.2.1 dX6_widestMonth_1 rfl hl0 (by decide) rfl (fun ls1 hl1 => ?_)
  refine lv_iconst (v := (nI 1)) S.1 S.2.1 dX6_widestMonth_2 (by decide +kernel) ?_
  refine lv_istore_n (lv' := [(2, .int (nI 1)), (1, .int (-1)), (0, .ref (ad 33))]) S.1 S.2.1 dX6_widestMonth_3 rfl hl1 (by decide) rfl (fun ls2 hl2 => ?_)
  refine lv_iconst (v := (nI 1)) S.1 S.2.1 dX6_widestMonth_4 (by decide +kernel) ?_
  refine lv_istore_n (lv' := [(3, .int (nI 1)), (2, .int (nI 1)), (1, .int (-1)), (0, .ref (ad 33))]) S.1 S.2.1 dX6_widestMonth_5 rfl hl2 (by decide) rfl (fun ls3 hl3 => ?_)
  have lp4 : ∀ (n4 : Nat) (q34 : Nat) (x4_2 : Int32) (x4_1 : Int32), 1 ≤ q34 ∧ q34 ≤ 49 → 49 - q34 < n4 → ∀ (ls : Array Slot), lv_has ls 5 [(3, .int (nI q34)), (2, .int x4_2), (1, .int x4_1), (0, .ref (ad 33))] → W p l e { frames := 1, cells := 0, slots := 0, locals := 23 } s m args below meth c s.heap [] 0 0 Q (F0 m 6 ls []) := by
    intro n4
    induction n4 with
    | zero =>
      intro q34 x4_2 x4_1 iv4_0 hm4 ls4 hl4
      exact absurd hm4 (Nat.not_lt_zero _)
    | succ n4 ih4 =>
      intro q34 x4_2 x4_1 iv4_0 hm4 ls4 hl4
      refine lv_iload_n S.1 S.2.1 dX6_widestMonth_6 rfl (lv_at hl4 0 rfl) ?_
      refine lv_bipush (v := (nI 48)) S.1 S.2.1 dX6_widestMonth_7 (by decide +kernel) ?_
      refine lv_icmp_gt (tgt := 39) S.1 S.2.1 dX6_widestMonth_9 (by decide) (fun c5 => ?_) (fun c5 => ?_)
      · skip
        have k6 := ci_lt (nI_toInt (n := 48) (by omega)) (nI_toInt (n := q34) (by omega)) c5
        refine lv_iload_n S.1 S.2.1 dX6_widestMonth_39 rfl (lv_at hl4 2 rfl) ?_
        exact hret 40 _ _ dX6_widestMonth_40 rfl (trivial)
      have k7 := ci_nlt (nI_toInt (n := 48) (by omega)) (nI_toInt (n := q34) (by omega)) c5
      refine lv_aload_n S.1 S.2.1 dX6_widestMonth_12 rfl (lv_at hl4 3 rfl) ?_
      refine lv_iload_n S.1 S.2.1 dX6_widestMonth_13 rfl (lv_at hl4 0 rfl) ?_
      obtain ⟨k9, hF9, hk9⟩ := wt_ways hW
      refine r_cVp (As := [.int (nI q34)]) (rest := []) S hK hZ hP hS hl4.1 33 (by decide) hF9 (C := RX6) rfl (c_X6_townsAt l D cA ad t hI F hW (q34) (by omega)) (cwV 1 S.2.2.2.2 gX6_widestMonth_X6_townsAt rfl rfl rfl (by decide +kernel) ⟨Nat.le_of_ble_eq_true rfl, Nat.le_of_ble_eq_true rfl⟩) rfl rfl (Nat.le_of_ble_eq_true rfl) ⟨Nat.zero_le _, Nat.zero_le _⟩ dX6_widestMonth_14 (fun r8 hr8 => ?_)
      refine r_cSp (As := [.int r8]) (rest := []) S hK hZ hP hS hl4.1 (c_J6_bitCount_0f7a4 l D cA ad t hI F hW r8) (va_cwS 1 S.2.2.2.2 gX6_widestMonth_J6_bitCount_0f7a4 rfl rfl rfl (by decide +kernel) ⟨Nat.le_of_ble_eq_true rfl, Nat.le_of_ble_eq_true rfl⟩) rfl rfl (Nat.le_of_ble_eq_true rfl) ⟨Nat.zero_le _, Nat.zero_le _⟩ dX6_widestMonth_17 (fun r10 hr10 => ?_)
      refine lv_istore (lv' := [(4, .int r10), (3, .int (nI q34)), (2, .int x4_2), (1, .int x4_1), (0, .ref (ad 33))]) S.1 S.2.1 dX6_widestMonth_20 hl4 (by decide) rfl (fun ls11 hl11 => ?_)
      refine lv_iload S.1 S.2.1 dX6_widestMonth_22 (lv_at hl11 0 rfl) ?_
      refine lv_iload_n S.1 S.2.1 dX6_widestMonth_24 rfl (lv_at hl11 2 rfl) ?_
      refine lv_icmp_le (tgt := 33) S.1 S.2.1 dX6_widestMonth_25 (by decide) (fun c12 => ?_) (fun c12 => ?_)
      · skip
        have k13 := ci_le rfl rfl c12
        refine lv_iinc (v := (nI (q34 + 1))) (lv' := [(3, .int (nI (q34 + 1))), (4, .int r10), (2, .int x4_2), (1, .int x4_1), (0, .ref (ad 33))]) S.1 S.2.1 dX6_widestMonth_33 hl11 (k := 1) rfl (nI_add _ 1) (by decide) rfl (fun ls14 hl14 => ?_)
        refine lv_goto (tgt := 6) S.1 S.2.1 dX6_widestMonth_36 (by decide) ?_
        exact ih4 (q34 + 1) (x4_2) (x4_1) (by omega) (by omega) ls14 (lv_sub hl14 [0, 2, 3, 4] rfl)
      have k15 := ci_nle rfl rfl c12
      refine lv_iload S.1 S.2.1 dX6_widestMonth_28 (lv_at hl11 0 rfl) ?_
      refine lv_istore_n (lv' := [(2, .int r10), (4, .int r10), (3, .int (nI q34)), (1, .int x4_1), (0, .ref (ad 33))]) S.1 S.2.1 dX6_widestMonth_30 rfl hl11 (by decide) rfl (fun ls16 hl16 => ?_)
      refine lv_iload_n S.1 S.2.1 dX6_widestMonth_31 rfl (lv_at hl16 2 rfl) ?_
      refine lv_istore_n (lv' := [(1, .int (nI q34)), (2, .int r10), (4, .int r10), (3, .int (nI q34)), (0, .ref (ad 33))]) S.1 S.2.1 dX6_widestMonth_32 rfl hl16 (by decide) rfl (fun ls17 hl17 => ?_)
      refine lv_iinc (v := (nI (q34 + 1))) (lv' := [(3, .int (nI (q34 + 1))), (1, .int (nI q34)), (2, .int r10), (4, .int r10), (0, .ref (ad 33))]) S.1 S.2.1 dX6_widestMonth_33 hl17 (k := 3) rfl (nI_add _ 1) (by decide) rfl (fun ls18 hl18 => ?_)
      refine lv_goto (tgt := 6) S.1 S.2.1 dX6_widestMonth_36 (by decide) ?_
      exact ih4 (q34 + 1) (r10) ((nI q34)) (by omega) (by omega) ls18 (lv_sub hl18 [0, 2, 1, 4] rfl)
  exact lp4 (49 - (1) + 1) (1) ((nI 1)) ((-1)) (by omega) (by omega) ls3 (lv_sub hl3 [0, 1, 2, 3] rfl)
