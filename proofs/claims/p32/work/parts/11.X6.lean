noncomputable def m_J6_bitCount_0f7a4 (σ : SS) (a0 : Int32) : Int32 :=
  ((((((((a0 - ((ius a0 (nI 1)) &&& (1431655765))) &&& (858993459)) + ((ius (a0 - ((ius a0 (nI 1)) &&& (1431655765))) (nI 2)) &&& (858993459))) + (ius (((a0 - ((ius a0 (nI 1)) &&& (1431655765))) &&& (858993459)) + ((ius (a0 - ((ius a0 (nI 1)) &&& (1431655765))) (nI 2)) &&& (858993459))) (nI 4))) &&& (252645135)) + (ius (((((a0 - ((ius a0 (nI 1)) &&& (1431655765))) &&& (858993459)) + ((ius (a0 - ((ius a0 (nI 1)) &&& (1431655765))) (nI 2)) &&& (858993459))) + (ius (((a0 - ((ius a0 (nI 1)) &&& (1431655765))) &&& (858993459)) + ((ius (a0 - ((ius a0 (nI 1)) &&& (1431655765))) (nI 2)) &&& (858993459))) (nI 4))) &&& (252645135)) (nI 8))) + (ius ((((((a0 - ((ius a0 (nI 1)) &&& (1431655765))) &&& (858993459)) + ((ius (a0 - ((ius a0 (nI 1)) &&& (1431655765))) (nI 2)) &&& (858993459))) + (ius (((a0 - ((ius a0 (nI 1)) &&& (1431655765))) &&& (858993459)) + ((ius (a0 - ((ius a0 (nI 1)) &&& (1431655765))) (nI 2)) &&& (858993459))) (nI 4))) &&& (252645135)) + (ius (((((a0 - ((ius a0 (nI 1)) &&& (1431655765))) &&& (858993459)) + ((ius (a0 - ((ius a0 (nI 1)) &&& (1431655765))) (nI 2)) &&& (858993459))) + (ius (((a0 - ((ius a0 (nI 1)) &&& (1431655765))) &&& (858993459)) + ((ius (a0 - ((ius a0 (nI 1)) &&& (1431655765))) (nI 2)) &&& (858993459))) (nI 4))) &&& (252645135)) (nI 8))) (nI 16))) &&& (nI 63))
set_option maxHeartbeats 4000000 in
set_option maxRecDepth 100000 in
theorem c_J6_bitCount_0f7a4 (l : Launch) (D : va_G) (cA ad : Nat → Nat) (t : Nat) (hI : rI ad) (F : Nat → va_E) (hW : WT cA ad F) (p1 : Int32) : MP l D cA ad t yJ6_bitCount_0f7a4 wsJ6_bitCount_0f7a4 { frames := 0, cells := 0, slots := 0, locals := 0 } [.int p1] F (fun r => (True) ∧ m_J6_bitCount_0f7a4 (AB ad F) p1 = r) := by
  refine en_P rfl (by decide +kernel) (Nat.le_of_ble_eq_true rfl) ?_
  intro p e s m args below meth c ls0 Q S hK hZ hP hS hl0 hret
  have hl0 : lv_has ls0 1 [(0, .int p1)] := hl0
  obtain ⟨M, hM⟩ : ∃ M, M = m_J6_bitCount_0f7a4 (AB ad F) p1 := ⟨_, rfl⟩
  refine lv_iload_n S.1 S.2.1 dJ6_bitCount_0f7a4_0 rfl (lv_at hl0 0 rfl) ?_
  refine lv_iload_n S.1 S.2.1 dJ6_bitCount_0f7a4_1 rfl (lv_at hl0 0 rfl) ?_
  refine lv_iconst (v := (nI 1)) S.1 S.2.1 dJ6_bitCount_0f7a4_2 (by decide +kernel) ?_
  refine lv_iushr S.1 S.2.1 dJ6_bitCount_0f7a4_3 rfl ?_
  refine lv_topi (fun v1 e1 => ?_)
  have m2 : (ius p1 (nI 1)) = v1 := cg2 (fun (x : Int32) (y : Int32) => ius x y) (Eq.refl (p1 : Int32)) (Eq.refl ((nI 1) : Int32)) e1
  refine lv_ldcw (v := (1431655765)) S.1 S.2.1 S.2.2.2.1 (S.2.2.2.2 (.constant RJ6 265 (1431655765)) (am_at in_wsJ6_bitCount_0f7a4_0 0 rfl)) dJ6_bitCount_0f7a4_4 ?_
  refine lv_iand S.1 S.2.1 dJ6_bitCount_0f7a4_7 ?_
  refine lv_topi (fun v3 e3 => ?_)
  have m4 : ((ius p1 (nI 1)) &&& (1431655765)) = v3 := cg2 (fun (x : Int32) (y : Int32) => x &&& y) m2 (Eq.refl ((1431655765) : Int32)) e3
  refine lv_isub S.1 S.2.1 dJ6_bitCount_0f7a4_8 ?_
  refine lv_topi (fun v5 e5 => ?_)
  have m6 : (p1 - ((ius p1 (nI 1)) &&& (1431655765))) = v5 := cg2 (fun (x : Int32) (y : Int32) => x - y) (Eq.refl (p1 : Int32)) m4 e5
  refine lv_istore_n (lv' := [(0, .int v5)]) S.1 S.2.1 dJ6_bitCount_0f7a4_9 rfl hl0 (by decide) rfl (fun ls7 hl7 => ?_)
  refine lv_iload_n S.1 S.2.1 dJ6_bitCount_0f7a4_10 rfl (lv_at hl7 0 rfl) ?_
  refine lv_ldcw (v := (858993459)) S.1 S.2.1 S.2.2.2.1 (S.2.2.2.2 (.constant RJ6 266 (858993459)) (am_at in_wsJ6_bitCount_0f7a4_0 1 rfl)) dJ6_bitCount_0f7a4_11 ?_
  refine lv_iand S.1 S.2.1 dJ6_bitCount_0f7a4_14 ?_
  refine lv_topi (fun v8 e8 => ?_)
  have m9 : ((p1 - ((ius p1 (nI 1)) &&& (1431655765))) &&& (858993459)) = v8 := cg2 (fun (x : Int32) (y : Int32) => x &&& y) m6 (Eq.refl ((858993459) : Int32)) e8
  refine lv_iload_n S.1 S.2.1 dJ6_bitCount_0f7a4_15 rfl (lv_at hl7 0 rfl) ?_
  refine lv_iconst (v := (nI 2)) S.1 S.2.1 dJ6_bitCount_0f7a4_16 (by decide +kernel) ?_
  refine lv_iushr S.1 S.2.1 dJ6_bitCount_0f7a4_17 rfl ?_
  refine lv_topi (fun v10 e10 => ?_)
  have m11 : (ius (p1 - ((ius p1 (nI 1)) &&& (1431655765))) (nI 2)) = v10 := cg2 (fun (x : Int32) (y : Int32) => ius x y) m6 (Eq.refl ((nI 2) : Int32)) e10
  refine lv_ldcw (v := (858993459)) S.1 S.2.1 S.2.2.2.1 (S.2.2.2.2 (.constant RJ6 266 (858993459)) (am_at in_wsJ6_bitCount_0f7a4_0 1 rfl)) dJ6_bitCount_0f7a4_18 ?_
  refine lv_iand S.1 S.2.1 dJ6_bitCount_0f7a4_21 ?_
  refine lv_topi (fun v12 e12 => ?_)
  have m13 : ((ius (p1 - ((ius p1 (nI 1)) &&& (1431655765))) (nI 2)) &&& (858993459)) = v12 := cg2 (fun (x : Int32) (y : Int32) => x &&& y) m11 (Eq.refl ((858993459) : Int32)) e12
  refine lv_iadd S.1 S.2.1 dJ6_bitCount_0f7a4_22 ?_
  refine lv_topi (fun v14 e14 => ?_)
  have m15 : (((p1 - ((ius p1 (nI 1)) &&& (1431655765))) &&& (858993459)) + ((ius (p1 - ((ius p1 (nI 1)) &&& (1431655765))) (nI 2)) &&& (858993459))) = v14 := cg2 (fun (x : Int32) (y : Int32) => x + y) m9 m13 e14
  refine lv_istore_n (lv' := [(0, .int v14)]) S.1 S.2.1 dJ6_bitCount_0f7a4_23 rfl hl7 (by decide) rfl (fun ls16 hl16 => ?_)
  refine lv_iload_n S.1 S.2.1 dJ6_bitCount_0f7a4_24 rfl (lv_at hl16 0 rfl) ?_
  refine lv_iload_n S.1 S.2.1 dJ6_bitCount_0f7a4_25 rfl (lv_at hl16 0 rfl) ?_
  refine lv_iconst (v := (nI 4)) S.1 S.2.1 dJ6_bitCount_0f7a4_26 (by decide +kernel) ?_
  refine lv_iushr S.1 S.2.1 dJ6_bitCount_0f7a4_27 rfl ?_
  refine lv_topi (fun v17 e17 => ?_)
  have m18 : (ius (((p1 - ((ius p1 (nI 1)) &&& (1431655765))) &&& (858993459)) + ((ius (p1 - ((ius p1 (nI 1)) &&& (1431655765))) (nI 2)) &&& (858993459))) (nI 4)) = v17 := cg2 (fun (x : Int32) (y : Int32) => ius x y) m15 (Eq.refl ((nI 4) : Int32)) e17
  refine lv_iadd S.1 S.2.1 dJ6_bitCount_0f7a4_28 ?_
  refine lv_topi (fun v19 e19 => ?_)
  have m20 : ((((p1 - ((ius p1 (nI 1)) &&& (1431655765))) &&& (858993459)) + ((ius (p1 - ((ius p1 (nI 1)) &&& (1431655765))) (nI 2)) &&& (858993459))) + (ius (((p1 - ((ius p1 (nI 1)) &&& (1431655765))) &&& (858993459)) + ((ius (p1 - ((ius p1 (nI 1)) &&& (1431655765))) (nI 2)) &&& (858993459))) (nI 4))) = v19 := cg2 (fun (x : Int32) (y : Int32) => x + y) m15 m18 e19
  refine lv_ldcw (v := (252645135)) S.1 S.2.1 S.2.2.2.1 (S.2.2.2.2 (.constant RJ6 267 (252645135)) (am_at in_wsJ6_bitCount_0f7a4_0 2 rfl)) dJ6_bitCount_0f7a4_29 ?_
  refine lv_iand S.1 S.2.1 dJ6_bitCount_0f7a4_32 ?_
  refine lv_topi (fun v21 e21 => ?_)
  have m22 : (((((p1 - ((ius p1 (nI 1)) &&& (1431655765))) &&& (858993459)) + ((ius (p1 - ((ius p1 (nI 1)) &&& (1431655765))) (nI 2)) &&& (858993459))) + (ius (((p1 - ((ius p1 (nI 1)) &&& (1431655765))) &&& (858993459)) + ((ius (p1 - ((ius p1 (nI 1)) &&& (1431655765))) (nI 2)) &&& (858993459))) (nI 4))) &&& (252645135)) = v21 := cg2 (fun (x : Int32) (y : Int32) => x &&& y) m20 (Eq.refl ((252645135) : Int32)) e21
  refine lv_istore_n (lv' := [(0, .int v21)]) S.1 S.2.1 dJ6_bitCount_0f7a4_33 rfl hl16 (by decide) rfl (fun ls23 hl23 => ?_)
  refine lv_iload_n S.1 S.2.1 dJ6_bitCount_0f7a4_34 rfl (lv_at hl23 0 rfl) ?_
  refine lv_iload_n S.1 S.2.1 dJ6_bitCount_0f7a4_35 rfl (lv_at hl23 0 rfl) ?_
  refine lv_bipush (v := (nI 8)) S.1 S.2.1 dJ6_bitCount_0f7a4_36 (by decide +kernel) ?_
  refine lv_iushr S.1 S.2.1 dJ6_bitCount_0f7a4_38 rfl ?_
  refine lv_topi (fun v24 e24 => ?_)
  have m25 : (ius (((((p1 - ((ius p1 (nI 1)) &&& (1431655765))) &&& (858993459)) + ((ius (p1 - ((ius p1 (nI 1)) &&& (1431655765))) (nI 2)) &&& (858993459))) + (ius (((p1 - ((ius p1 (nI 1)) &&& (1431655765))) &&& (858993459)) + ((ius (p1 - ((ius p1 (nI 1)) &&& (1431655765))) (nI 2)) &&& (858993459))) (nI 4))) &&& (252645135)) (nI 8)) = v24 := cg2 (fun (x : Int32) (y : Int32) => ius x y) m22 (Eq.refl ((nI 8) : Int32)) e24
  refine lv_iadd S.1 S.2.1 dJ6_bitCount_0f7a4_39 ?_
  refine lv_topi (fun v26 e26 => ?_)
  have m27 : ((((((p1 - ((ius p1 (nI 1)) &&& (1431655765))) &&& (858993459)) + ((ius (p1 - ((ius p1 (nI 1)) &&& (1431655765))) (nI 2)) &&& (858993459))) + (ius (((p1 - ((ius p1 (nI 1)) &&& (1431655765))) &&& (858993459)) + ((ius (p1 - ((ius p1 (nI 1)) &&& (1431655765))) (nI 2)) &&& (858993459))) (nI 4))) &&& (252645135)) + (ius (((((p1 - ((ius p1 (nI 1)) &&& (1431655765))) &&& (858993459)) + ((ius (p1 - ((ius p1 (nI 1)) &&& (1431655765))) (nI 2)) &&& (858993459))) + (ius (((p1 - ((ius p1 (nI 1)) &&& (1431655765))) &&& (858993459)) + ((ius (p1 - ((ius p1 (nI 1)) &&& (1431655765))) (nI 2)) &&& (858993459))) (nI 4))) &&& (252645135)) (nI 8))) = v26 := cg2 (fun (x : Int32) (y : Int32) => x + y) m22 m25 e26
  refine lv_istore_n (lv' := [(0, .int v26)]) S.1 S.2.1 dJ6_bitCount_0f7a4_40 rfl hl23 (by decide) rfl (fun ls28 hl28 => ?_)
  refine lv_iload_n S.1 S.2.1 dJ6_bitCount_0f7a4_41 rfl (lv_at hl28 0 rfl) ?_
  refine lv_iload_n S.1 S.2.1 dJ6_bitCount_0f7a4_42 rfl (lv_at hl28 0 rfl) ?_
  refine lv_bipush (v := (nI 16)) S.1 S.2.1 dJ6_bitCount_0f7a4_43 (by decide +kernel) ?_
  refine lv_iushr S.1 S.2.1 dJ6_bitCount_0f7a4_45 rfl ?_
  refine lv_topi (fun v29 e29 => ?_)
  have m30 : (ius ((((((p1 - ((ius p1 (nI 1)) &&& (1431655765))) &&& (858993459)) + ((ius (p1 - ((ius p1 (nI 1)) &&& (1431655765))) (nI 2)) &&& (858993459))) + (ius (((p1 - ((ius p1 (nI 1)) &&& (1431655765))) &&& (858993459)) + ((ius (p1 - ((ius p1 (nI 1)) &&& (1431655765))) (nI 2)) &&& (858993459))) (nI 4))) &&& (252645135)) + (ius (((((p1 - ((ius p1 (nI 1)) &&& (1431655765))) &&& (858993459)) + ((ius (p1 - ((ius p1 (nI 1)) &&& (1431655765))) (nI 2)) &&& (858993459))) + (ius (((p1 - ((ius p1 (nI 1)) &&& (1431655765))) &&& (858993459)) + ((ius (p1 - ((ius p1 (nI 1)) &&& (1431655765))) (nI 2)) &&& (858993459))) (nI 4))) &&& (252645135)) (nI 8))) (nI 16)) = v29 := cg2 (fun (x : Int32) (y : Int32) => ius x y) m27 (Eq.refl ((nI 16) : Int32)) e29
  refine lv_iadd S.1 S.2.1 dJ6_bitCount_0f7a4_46 ?_
  refine lv_topi (fun v31 e31 => ?_)
  have m32 : (((((((p1 - ((ius p1 (nI 1)) &&& (1431655765))) &&& (858993459)) + ((ius (p1 - ((ius p1 (nI 1)) &&& (1431655765))) (nI 2)) &&& (858993459))) + (ius (((p1 - ((ius p1 (nI 1)) &&& (1431655765))) &&& (858993459)) + ((ius (p1 - ((ius p1 (nI 1)) &&& (1431655765))) (nI 2)) &&& (858993459))) (nI 4))) &&& (252645135)) + (ius (((((p1 - ((ius p1 (nI 1)) &&& (1431655765))) &&& (858993459)) + ((ius (p1 - ((ius p1 (nI 1)) &&& (1431655765))) (nI 2)) &&& (858993459))) + (ius (((p1 - ((ius p1 (nI 1)) &&& (1431655765))) &&& (858993459)) + ((ius (p1 - ((ius p1 (nI 1)) &&& (1431655765))) (nI 2)) &&& (858993459))) (nI 4))) &&& (252645135)) (nI 8))) + (ius ((((((p1 - ((ius p1 (nI 1)) &&& (1431655765))) &&& (858993459)) + ((ius (p1 - ((ius p1 (nI 1)) &&& (1431655765))) (nI 2)) &&& (858993459))) + (ius (((p1 - ((ius p1 (nI 1)) &&& (1431655765))) &&& (858993459)) + ((ius (p1 - ((ius p1 (nI 1)) &&& (1431655765))) (nI 2)) &&& (858993459))) (nI 4))) &&& (252645135)) + (ius (((((p1 - ((ius p1 (nI 1)) &&& (1431655765))) &&& (858993459)) + ((ius (p1 - ((ius p1 (nI 1)) &&& (1431655765))) (nI 2)) &&& (858993459))) + (ius (((p1 - ((ius p1 (nI 1)) &&& (1431655765))) &&& (858993459)) + ((ius (p1 - ((ius p1 (nI 1)) &&& (1431655765))) (nI 2)) &&& (858993459))) (nI 4))) &&& (252645135)) (nI 8))) (nI 16))) = v31 := cg2 (fun (x : Int32) (y : Int32) => x + y) m27 m30 e31
  refine lv_istore_n (lv' := [(0, .int v31)]) S.1 S.2.1 dJ6_bitCount_0f7a4_47 rfl hl28 (by decide) rfl (fun ls33 hl33 => ?_)
  refine lv_iload_n S.1 S.2.1 dJ6_bitCount_0f7a4_48 rfl (lv_at hl33 0 rfl) ?_
  refine lv_bipush (v := (nI 63)) S.1 S.2.1 dJ6_bitCount_0f7a4_49 (by decide +kernel) ?_
  refine lv_iand S.1 S.2.1 dJ6_bitCount_0f7a4_51 ?_
  refine lv_topi (fun v34 e34 => ?_)
  have m35 : ((((((((p1 - ((ius p1 (nI 1)) &&& (1431655765))) &&& (858993459)) + ((ius (p1 - ((ius p1 (nI 1)) &&& (1431655765))) (nI 2)) &&& (858993459))) + (ius (((p1 - ((ius p1 (nI 1)) &&& (1431655765))) &&& (858993459)) + ((ius (p1 - ((ius p1 (nI 1)) &&& (1431655765))) (nI 2)) &&& (858993459))) (nI 4))) &&& (252645135)) + (ius (((((p1 - ((ius p1 (nI 1)) &&& (1431655765))) &&& (858993459)) + ((ius (p1 - ((ius p1 (nI 1)) &&& (1431655765))) (nI 2)) &&& (858993459))) + (ius (((p1 - ((ius p1 (nI 1)) &&& (1431655765))) &&& (858993459)) + ((ius (p1 - ((ius p1 (nI 1)) &&& (1431655765))) (nI 2)) &&& (858993459))) (nI 4))) &&& (252645135)) (nI 8))) + (ius ((((((p1 - ((ius p1 (nI 1)) &&& (1431655765))) &&& (858993459)) + ((ius (p1 - ((ius p1 (nI 1)) &&& (1431655765))) (nI 2)) &&& (858993459))) + (ius (((p1 - ((ius p1 (nI 1)) &&& (1431655765))) &&& (858993459)) + ((ius (p1 - ((ius p1 (nI 1)) &&& (1431655765))) (nI 2)) &&& (858993459))) (nI 4))) &&& (252645135)) + (ius (((((p1 - ((ius p1 (nI 1)) &&& (1431655765))) &&& (858993459)) + ((ius (p1 - ((ius p1 (nI 1)) &&& (1431655765))) (nI 2)) &&& (858993459))) + (ius (((p1 - ((ius p1 (nI 1)) &&& (1431655765))) &&& (858993459)) + ((ius (p1 - ((ius p1 (nI 1)) &&& (1431655765))) (nI 2)) &&& (858993459))) (nI 4))) &&& (252645135)) (nI 8))) (nI 16))) &&& (nI 63)) = v34 := cg2 (fun (x : Int32) (y : Int32) => x &&& y) m32 (Eq.refl ((nI 63) : Int32)) e34
  have hE36 : M = v34 := hM.trans ((show m_J6_bitCount_0f7a4 (AB ad F) p1 = ((((((((p1 - ((ius p1 (nI 1)) &&& (1431655765))) &&& (858993459)) + ((ius (p1 - ((ius p1 (nI 1)) &&& (1431655765))) (nI 2)) &&& (858993459))) + (ius (((p1 - ((ius p1 (nI 1)) &&& (1431655765))) &&& (858993459)) + ((ius (p1 - ((ius p1 (nI 1)) &&& (1431655765))) (nI 2)) &&& (858993459))) (nI 4))) &&& (252645135)) + (ius (((((p1 - ((ius p1 (nI 1)) &&& (1431655765))) &&& (858993459)) + ((ius (p1 - ((ius p1 (nI 1)) &&& (1431655765))) (nI 2)) &&& (858993459))) + (ius (((p1 - ((ius p1 (nI 1)) &&& (1431655765))) &&& (858993459)) + ((ius (p1 - ((ius p1 (nI 1)) &&& (1431655765))) (nI 2)) &&& (858993459))) (nI 4))) &&& (252645135)) (nI 8))) + (ius ((((((p1 - ((ius p1 (nI 1)) &&& (1431655765))) &&& (858993459)) + ((ius (p1 - ((ius p1 (nI 1)) &&& (1431655765))) (nI 2)) &&& (858993459))) + (ius (((p1 - ((ius p1 (nI 1)) &&& (1431655765))) &&& (858993459)) + ((ius (p1 - ((ius p1 (nI 1)) &&& (1431655765))) (nI 2)) &&& (858993459))) (nI 4))) &&& (252645135)) + (ius (((((p1 - ((ius p1 (nI 1)) &&& (1431655765))) &&& (858993459)) + ((ius (p1 - ((ius p1 (nI 1)) &&& (1431655765))) (nI 2)) &&& (858993459))) + (ius (((p1 - ((ius p1 (nI 1)) &&& (1431655765))) &&& (858993459)) + ((ius (p1 - ((ius p1 (nI 1)) &&& (1431655765))) (nI 2)) &&& (858993459))) (nI 4))) &&& (252645135)) (nI 8))) (nI 16))) &&& (nI 63)) from rfl).trans m35)
  exact hret 52 _ _ dJ6_bitCount_0f7a4_52 rfl (⟨trivial, hM.symm.trans hE36⟩)
noncomputable def m_X6_add_23 (σ : SS) (a0 : Int32) (a1 : Int32) : SS :=
  σ
noncomputable def m_X6_add_16 (σ : SS) (a0 : Int32) (a1 : Int32) : SS :=
  m_X6_add_23 (st σ 33 0 ((σ 33 0) + (nI 1))) a0 a1
noncomputable def m_X6_add_10 (σ : SS) (a0 : Int32) (a1 : Int32) : SS :=
  m_X6_add_16 (st σ 35 (rl (σ 33 0)) a1) a0 a1
noncomputable def m_X6_add (σ : SS) (a0 : Int32) (a1 : Int32) : SS :=
  if (nI 8) ≤ (σ 33 0) then
    σ
  else
    m_X6_add_10 (st σ 34 (rl (σ 33 0)) a0) a0 a1
set_option maxHeartbeats 4000000 in
set_option maxRecDepth 100000 in
theorem c_X6_add (l : Launch) (D : va_G) (cA ad : Nat → Nat) (t : Nat) (hI : rI ad) (F : Nat → va_E) (hW : WT cA ad F) (p1 : Int32) (p2 : Int32) : MV l D cA ad t yX6_add wsX6_add { frames := 0, cells := 0, slots := 0, locals := 0 } [.ref (ad 33), .int p1, .int p2] F (fun F' => WT cA ad F' ∧ rFr [33, 34, 35] F F' ∧ ((True) ∧ m_X6_add (AB ad F) p1 p2 = AB ad F')) := by
  refine en_V rfl (by decide +kernel) (Nat.le_of_ble_eq_true rfl) ?_
  intro p e s m args below meth c ls0 Q S hK hZ hP hS hl0 hret
  have hl0 : lv_has ls0 3 [(0, .ref (ad 33)), (1, .int p1), (2, .int p2)] := hl0
  have hFr : rFr [33, 34, 35] F F := rFr.rf
  have hiX6 : ∀ w ∈ u_ws RX6 TX6 6, w ∈ wsX6_add := in_wsX6_add_1
  obtain ⟨M, hM⟩ : ∃ M, M = m_X6_add (AB ad F) p1 p2 := ⟨_, rfl⟩
  refine lv_aload_n S.1 S.2.1 dX6_add_0 rfl (lv_at hl0 0 rfl) ?_
  obtain ⟨k1, hF1, hk1⟩ := wt_ways hW
  refine r_get S hK hP 33 (by decide) hF1 (C := RX6) (T := TX6) (N := 6) hiX6 rfl 0 (by decide) (am_at in_wsX6_add_0 0 rfl) (v := .int (nI k1)) rfl dX6_add_1 ?_
  have m2 : ((AB ad F) 33 0) = (nI k1) := AB_f hF1 rfl
  refine lv_bipush (v := (nI 8)) S.1 S.2.1 dX6_add_4 (by decide +kernel) ?_
  refine lv_icmp_ge (tgt := 39) S.1 S.2.1 dX6_add_6 (by decide) (fun c3 => ?_) (fun c3 => ?_)
  · skip
    have k4 := ci_le (nI_toInt (n := 8) (by decide)) (nI_toInt (n := k1) (by omega)) c3
    have hE5 : M = AB ad F := hM.trans ((show m_X6_add (AB ad F) p1 p2 = (AB ad F) from by unfold m_X6_add; rw [if_pos (le_cg rfl m2 c3)]).trans rfl)
    exact hret 39 _ _ _ _ dX6_add_39 hP hS ⟨hW, hFr, ⟨trivial, hM.symm.trans hE5⟩⟩
  have k6 := ci_nle (nI_toInt (n := 8) (by decide)) (nI_toInt (n := k1) (by omega)) c3
  refine lv_aload_n S.1 S.2.1 dX6_add_9 rfl (lv_at hl0 0 rfl) ?_
  refine r_get S hK hP 33 (by decide) hF1 (C := RX6) (T := TX6) (N := 6) hiX6 rfl 1 (by decide) (am_at in_wsX6_add_0 1 rfl) (v := .ref (ad 34)) rfl dX6_add_10 ?_
  refine lv_aload_n S.1 S.2.1 dX6_add_13 rfl (lv_at hl0 0 rfl) ?_
  refine r_get S hK hP 33 (by decide) hF1 (C := RX6) (T := TX6) (N := 6) hiX6 rfl 0 (by decide) (am_at in_wsX6_add_0 0 rfl) (v := .int (nI k1)) rfl dX6_add_14 ?_
  have m7 : ((AB ad F) 33 0) = (nI k1) := AB_f hF1 rfl
  refine lv_iload_n S.1 S.2.1 dX6_add_17 rfl (lv_at hl0 1 rfl) ?_
  obtain ⟨g8, hF8, hg8⟩ := wt_I hW (show (34, 8) ∈ rLI by decide)
  refine r_iast S hI hK hP hS 34 (by decide) hF8 (vp_in_nI (show k1 < 8 by omega) (by omega)) dX6_add_18 (fun F9 H9 locs9 eF9 hP9 hS9 => ?_)
  have hW9 := hW.up eF9 (ok_I (show (34, 8) ∈ rLI by decide) (okI_up hg8 (pr_of (by decide))))
  have hFr9 := hFr.up eF9 (by simp <;> first | omega | (simp only [isC, isJ] at *; omega))
  have hE11 : M = m_X6_add_10 (AB ad F9) p1 p2 := hM.trans ((show m_X6_add (AB ad F) p1 p2 = m_X6_add_10 (st (AB ad F) 34 (rl ((AB ad F) 33 0)) p1) p1 p2 from by unfold m_X6_add; rw [if_neg (nle_cg rfl m2 c3)]).trans (congr (congr (congrArg (m_X6_add_10) ((st_cg rfl (congrArg rl m7) rfl).trans (AB_ast hF8 eF9).symm)) (Eq.refl (p1 : Int32))) (Eq.refl (p2 : Int32))))
  refine lv_aload_n S.1 S.2.1 dX6_add_19 rfl (lv_at hl0 0 rfl) ?_
  have hF12 := (show F9 33 = F 33 by rw [eF9]; exact va_up_ne _ _ (by decide)).trans hF1
  refine r_get S hK hP9 33 (by decide) hF12 (C := RX6) (T := TX6) (N := 6) hiX6 rfl 2 (by decide) (am_at in_wsX6_add_0 2 rfl) (v := .ref (ad 35)) rfl dX6_add_20 ?_
  refine lv_aload_n S.1 S.2.1 dX6_add_23 rfl (lv_at hl0 0 rfl) ?_
  refine r_get S hK hP9 33 (by decide) hF12 (C := RX6) (T := TX6) (N := 6) hiX6 rfl 0 (by decide) (am_at in_wsX6_add_0 0 rfl) (v := .int (nI k1)) rfl dX6_add_24 ?_
  have m13 : ((AB ad F9) 33 0) = (nI k1) := AB_f hF12 rfl
  refine lv_iload_n S.1 S.2.1 dX6_add_27 rfl (lv_at hl0 2 rfl) ?_
  obtain ⟨g14, hF14, hg14⟩ := wt_I hW9 (show (35, 8) ∈ rLI by decide)
  refine r_iast S hI hK hP9 hS9 35 (by decide) hF14 (vp_in_nI (show k1 < 8 by omega) (by omega)) dX6_add_28 (fun F15 H15 locs15 eF15 hP15 hS15 => ?_)
  have hW15 := hW9.up eF15 (ok_I (show (35, 8) ∈ rLI by decide) (okI_up hg14 (pr_of (by decide))))
  have hFr15 := hFr9.up eF15 (by simp <;> first | omega | (simp only [isC, isJ] at *; omega))
  have hE17 : M = m_X6_add_16 (AB ad F15) p1 p2 := hE11.trans ((show m_X6_add_10 (AB ad F9) p1 p2 = m_X6_add_16 (st (AB ad F9) 35 (rl ((AB ad F9) 33 0)) p2) p1 p2 from rfl).trans (congr (congr (congrArg (m_X6_add_16) ((st_cg rfl (congrArg rl m13) rfl).trans (AB_ast hF14 eF15).symm)) (Eq.refl (p1 : Int32))) (Eq.refl (p2 : Int32))))
  refine lv_aload_n S.1 S.2.1 dX6_add_29 rfl (lv_at hl0 0 rfl) ?_
  refine lv_dup S.1 S.2.1 dX6_add_30 rfl ?_
  have hF18 := (show F15 33 = F9 33 by rw [eF15]; exact va_up_ne _ _ (by decide)).trans hF12
  refine r_get S hK hP15 33 (by decide) hF18 (C := RX6) (T := TX6) (N := 6) hiX6 rfl 0 (by decide) (am_at in_wsX6_add_0 0 rfl) (v := .int (nI k1)) rfl dX6_add_31 ?_
  have m19 : ((AB ad F15) 33 0) = (nI k1) := AB_f hF18 rfl
  refine lv_iconst (v := (nI 1)) S.1 S.2.1 dX6_add_34 (by decide +kernel) ?_
  refine lv_iadd S.1 S.2.1 dX6_add_35 ?_
  refine lv_topi (fun v20 e20 => ?_)
  obtain rfl : v20 = nI (k1 + 1) := e20.trans (nI_add _ _)
  have m21 : (((AB ad F15) 33 0) + (nI 1)) = (nI (k1 + 1)) := cg2 (fun (x : Int32) (y : Int32) => x + y) m19 (Eq.refl ((nI 1) : Int32)) e20
  refine r_put S hI hK hP15 hS15 33 (by decide) hF18 (C := RX6) (T := TX6) (N := 6) hiX6 tyX6_ok nmX6 rfl 0 (by decide) (am_at in_wsX6_add_0 0 rfl) rfl rfl rfl (Nat.le_of_ble_eq_true rfl) dX6_add_36 (fun F22 H22 locs22 eF22 hP22 hS22 => ?_)
  have hF22 : F22 33 = .inr (6, [.int (nI (k1 + 1)), .ref (ad 34), .ref (ad 35), .ref (ad 36), .ref (ad 37), .ref (ad 38)]) := by rw [eF22]; exact va_up_self _ _ _
  have hW22 := hW15.up eF22 (ok_ways ⟨k1 + 1, rfl, by omega⟩)
  have hFr22 := hFr15.up eF22 (by simp <;> first | omega | (simp only [isC, isJ] at *; omega))
  have hE24 : M = m_X6_add_23 (AB ad F22) p1 p2 := hE17.trans ((show m_X6_add_16 (AB ad F15) p1 p2 = m_X6_add_23 (st (AB ad F15) 33 0 (((AB ad F15) 33 0) + (nI 1))) p1 p2 from rfl).trans (congr (congr (congrArg (m_X6_add_23) ((st_cg rfl rfl m21).trans (AB_put hF18 (Nat.le_of_ble_eq_true rfl) eF22).symm)) (Eq.refl (p1 : Int32))) (Eq.refl (p2 : Int32))))
  have hE25 : M = AB ad F22 := hE24.trans ((show m_X6_add_23 (AB ad F22) p1 p2 = (AB ad F22) from rfl).trans rfl)
  exact hret 39 _ _ _ _ dX6_add_39 hP22 hS22 ⟨hW22, hFr22, ⟨trivial, hM.symm.trans hE25⟩⟩
noncomputable def m_X6_union_L4_3_b (k0 : SS → Int32 → Int32 → Nat → Int32 → Int32) (σ : SS) (a0 : Int32) (a1 : Int32) (a2 : Nat) (a3 : Int32) : Int32 :=
  if (nI 5) ≤ a0 then
    a1
  else
    k0 σ (a0 + Int32.ofInt (1)) (a1 ||| (σ a2 (rl ((a3 * (nI 5)) + a0)))) a2 a3
noncomputable def m_X6_union_L4_3 : Nat → SS → Int32 → Int32 → Nat → Int32 → Int32
  | 0 => fun σ _ _ _ _ => 0
  | n + 1 => m_X6_union_L4_3_b (m_X6_union_L4_3 n)
noncomputable def m_X6_union (σ : SS) (a0 : Nat) (a1 : Int32) : Int32 :=
  m_X6_union_L4_3 2000 σ (nI 0) (nI 0) a0 a1
set_option maxHeartbeats 4000000 in
set_option maxRecDepth 100000 in
theorem c_X6_union (l : Launch) (D : va_G) (cA ad : Nat → Nat) (t : Nat) (hI : rI ad) (F : Nat → va_E) (hW : WT cA ad F) (ra : Nat) (hra : (ra, 245) ∈ rLI) (hura : ra ∉ [60, 61, 62, 63, 64, 66]) (m2 : Nat) (hm2 : m2 ≤ 48) : MP l D cA ad t yX6_union wsX6_union { frames := 0, cells := 0, slots := 0, locals := 0 } [.ref (ad ra), .int (nI m2)] F (fun r => (True) ∧ m_X6_union (AB ad F) ra (nI m2) = r) := by
  refine en_P rfl (by decide +kernel) (Nat.le_of_ble_eq_true rfl) ?_
  intro p e s m args below meth c ls0 Q S hK hZ hP hS hl0 hret
  have hl0 : lv_has ls0 4 [(0, .ref (ad ra)), (1, .int (nI m2))] := hl0
  obtain ⟨M, hM⟩ : ∃ M, M = m_X6_union (AB ad F) ra (nI m2) := ⟨_, rfl⟩
  refine lv_iconst (v := (nI 0)) S.1 S.2.1 dX6_union_0 (by decide +kernel) ?_
  refine lv_istore_n (lv' := [(2, .int (nI 0)), (0, .ref (ad ra)), (1, .int (nI m2))]) S.1 S.2.1 dX6_union_1 rfl hl0 (by decide) rfl (fun ls1 hl1 => ?_)
  refine lv_iconst (v := (nI 0)) S.1 S.2.1 dX6_union_2 (by decide +kernel) ?_
  refine lv_istore_n (lv' := [(3, .int (nI 0)), (2, .int (nI 0)), (0, .ref (ad ra)), (1, .int (nI m2))]) S.1 S.2.1 dX6_union_3 rfl hl1 (by decide) rfl (fun ls2 hl2 => ?_)
  have lp3 : ∀ (n3 : Nat) (q33 : Nat) (x3_2 : Int32), q33 ≤ 5 → 5 - q33 < n3 → M = m_X6_union_L4_3 n3 (AB ad F) (nI q33) x3_2 ra (nI m2) → ∀ (ls : Array Slot), lv_has ls 4 [(3, .int (nI q33)), (2, .int x3_2), (0, .ref (ad ra)), (1, .int (nI m2))] → W p l e { frames := 0, cells := 0, slots := 0, locals := 0 } s m args below meth c s.heap [] 0 0 Q (F0 m 4 ls []) := by
    intro n3
    induction n3 with
    | zero =>
      intro q33 x3_2 iv3_0 hm3 hEl3 ls3 hl3
      exact absurd hm3 (Nat.not_lt_zero _)
    | succ n3 ih3 =>
      intro q33 x3_2 iv3_0 hm3 hEl3 ls3 hl3
      have hE4 : M = m_X6_union_L4_3_b (m_X6_union_L4_3 n3) (AB ad F) (nI q33) x3_2 ra (nI m2) := hEl3
      refine lv_iload_n S.1 S.2.1 dX6_union_4 rfl (lv_at hl3 0 rfl) ?_
      refine lv_iconst (v := (nI 5)) S.1 S.2.1 dX6_union_5 (by decide +kernel) ?_
      refine lv_icmp_ge (tgt := 25) S.1 S.2.1 dX6_union_6 (by decide) (fun c5 => ?_) (fun c5 => ?_)
      · skip
        have k6 := ci_le (nI_toInt (n := 5) (by decide)) (nI_toInt (n := q33) (by omega)) c5
        refine lv_iload_n S.1 S.2.1 dX6_union_25 rfl (lv_at hl3 1 rfl) ?_
        have hE7 : M = x3_2 := hE4.trans ((show m_X6_union_L4_3_b (m_X6_union_L4_3 n3) (AB ad F) (nI q33) x3_2 ra (nI m2) = x3_2 from by unfold m_X6_union_L4_3_b; rw [if_pos (le_cg rfl rfl c5)]).trans rfl)
        exact hret 26 _ _ dX6_union_26 rfl (⟨trivial, hM.symm.trans hE7⟩)
      have k8 := ci_nle (nI_toInt (n := 5) (by decide)) (nI_toInt (n := q33) (by omega)) c5
      refine lv_iload_n S.1 S.2.1 dX6_union_9 rfl (lv_at hl3 1 rfl) ?_
      refine lv_aload_n S.1 S.2.1 dX6_union_10 rfl (lv_at hl3 2 rfl) ?_
      refine lv_iload_n S.1 S.2.1 dX6_union_11 rfl (lv_at hl3 3 rfl) ?_
      refine lv_iconst (v := (nI 5)) S.1 S.2.1 dX6_union_12 (by decide +kernel) ?_
      refine lv_imul S.1 S.2.1 dX6_union_13 ?_
      refine lv_topi (fun v9 e9 => ?_)
      obtain rfl : v9 = nI (m2 * 5) := e9.trans (pk_mul _ _)
      have m10 : ((nI m2) * (nI 5)) = (nI (m2 * 5)) := cg2 (fun (x : Int32) (y : Int32) => x * y) (Eq.refl ((nI m2) : Int32)) (Eq.refl ((nI 5) : Int32)) e9
      refine lv_iload_n S.1 S.2.1 dX6_union_14 rfl (lv_at hl3 0 rfl) ?_
      refine lv_iadd S.1 S.2.1 dX6_union_15 ?_
      refine lv_topi (fun v11 e11 => ?_)
      obtain rfl : v11 = nI ((m2 * 5) + q33) := e11.trans (nI_add _ _)
      have m12 : (((nI m2) * (nI 5)) + (nI q33)) = (nI ((m2 * 5) + q33)) := cg2 (fun (x : Int32) (y : Int32) => x + y) m10 (Eq.refl ((nI q33) : Int32)) e11
      obtain ⟨g13, hF13, hg13⟩ := wt_I hW hra
      refine r_iald S hK hP ra (lt_I hra) hF13 (vp_in_nI (show (m2 * 5) + q33 < 245 by omega) (by omega)) dX6_union_16 ?_
      refine lv_topi (fun v15 e15 => ?_)
      have m16 : ((AB ad F) ra (rl (((nI m2) * (nI 5)) + (nI q33)))) = v15 := (ab_cg rfl m12).trans ((AB_g hF13).trans e15.symm)
      refine lv_ior S.1 S.2.1 dX6_union_17 ?_
      refine lv_topi (fun v17 e17 => ?_)
      have m18 : (x3_2 ||| ((AB ad F) ra (rl (((nI m2) * (nI 5)) + (nI q33))))) = v17 := cg2 (fun (x : Int32) (y : Int32) => x ||| y) (Eq.refl (x3_2 : Int32)) m16 e17
      refine lv_istore_n (lv' := [(2, .int v17), (3, .int (nI q33)), (0, .ref (ad ra)), (1, .int (nI m2))]) S.1 S.2.1 dX6_union_18 rfl hl3 (by decide) rfl (fun ls19 hl19 => ?_)
      have m21 : ((nI q33) + Int32.ofInt (1)) = (nI (q33 + 1)) := (congrArg (fun q : Int32 => q + Int32.ofInt (1)) rfl).trans (nI_add _ 1)
      refine lv_iinc (v := (nI (q33 + 1))) (lv' := [(3, .int (nI (q33 + 1))), (2, .int v17), (0, .ref (ad ra)), (1, .int (nI m2))]) S.1 S.2.1 dX6_union_19 hl19 (k := 1) rfl (nI_add _ 1) (by decide) rfl (fun ls20 hl20 => ?_)
      refine lv_goto (tgt := 4) S.1 S.2.1 dX6_union_22 (by decide) ?_
      have hE22 : M = (m_X6_union_L4_3 n3) (AB ad F) (nI (q33 + 1)) v17 ra (nI m2) := hE4.trans ((show m_X6_union_L4_3_b (m_X6_union_L4_3 n3) (AB ad F) (nI q33) x3_2 ra (nI m2) = (m_X6_union_L4_3 n3) (AB ad F) ((nI q33) + Int32.ofInt (1)) (x3_2 ||| ((AB ad F) ra (rl (((nI m2) * (nI 5)) + (nI q33))))) ra (nI m2) from by unfold m_X6_union_L4_3_b; rw [if_neg (nle_cg rfl rfl c5)]).trans (congr (congr (congr (congr (congrArg ((m_X6_union_L4_3 n3)) (rfl : AB ad F = AB ad F)) m21) m18) (Eq.refl ra)) (Eq.refl ((nI m2) : Int32))))
      exact ih3 (q33 + 1) (v17) (by omega) (by omega) hE22 ls20 (lv_sub hl20 [0, 1, 2, 3] rfl)
  have hE23 : M = m_X6_union_L4_3 2000 (AB ad F) (nI 0) (nI 0) ra (nI m2) := hM.trans ((show m_X6_union (AB ad F) ra (nI m2) = m_X6_union_L4_3 2000 (AB ad F) (nI 0) (nI 0) ra (nI m2) from rfl).trans (congr (congr (congr (congr (congrArg (m_X6_union_L4_3 2000) (rfl : AB ad F = AB ad F)) (Eq.refl ((nI 0) : Int32))) (Eq.refl ((nI 0) : Int32))) (Eq.refl ra)) (Eq.refl ((nI m2) : Int32))))
  exact lp3 2000 (0) ((nI 0)) (by omega) (by omega) hE23 ls2 (lv_sub hl2 [0, 1, 2, 3] rfl)
noncomputable def m_X6_isTold_L2_2_b (k0 : SS → Int32 → Int32 → Int32 → Int32) (σ : SS) (a0 : Int32) (a1 : Int32) (a2 : Int32) : Int32 :=
  if (σ 33 0) ≤ a0 then
    (nI 0)
  else
    if a0 = a2 then
      k0 σ (a0 + Int32.ofInt (1)) a1 a2
    else
      if (σ 35 (rl a0)) = a1 then
        (nI 1)
      else
        k0 σ (a0 + Int32.ofInt (1)) a1 a2
noncomputable def m_X6_isTold_L2_2 : Nat → SS → Int32 → Int32 → Int32 → Int32
  | 0 => fun σ _ _ _ => 0
  | n + 1 => m_X6_isTold_L2_2_b (m_X6_isTold_L2_2 n)
noncomputable def m_X6_isTold (σ : SS) (a0 : Int32) (a1 : Int32) : Int32 :=
  m_X6_isTold_L2_2 2000 σ (nI 0) a0 a1
set_option maxHeartbeats 4000000 in
set_option maxRecDepth 100000 in
theorem c_X6_isTold (l : Launch) (D : va_G) (cA ad : Nat → Nat) (t : Nat) (hI : rI ad) (F : Nat → va_E) (hW : WT cA ad F) (p1 : Int32) (p2 : Int32) : MP l D cA ad t yX6_isTold wsX6_isTold { frames := 0, cells := 0, slots := 0, locals := 0 } [.ref (ad 33), .int p1, .int p2] F (fun r => (le32 1 r) ∧ m_X6_isTold (AB ad F) p1 p2 = r) := by
  refine en_P rfl (by decide +kernel) (Nat.le_of_ble_eq_true rfl) ?_
  intro p e s m args below meth c ls0 Q S hK hZ hP hS hl0 hret
  have hl0 : lv_has ls0 4 [(0, .ref (ad 33)), (1, .int p1), (2, .int p2)] := hl0
  have hiX6 : ∀ w ∈ u_ws RX6 TX6 6, w ∈ wsX6_isTold := in_wsX6_isTold_1
  obtain ⟨M, hM⟩ : ∃ M, M = m_X6_isTold (AB ad F) p1 p2 := ⟨_, rfl⟩
  refine lv_iconst (v := (nI 0)) S.1 S.2.1 dX6_isTold_0 (by decide +kernel) ?_
  refine lv_istore_n (lv' := [(3, .int (nI 0)), (0, .ref (ad 33)), (1, .int p1), (2, .int p2)]) S.1 S.2.1 dX6_isTold_1 rfl hl0 (by decide) rfl (fun ls1 hl1 => ?_)
  have lp2 : ∀ (n2 : Nat) (q32 : Nat), q32 ≤ 8 → 8 - q32 < n2 → M = m_X6_isTold_L2_2 n2 (AB ad F) (nI q32) p1 p2 → ∀ (ls : Array Slot), lv_has ls 4 [(3, .int (nI q32)), (0, .ref (ad 33)), (1, .int p1), (2, .int p2)] → W p l e { frames := 0, cells := 0, slots := 0, locals := 0 } s m args below meth c s.heap [] 0 0 Q (F0 m 2 ls []) := by
    intro n2
    induction n2 with
    | zero =>
      intro q32 iv2_0 hm2 hEl2 ls2 hl2
      exact absurd hm2 (Nat.not_lt_zero _)
    | succ n2 ih2 =>
      intro q32 iv2_0 hm2 hEl2 ls2 hl2
      have hE3 : M = m_X6_isTold_L2_2_b (m_X6_isTold_L2_2 n2) (AB ad F) (nI q32) p1 p2 := hEl2
      refine lv_iload_n S.1 S.2.1 dX6_isTold_2 rfl (lv_at hl2 0 rfl) ?_
      refine lv_aload_n S.1 S.2.1 dX6_isTold_3 rfl (lv_at hl2 1 rfl) ?_
      obtain ⟨k4, hF4, hk4⟩ := wt_ways hW
      refine r_get S hK hP 33 (by decide) hF4 (C := RX6) (T := TX6) (N := 6) hiX6 rfl 0 (by decide) (am_at in_wsX6_isTold_0 0 rfl) (v := .int (nI k4)) rfl dX6_isTold_4 ?_
      have m5 : ((AB ad F) 33 0) = (nI k4) := AB_f hF4 rfl
      refine lv_icmp_ge (tgt := 33) S.1 S.2.1 dX6_isTold_7 (by decide) (fun c6 => ?_) (fun c6 => ?_)
      · skip
        have k7 := ci_le (nI_toInt (n := k4) (by omega)) (nI_toInt (n := q32) (by omega)) c6
        refine lv_iconst (v := (nI 0)) S.1 S.2.1 dX6_isTold_33 (by decide +kernel) ?_
        have hE8 : M = (nI 0) := hE3.trans ((show m_X6_isTold_L2_2_b (m_X6_isTold_L2_2 n2) (AB ad F) (nI q32) p1 p2 = (nI 0) from by unfold m_X6_isTold_L2_2_b; rw [if_pos (le_cg m5 rfl c6)]).trans rfl)
        exact hret 34 _ _ dX6_isTold_34 rfl (⟨⟨0, by omega, rfl⟩, hM.symm.trans hE8⟩)
      have k9 := ci_nle (nI_toInt (n := k4) (by omega)) (nI_toInt (n := q32) (by omega)) c6
      refine lv_iload_n S.1 S.2.1 dX6_isTold_10 rfl (lv_at hl2 0 rfl) ?_
      refine lv_iload_n S.1 S.2.1 dX6_isTold_11 rfl (lv_at hl2 3 rfl) ?_
      refine lv_icmp_eq (tgt := 27) S.1 S.2.1 dX6_isTold_12 (by decide) (fun c10 => ?_) (fun c10 => ?_)
      · skip
        have k11 := ci_eq (nI_toInt (n := q32) (by omega)) rfl c10
        have m13 : ((nI q32) + Int32.ofInt (1)) = (nI (q32 + 1)) := (congrArg (fun q : Int32 => q + Int32.ofInt (1)) rfl).trans (nI_add _ 1)
        refine lv_iinc (v := (nI (q32 + 1))) (lv' := [(3, .int (nI (q32 + 1))), (0, .ref (ad 33)), (1, .int p1), (2, .int p2)]) S.1 S.2.1 dX6_isTold_27 hl2 (k := 0) rfl (nI_add _ 1) (by decide) rfl (fun ls12 hl12 => ?_)
        refine lv_goto (tgt := 2) S.1 S.2.1 dX6_isTold_30 (by decide) ?_
        have hE14 : M = (m_X6_isTold_L2_2 n2) (AB ad F) (nI (q32 + 1)) p1 p2 := hE3.trans ((show m_X6_isTold_L2_2_b (m_X6_isTold_L2_2 n2) (AB ad F) (nI q32) p1 p2 = (m_X6_isTold_L2_2 n2) (AB ad F) ((nI q32) + Int32.ofInt (1)) p1 p2 from by unfold m_X6_isTold_L2_2_b; rw [if_neg (nle_cg m5 rfl c6), if_pos (eq_cg rfl rfl c10)]).trans (congr (congr (congr (congrArg ((m_X6_isTold_L2_2 n2)) (rfl : AB ad F = AB ad F)) m13) (Eq.refl (p1 : Int32))) (Eq.refl (p2 : Int32))))
        exact ih2 (q32 + 1) (by omega) (by omega) hE14 ls12 (lv_sub hl12 [0, 1, 2, 3] rfl)
      have k15 := ci_ne (nI_toInt (n := q32) (by omega)) rfl c10
      refine lv_aload_n S.1 S.2.1 dX6_isTold_15 rfl (lv_at hl2 1 rfl) ?_
      refine r_get S hK hP 33 (by decide) hF4 (C := RX6) (T := TX6) (N := 6) hiX6 rfl 2 (by decide) (am_at in_wsX6_isTold_0 1 rfl) (v := .ref (ad 35)) rfl dX6_isTold_16 ?_
      refine lv_iload_n S.1 S.2.1 dX6_isTold_19 rfl (lv_at hl2 0 rfl) ?_
      obtain ⟨g16, hF16, hg16⟩ := wt_I hW (show (35, 8) ∈ rLI by decide)
      refine r_iald S hK hP 35 (by decide) hF16 (vp_in_nI (show q32 < 8 by omega) (by omega)) dX6_isTold_20 ?_
      refine lv_topi (fun v18 e18 => ?_)
      have m19 : ((AB ad F) 35 (rl (nI q32))) = v18 := (ab_cg rfl rfl).trans ((AB_g hF16).trans e18.symm)
      refine lv_iload_n S.1 S.2.1 dX6_isTold_21 rfl (lv_at hl2 2 rfl) ?_
      refine lv_icmp_ne (tgt := 27) S.1 S.2.1 dX6_isTold_22 (by decide) (fun c20 => ?_) (fun c20 => ?_)
      · skip
        have k21 := ci_ne rfl rfl c20
        have m23 : ((nI q32) + Int32.ofInt (1)) = (nI (q32 + 1)) := (congrArg (fun q : Int32 => q + Int32.ofInt (1)) rfl).trans (nI_add _ 1)
        refine lv_iinc (v := (nI (q32 + 1))) (lv' := [(3, .int (nI (q32 + 1))), (0, .ref (ad 33)), (1, .int p1), (2, .int p2)]) S.1 S.2.1 dX6_isTold_27 hl2 (k := 0) rfl (nI_add _ 1) (by decide) rfl (fun ls22 hl22 => ?_)
        refine lv_goto (tgt := 2) S.1 S.2.1 dX6_isTold_30 (by decide) ?_
        have hE24 : M = (m_X6_isTold_L2_2 n2) (AB ad F) (nI (q32 + 1)) p1 p2 := hE3.trans ((show m_X6_isTold_L2_2_b (m_X6_isTold_L2_2 n2) (AB ad F) (nI q32) p1 p2 = (m_X6_isTold_L2_2 n2) (AB ad F) ((nI q32) + Int32.ofInt (1)) p1 p2 from by unfold m_X6_isTold_L2_2_b; rw [if_neg (nle_cg m5 rfl c6), if_neg (neq_cg rfl rfl c10), if_neg (neq_cg m19 rfl c20)]).trans (congr (congr (congr (congrArg ((m_X6_isTold_L2_2 n2)) (rfl : AB ad F = AB ad F)) m23) (Eq.refl (p1 : Int32))) (Eq.refl (p2 : Int32))))
        exact ih2 (q32 + 1) (by omega) (by omega) hE24 ls22 (lv_sub hl22 [0, 1, 2, 3] rfl)
      have k25 := ci_eq rfl rfl c20
      refine lv_iconst (v := (nI 1)) S.1 S.2.1 dX6_isTold_25 (by decide +kernel) ?_
      have hE26 : M = (nI 1) := hE3.trans ((show m_X6_isTold_L2_2_b (m_X6_isTold_L2_2 n2) (AB ad F) (nI q32) p1 p2 = (nI 1) from by unfold m_X6_isTold_L2_2_b; rw [if_neg (nle_cg m5 rfl c6), if_neg (neq_cg rfl rfl c10), if_pos (eq_cg m19 rfl c20)]).trans rfl)
      exact hret 26 _ _ dX6_isTold_26 rfl (⟨⟨1, by omega, rfl⟩, hM.symm.trans hE26⟩)
  have hE27 : M = m_X6_isTold_L2_2 2000 (AB ad F) (nI 0) p1 p2 := hM.trans ((show m_X6_isTold (AB ad F) p1 p2 = m_X6_isTold_L2_2 2000 (AB ad F) (nI 0) p1 p2 from rfl).trans (congr (congr (congr (congrArg (m_X6_isTold_L2_2 2000) (rfl : AB ad F = AB ad F)) (Eq.refl ((nI 0) : Int32))) (Eq.refl (p1 : Int32))) (Eq.refl (p2 : Int32))))
  exact lp2 2000 (0) (by omega) (by omega) hE27 ls1 (lv_sub hl1 [0, 1, 2, 3] rfl)
noncomputable def m_X6_staysIn_L8_3_b (k0 : SS → Int32 → Int32 → Nat → Int32 → Int32 → Int32) (σ : SS) (a0 : Int32) (a1 : Int32) (a2 : Nat) (a3 : Int32) (a4 : Int32) : Int32 :=
  if (σ 33 0) ≤ a0 then
    a1
  else
    if a0 = a4 then
      k0 σ (a0 + Int32.ofInt (1)) a1 a2 a3 a4
    else
      if (σ 35 (rl a0)) = a3 then
        if (m_X0_worksIn σ a2 (σ 34 (rl a0)) a3) = (0 : Int32) then
          k0 σ (a0 + Int32.ofInt (1)) (a1 &&& (nI 0)) a2 a3 a4
        else
          k0 σ (a0 + Int32.ofInt (1)) (a1 &&& ((nI 1) <<< ((σ 34 (rl a0)) &&& 31))) a2 a3 a4
      else
        k0 σ (a0 + Int32.ofInt (1)) a1 a2 a3 a4
noncomputable def m_X6_staysIn_L8_3 : Nat → SS → Int32 → Int32 → Nat → Int32 → Int32 → Int32
  | 0 => fun σ _ _ _ _ _ => 0
  | n + 1 => m_X6_staysIn_L8_3_b (m_X6_staysIn_L8_3 n)
noncomputable def m_X6_staysIn (σ : SS) (a0 : Nat) (a1 : Int32) (a2 : Int32) : Int32 :=
  m_X6_staysIn_L8_3 2000 σ (nI 0) (nI 255) a0 a1 a2
set_option maxHeartbeats 4000000 in
set_option maxRecDepth 100000 in
theorem c_X6_staysIn (l : Launch) (D : va_G) (cA ad : Nat → Nat) (t : Nat) (hI : rI ad) (F : Nat → va_E) (hW : WT cA ad F) (rc : Nat) (hrc : isC rc) (p2 : Int32) (p3 : Int32) : MP l D cA ad t yX6_staysIn wsX6_staysIn { frames := 2, cells := 0, slots := 0, locals := 43 } [.ref (ad 33), .ref (ad rc), .int p2, .int p3] F (fun r => (True) ∧ m_X6_staysIn (AB ad F) rc p2 p3 = r) := by
  refine en_P rfl (by decide +kernel) (Nat.le_of_ble_eq_true rfl) ?_
  intro p e s m args below meth c ls0 Q S hK hZ hP hS hl0 hret
  have hl0 : lv_has ls0 6 [(0, .ref (ad 33)), (1, .ref (ad rc)), (2, .int p2), (3, .int p3)] := hl0
  have hiX6 : ∀ w ∈ u_ws RX6 TX6 6, w ∈ wsX6_staysIn := in_wsX6_staysIn_1
  obtain ⟨M, hM⟩ : ∃ M, M = m_X6_staysIn (AB ad F) rc p2 p3 := ⟨_, rfl⟩
  refine lv_sipush (v := (nI 255)) S.1 S.2.1 dX6_staysIn_0 (by decide +kernel) ?_
  refine lv_istore (lv' := [(4, .int (nI 255)), (0, .ref (ad 33)), (1, .ref (ad rc)), (2, .int p2), (3, .int p3)]) S.1 S.2.1 dX6_staysIn_3 hl0 (by decide) rfl (fun ls1 hl1 => ?_)
  refine lv_iconst (v := (nI 0)) S.1 S.2.1 dX6_staysIn_5 (by decide +kernel) ?_
  refine lv_istore (lv' := [(5, .int (nI 0)), (4, .int (nI 255)), (0, .ref (ad 33)), (1, .ref (ad rc)), (2, .int p2), (3, .int p3)]) S.1 S.2.1 dX6_staysIn_6 hl1 (by decide) rfl (fun ls2 hl2 => ?_)
  have lp3 : ∀ (n3 : Nat) (q53 : Nat) (x3_4 : Int32), q53 ≤ 8 → 8 - q53 < n3 → M = m_X6_staysIn_L8_3 n3 (AB ad F) (nI q53) x3_4 rc p2 p3 → ∀ (ls : Array Slot), lv_has ls 6 [(5, .int (nI q53)), (4, .int x3_4), (0, .ref (ad 33)), (1, .ref (ad rc)), (2, .int p2), (3, .int p3)] → W p l e { frames := 2, cells := 0, slots := 0, locals := 43 } s m args below meth c s.heap [] 0 0 Q (F0 m 8 ls []) := by
    intro n3
    induction n3 with
    | zero =>
      intro q53 x3_4 iv3_0 hm3 hEl3 ls3 hl3
      exact absurd hm3 (Nat.not_lt_zero _)
    | succ n3 ih3 =>
      intro q53 x3_4 iv3_0 hm3 hEl3 ls3 hl3
      have hE4 : M = m_X6_staysIn_L8_3_b (m_X6_staysIn_L8_3 n3) (AB ad F) (nI q53) x3_4 rc p2 p3 := hEl3
      refine lv_iload S.1 S.2.1 dX6_staysIn_8 (lv_at hl3 0 rfl) ?_
      refine lv_aload_n S.1 S.2.1 dX6_staysIn_10 rfl (lv_at hl3 2 rfl) ?_
      obtain ⟨k5, hF5, hk5⟩ := wt_ways hW
      refine r_get S hK hP 33 (by decide) hF5 (C := RX6) (T := TX6) (N := 6) hiX6 rfl 0 (by decide) (am_at in_wsX6_staysIn_0 0 rfl) (v := .int (nI k5)) rfl dX6_staysIn_11 ?_
      have m6 : ((AB ad F) 33 0) = (nI k5) := AB_f hF5 rfl
      refine lv_icmp_ge (tgt := 73) S.1 S.2.1 dX6_staysIn_14 (by decide) (fun c7 => ?_) (fun c7 => ?_)
      · skip
        have k8 := ci_le (nI_toInt (n := k5) (by omega)) (nI_toInt (n := q53) (by omega)) c7
        refine lv_iload S.1 S.2.1 dX6_staysIn_73 (lv_at hl3 1 rfl) ?_
        have hE9 : M = x3_4 := hE4.trans ((show m_X6_staysIn_L8_3_b (m_X6_staysIn_L8_3 n3) (AB ad F) (nI q53) x3_4 rc p2 p3 = x3_4 from by unfold m_X6_staysIn_L8_3_b; rw [if_pos (le_cg m6 rfl c7)]).trans rfl)
        exact hret 75 _ _ dX6_staysIn_75 rfl (⟨trivial, hM.symm.trans hE9⟩)
      have k10 := ci_nle (nI_toInt (n := k5) (by omega)) (nI_toInt (n := q53) (by omega)) c7
      refine lv_iload S.1 S.2.1 dX6_staysIn_17 (lv_at hl3 0 rfl) ?_
      refine lv_iload_n S.1 S.2.1 dX6_staysIn_19 rfl (lv_at hl3 5 rfl) ?_
      refine lv_icmp_eq (tgt := 67) S.1 S.2.1 dX6_staysIn_20 (by decide) (fun c11 => ?_) (fun c11 => ?_)
      · skip
        have k12 := ci_eq (nI_toInt (n := q53) (by omega)) rfl c11
        have m14 : ((nI q53) + Int32.ofInt (1)) = (nI (q53 + 1)) := (congrArg (fun q : Int32 => q + Int32.ofInt (1)) rfl).trans (nI_add _ 1)
        refine lv_iinc (v := (nI (q53 + 1))) (lv' := [(5, .int (nI (q53 + 1))), (4, .int x3_4), (0, .ref (ad 33)), (1, .ref (ad rc)), (2, .int p2), (3, .int p3)]) S.1 S.2.1 dX6_staysIn_67 hl3 (k := 0) rfl (nI_add _ 1) (by decide) rfl (fun ls13 hl13 => ?_)
        refine lv_goto (tgt := 8) S.1 S.2.1 dX6_staysIn_70 (by decide) ?_
        have hE15 : M = (m_X6_staysIn_L8_3 n3) (AB ad F) (nI (q53 + 1)) x3_4 rc p2 p3 := hE4.trans ((show m_X6_staysIn_L8_3_b (m_X6_staysIn_L8_3 n3) (AB ad F) (nI q53) x3_4 rc p2 p3 = (m_X6_staysIn_L8_3 n3) (AB ad F) ((nI q53) + Int32.ofInt (1)) x3_4 rc p2 p3 from by unfold m_X6_staysIn_L8_3_b; rw [if_neg (nle_cg m6 rfl c7), if_pos (eq_cg rfl rfl c11)]).trans (congr (congr (congr (congr (congr (congrArg ((m_X6_staysIn_L8_3 n3)) (rfl : AB ad F = AB ad F)) m14) (Eq.refl (x3_4 : Int32))) (Eq.refl rc)) (Eq.refl (p2 : Int32))) (Eq.refl (p3 : Int32))))
        exact ih3 (q53 + 1) (x3_4) (by omega) (by omega) hE15 ls13 (lv_sub hl13 [0, 1, 2, 3, 4, 5] rfl)
      have k16 := ci_ne (nI_toInt (n := q53) (by omega)) rfl c11
      refine lv_aload_n S.1 S.2.1 dX6_staysIn_23 rfl (lv_at hl3 2 rfl) ?_
      refine r_get S hK hP 33 (by decide) hF5 (C := RX6) (T := TX6) (N := 6) hiX6 rfl 2 (by decide) (am_at in_wsX6_staysIn_0 1 rfl) (v := .ref (ad 35)) rfl dX6_staysIn_24 ?_
      refine lv_iload S.1 S.2.1 dX6_staysIn_27 (lv_at hl3 0 rfl) ?_
      obtain ⟨g17, hF17, hg17⟩ := wt_I hW (show (35, 8) ∈ rLI by decide)
      refine r_iald S hK hP 35 (by decide) hF17 (vp_in_nI (show q53 < 8 by omega) (by omega)) dX6_staysIn_29 ?_
      refine lv_topi (fun v19 e19 => ?_)
      have m20 : ((AB ad F) 35 (rl (nI q53))) = v19 := (ab_cg rfl rfl).trans ((AB_g hF17).trans e19.symm)
      refine lv_iload_n S.1 S.2.1 dX6_staysIn_30 rfl (lv_at hl3 4 rfl) ?_
      refine lv_icmp_ne (tgt := 67) S.1 S.2.1 dX6_staysIn_31 (by decide) (fun c21 => ?_) (fun c21 => ?_)
      · skip
        have k22 := ci_ne rfl rfl c21
        have m24 : ((nI q53) + Int32.ofInt (1)) = (nI (q53 + 1)) := (congrArg (fun q : Int32 => q + Int32.ofInt (1)) rfl).trans (nI_add _ 1)
        refine lv_iinc (v := (nI (q53 + 1))) (lv' := [(5, .int (nI (q53 + 1))), (4, .int x3_4), (0, .ref (ad 33)), (1, .ref (ad rc)), (2, .int p2), (3, .int p3)]) S.1 S.2.1 dX6_staysIn_67 hl3 (k := 0) rfl (nI_add _ 1) (by decide) rfl (fun ls23 hl23 => ?_)
        refine lv_goto (tgt := 8) S.1 S.2.1 dX6_staysIn_70 (by decide) ?_
        have hE25 : M = (m_X6_staysIn_L8_3 n3) (AB ad F) (nI (q53 + 1)) x3_4 rc p2 p3 := hE4.trans ((show m_X6_staysIn_L8_3_b (m_X6_staysIn_L8_3 n3) (AB ad F) (nI q53) x3_4 rc p2 p3 = (m_X6_staysIn_L8_3 n3) (AB ad F) ((nI q53) + Int32.ofInt (1)) x3_4 rc p2 p3 from by unfold m_X6_staysIn_L8_3_b; rw [if_neg (nle_cg m6 rfl c7), if_neg (neq_cg rfl rfl c11), if_neg (neq_cg m20 rfl c21)]).trans (congr (congr (congr (congr (congr (congrArg ((m_X6_staysIn_L8_3 n3)) (rfl : AB ad F = AB ad F)) m24) (Eq.refl (x3_4 : Int32))) (Eq.refl rc)) (Eq.refl (p2 : Int32))) (Eq.refl (p3 : Int32))))
        exact ih3 (q53 + 1) (x3_4) (by omega) (by omega) hE25 ls23 (lv_sub hl23 [0, 1, 2, 3, 4, 5] rfl)
      have k26 := ci_eq rfl rfl c21
      refine lv_iload S.1 S.2.1 dX6_staysIn_34 (lv_at hl3 1 rfl) ?_
      refine lv_aload_n S.1 S.2.1 dX6_staysIn_36 rfl (lv_at hl3 3 rfl) ?_
      refine lv_aload_n S.1 S.2.1 dX6_staysIn_37 rfl (lv_at hl3 2 rfl) ?_
      refine r_get S hK hP 33 (by decide) hF5 (C := RX6) (T := TX6) (N := 6) hiX6 rfl 1 (by decide) (am_at in_wsX6_staysIn_0 2 rfl) (v := .ref (ad 34)) rfl dX6_staysIn_38 ?_
      refine lv_iload S.1 S.2.1 dX6_staysIn_41 (lv_at hl3 0 rfl) ?_
      obtain ⟨g27, hF27, hg27⟩ := wt_I hW (show (34, 8) ∈ rLI by decide)
      refine r_iald S hK hP 34 (by decide) hF27 (vp_in_nI (show q53 < 8 by omega) (by omega)) dX6_staysIn_43 ?_
      refine lv_topi (fun v29 e29 => ?_)
      have m30 : ((AB ad F) 34 (rl (nI q53))) = v29 := (ab_cg rfl rfl).trans ((AB_g hF27).trans e29.symm)
      refine lv_iload_n S.1 S.2.1 dX6_staysIn_44 rfl (lv_at hl3 4 rfl) ?_
      obtain ⟨sl32, fm32, tn32, rn32, bn32, hF32, hb32_1, hb32_2, hb32_3⟩ := wt_C hW hrc
      refine r_cVp (As := [.int v29, .int p2]) (rest := [.int x3_4]) S hK hZ hP hS hl3.1 rc (lt_C hrc) hF32 (C := RX0) rfl (c_X0_worksIn l D cA ad t hI F hW rc hrc v29 p2) (cwV 2 S.2.2.2.2 gX6_staysIn_X0_worksIn rfl rfl rfl (by decide +kernel) ⟨Nat.le_of_ble_eq_true rfl, Nat.le_of_ble_eq_true rfl⟩) rfl rfl (Nat.le_of_ble_eq_true rfl) ⟨Nat.zero_le _, Nat.zero_le _⟩ dX6_staysIn_45 (fun r31 hr31 => ?_)
      obtain ⟨hr31, hm31⟩ := hr31
      obtain ⟨⟨b33, hb33, rfl⟩, hx33⟩ := hr31
      have hx33 : b33 ≠ 0 → 0 ≤ v29.toInt ∧ v29.toInt ≤ _ := fun q => hx33 (nI_ne0 (by omega) (by omega))
      have m34 : (m_X0_worksIn (AB ad F) rc ((AB ad F) 34 (rl (nI q53))) p2) = (nI b33) := (congr (congr (congr (Eq.refl (m_X0_worksIn (AB ad F))) (Eq.refl rc)) m30) (Eq.refl (p2 : Int32))).trans hm31
      refine lv_if_eq (tgt := 63) S.1 S.2.1 dX6_staysIn_48 (by decide) (fun c35 => ?_) (fun c35 => ?_)
      · skip
        have k36 := ci_eq (nI_toInt (n := b33) (Nat.lt_of_le_of_lt hb33 (by decide))) z_ti c35
        refine lv_iconst (v := (nI 0)) S.1 S.2.1 dX6_staysIn_63 (by decide +kernel) ?_
        refine lv_iand S.1 S.2.1 dX6_staysIn_64 ?_
        refine lv_topi (fun v37 e37 => ?_)
        have m38 : (x3_4 &&& (nI 0)) = v37 := cg2 (fun (x : Int32) (y : Int32) => x &&& y) (Eq.refl (x3_4 : Int32)) (Eq.refl ((nI 0) : Int32)) e37
        refine lv_istore (lv' := [(4, .int v37), (5, .int (nI q53)), (0, .ref (ad 33)), (1, .ref (ad rc)), (2, .int p2), (3, .int p3)]) S.1 S.2.1 dX6_staysIn_65 hl3 (by decide) rfl (fun ls39 hl39 => ?_)
        have m41 : ((nI q53) + Int32.ofInt (1)) = (nI (q53 + 1)) := (congrArg (fun q : Int32 => q + Int32.ofInt (1)) rfl).trans (nI_add _ 1)
        refine lv_iinc (v := (nI (q53 + 1))) (lv' := [(5, .int (nI (q53 + 1))), (4, .int v37), (0, .ref (ad 33)), (1, .ref (ad rc)), (2, .int p2), (3, .int p3)]) S.1 S.2.1 dX6_staysIn_67 hl39 (k := 1) rfl (nI_add _ 1) (by decide) rfl (fun ls40 hl40 => ?_)
        refine lv_goto (tgt := 8) S.1 S.2.1 dX6_staysIn_70 (by decide) ?_
        have hE42 : M = (m_X6_staysIn_L8_3 n3) (AB ad F) (nI (q53 + 1)) v37 rc p2 p3 := hE4.trans ((show m_X6_staysIn_L8_3_b (m_X6_staysIn_L8_3 n3) (AB ad F) (nI q53) x3_4 rc p2 p3 = (m_X6_staysIn_L8_3 n3) (AB ad F) ((nI q53) + Int32.ofInt (1)) (x3_4 &&& (nI 0)) rc p2 p3 from by unfold m_X6_staysIn_L8_3_b; rw [if_neg (nle_cg m6 rfl c7), if_neg (neq_cg rfl rfl c11), if_pos (eq_cg m20 rfl c21), if_pos (eq_cg m34 rfl c35)]).trans (congr (congr (congr (congr (congr (congrArg ((m_X6_staysIn_L8_3 n3)) (rfl : AB ad F = AB ad F)) m41) m38) (Eq.refl rc)) (Eq.refl (p2 : Int32))) (Eq.refl (p3 : Int32))))
        exact ih3 (q53 + 1) (v37) (by omega) (by omega) hE42 ls40 (lv_sub hl40 [0, 1, 2, 3, 4, 5] rfl)
      have k43 := ci_ne (nI_toInt (n := b33) (Nat.lt_of_le_of_lt hb33 (by decide))) z_ti c35
      refine lv_iconst (v := (nI 1)) S.1 S.2.1 dX6_staysIn_51 (by decide +kernel) ?_
      refine lv_aload_n S.1 S.2.1 dX6_staysIn_52 rfl (lv_at hl3 2 rfl) ?_
      refine r_get S hK hP 33 (by decide) hF5 (C := RX6) (T := TX6) (N := 6) hiX6 rfl 1 (by decide) (am_at in_wsX6_staysIn_0 2 rfl) (v := .ref (ad 34)) rfl dX6_staysIn_53 ?_
      refine lv_iload S.1 S.2.1 dX6_staysIn_56 (lv_at hl3 0 rfl) ?_
      refine r_iald S hK hP 34 (by decide) hF27 (vp_in_nI (show q53 < 8 by omega) (by omega)) dX6_staysIn_58 ?_
      refine lv_topi (fun v45 e45 => ?_)
      have m46 : ((AB ad F) 34 (rl (nI q53))) = v45 := (ab_cg rfl rfl).trans ((AB_g hF27).trans e45.symm)
      refine lv_ishl S.1 S.2.1 dX6_staysIn_59 ?_
      refine lv_topi (fun v47 e47 => ?_)
      have m48 : ((nI 1) <<< (((AB ad F) 34 (rl (nI q53))) &&& 31)) = v47 := cg2 (fun (x : Int32) (y : Int32) => x <<< (y &&& 31)) (Eq.refl ((nI 1) : Int32)) m46 e47
      refine lv_goto (tgt := 64) S.1 S.2.1 dX6_staysIn_60 (by decide) ?_
      refine lv_iand S.1 S.2.1 dX6_staysIn_64 ?_
      refine lv_topi (fun v49 e49 => ?_)
      have m50 : (x3_4 &&& ((nI 1) <<< (((AB ad F) 34 (rl (nI q53))) &&& 31))) = v49 := cg2 (fun (x : Int32) (y : Int32) => x &&& y) (Eq.refl (x3_4 : Int32)) m48 e49
      refine lv_istore (lv' := [(4, .int v49), (5, .int (nI q53)), (0, .ref (ad 33)), (1, .ref (ad rc)), (2, .int p2), (3, .int p3)]) S.1 S.2.1 dX6_staysIn_65 hl3 (by decide) rfl (fun ls51 hl51 => ?_)
      have m53 : ((nI q53) + Int32.ofInt (1)) = (nI (q53 + 1)) := (congrArg (fun q : Int32 => q + Int32.ofInt (1)) rfl).trans (nI_add _ 1)
      refine lv_iinc (v := (nI (q53 + 1))) (lv' := [(5, .int (nI (q53 + 1))), (4, .int v49), (0, .ref (ad 33)), (1, .ref (ad rc)), (2, .int p2), (3, .int p3)]) S.1 S.2.1 dX6_staysIn_67 hl51 (k := 1) rfl (nI_add _ 1) (by decide) rfl (fun ls52 hl52 => ?_)
      refine lv_goto (tgt := 8) S.1 S.2.1 dX6_staysIn_70 (by decide) ?_
      have hE54 : M = (m_X6_staysIn_L8_3 n3) (AB ad F) (nI (q53 + 1)) v49 rc p2 p3 := hE4.trans ((show m_X6_staysIn_L8_3_b (m_X6_staysIn_L8_3 n3) (AB ad F) (nI q53) x3_4 rc p2 p3 = (m_X6_staysIn_L8_3 n3) (AB ad F) ((nI q53) + Int32.ofInt (1)) (x3_4 &&& ((nI 1) <<< (((AB ad F) 34 (rl (nI q53))) &&& 31))) rc p2 p3 from by unfold m_X6_staysIn_L8_3_b; rw [if_neg (nle_cg m6 rfl c7), if_neg (neq_cg rfl rfl c11), if_pos (eq_cg m20 rfl c21), if_neg (neq_cg m34 rfl c35)]).trans (congr (congr (congr (congr (congr (congrArg ((m_X6_staysIn_L8_3 n3)) (rfl : AB ad F = AB ad F)) m53) m50) (Eq.refl rc)) (Eq.refl (p2 : Int32))) (Eq.refl (p3 : Int32))))
      exact ih3 (q53 + 1) (v49) (by omega) (by omega) hE54 ls52 (lv_sub hl52 [0, 1, 2, 3, 4, 5] rfl)
  have hE55 : M = m_X6_staysIn_L8_3 2000 (AB ad F) (nI 0) (nI 255) rc p2 p3 := hM.trans ((show m_X6_staysIn (AB ad F) rc p2 p3 = m_X6_staysIn_L8_3 2000 (AB ad F) (nI 0) (nI 255) rc p2 p3 from rfl).trans (congr (congr (congr (congr (congr (congrArg (m_X6_staysIn_L8_3 2000) (rfl : AB ad F = AB ad F)) (Eq.refl ((nI 0) : Int32))) (Eq.refl ((nI 255) : Int32))) (Eq.refl rc)) (Eq.refl (p2 : Int32))) (Eq.refl (p3 : Int32))))
  exact lp3 2000 (0) ((nI 255)) (by omega) (by omega) hE55 ls2 (lv_sub hl2 [0, 1, 2, 3, 4, 5] rfl)
noncomputable def m_X6_entriesTo_L4_3_b (k0 : SS → Int32 → Int32 → Int32 → Int32) (σ : SS) (a0 : Int32) (a1 : Int32) (a2 : Int32) : Int32 :=
  if (nI 8) ≤ a0 then
    a1
  else
    if ((σ 36 (rl a0)) &&& a2) = (0 : Int32) then
      k0 σ (a0 + Int32.ofInt (1)) a1 a2
    else
      k0 σ (a0 + Int32.ofInt (1)) (a1 ||| ((nI 1) <<< (a0 &&& 31))) a2
noncomputable def m_X6_entriesTo_L4_3 : Nat → SS → Int32 → Int32 → Int32 → Int32
  | 0 => fun σ _ _ _ => 0
  | n + 1 => m_X6_entriesTo_L4_3_b (m_X6_entriesTo_L4_3 n)
noncomputable def m_X6_entriesTo (σ : SS) (a0 : Int32) : Int32 :=
  m_X6_entriesTo_L4_3 2000 σ (nI 0) (nI 0) a0
set_option maxHeartbeats 4000000 in
set_option maxRecDepth 100000 in
theorem c_X6_entriesTo (l : Launch) (D : va_G) (cA ad : Nat → Nat) (t : Nat) (hI : rI ad) (F : Nat → va_E) (hW : WT cA ad F) (p1 : Int32) : MP l D cA ad t yX6_entriesTo wsX6_entriesTo { frames := 0, cells := 0, slots := 0, locals := 0 } [.ref (ad 33), .int p1] F (fun r => (True) ∧ m_X6_entriesTo (AB ad F) p1 = r) := by
  refine en_P rfl (by decide +kernel) (Nat.le_of_ble_eq_true rfl) ?_
  intro p e s m args below meth c ls0 Q S hK hZ hP hS hl0 hret
  have hl0 : lv_has ls0 4 [(0, .ref (ad 33)), (1, .int p1)] := hl0
  have hiX6 : ∀ w ∈ u_ws RX6 TX6 6, w ∈ wsX6_entriesTo := in_wsX6_entriesTo_1
  obtain ⟨M, hM⟩ : ∃ M, M = m_X6_entriesTo (AB ad F) p1 := ⟨_, rfl⟩
  refine lv_iconst (v := (nI 0)) S.1 S.2.1 dX6_entriesTo_0 (by decide +kernel) ?_
  refine lv_istore_n (lv' := [(2, .int (nI 0)), (0, .ref (ad 33)), (1, .int p1)]) S.1 S.2.1 dX6_entriesTo_1 rfl hl0 (by decide) rfl (fun ls1 hl1 => ?_)
  refine lv_iconst (v := (nI 0)) S.1 S.2.1 dX6_entriesTo_2 (by decide +kernel) ?_
  refine lv_istore_n (lv' := [(3, .int (nI 0)), (2, .int (nI 0)), (0, .ref (ad 33)), (1, .int p1)]) S.1 S.2.1 dX6_entriesTo_3 rfl hl1 (by decide) rfl (fun ls2 hl2 => ?_)
  have lp3 : ∀ (n3 : Nat) (q33 : Nat) (x3_2 : Int32), q33 ≤ 8 → 8 - q33 < n3 → M = m_X6_entriesTo_L4_3 n3 (AB ad F) (nI q33) x3_2 p1 → ∀ (ls : Array Slot), lv_has ls 4 [(3, .int (nI q33)), (2, .int x3_2), (0, .ref (ad 33)), (1, .int p1)] → W p l e { frames := 0, cells := 0, slots := 0, locals := 0 } s m args below meth c s.heap [] 0 0 Q (F0 m 4 ls []) := by
    intro n3
    induction n3 with
    | zero =>
      intro q33 x3_2 iv3_0 hm3 hEl3 ls3 hl3
      exact absurd hm3 (Nat.not_lt_zero _)
    | succ n3 ih3 =>
      intro q33 x3_2 iv3_0 hm3 hEl3 ls3 hl3
      have hE4 : M = m_X6_entriesTo_L4_3_b (m_X6_entriesTo_L4_3 n3) (AB ad F) (nI q33) x3_2 p1 := hEl3
      refine lv_iload_n S.1 S.2.1 dX6_entriesTo_4 rfl (lv_at hl3 0 rfl) ?_
      refine lv_bipush (v := (nI 8)) S.1 S.2.1 dX6_entriesTo_5 (by decide +kernel) ?_
      refine lv_icmp_ge (tgt := 33) S.1 S.2.1 dX6_entriesTo_7 (by decide) (fun c5 => ?_) (fun c5 => ?_)
      · skip
        have k6 := ci_le (nI_toInt (n := 8) (by decide)) (nI_toInt (n := q33) (by omega)) c5
        refine lv_iload_n S.1 S.2.1 dX6_entriesTo_33 rfl (lv_at hl3 1 rfl) ?_
        have hE7 : M = x3_2 := hE4.trans ((show m_X6_entriesTo_L4_3_b (m_X6_entriesTo_L4_3 n3) (AB ad F) (nI q33) x3_2 p1 = x3_2 from by unfold m_X6_entriesTo_L4_3_b; rw [if_pos (le_cg rfl rfl c5)]).trans rfl)
        exact hret 34 _ _ dX6_entriesTo_34 rfl (⟨trivial, hM.symm.trans hE7⟩)
      have k8 := ci_nle (nI_toInt (n := 8) (by decide)) (nI_toInt (n := q33) (by omega)) c5
      refine lv_aload_n S.1 S.2.1 dX6_entriesTo_10 rfl (lv_at hl3 2 rfl) ?_
      obtain ⟨k9, hF9, hk9⟩ := wt_ways hW
      refine r_get S hK hP 33 (by decide) hF9 (C := RX6) (T := TX6) (N := 6) hiX6 rfl 3 (by decide) (am_at in_wsX6_entriesTo_0 0 rfl) (v := .ref (ad 36)) rfl dX6_entriesTo_11 ?_
      refine lv_iload_n S.1 S.2.1 dX6_entriesTo_14 rfl (lv_at hl3 0 rfl) ?_
      obtain ⟨g10, hF10, hg10⟩ := wt_I hW (show (36, 8) ∈ rLI by decide)
      refine r_iald S hK hP 36 (by decide) hF10 (vp_in_nI (show q33 < 8 by omega) (by omega)) dX6_entriesTo_15 ?_
      refine lv_topi (fun v12 e12 => ?_)
      have m13 : ((AB ad F) 36 (rl (nI q33))) = v12 := (ab_cg rfl rfl).trans ((AB_g hF10).trans e12.symm)
      refine lv_iload_n S.1 S.2.1 dX6_entriesTo_16 rfl (lv_at hl3 3 rfl) ?_
      refine lv_iand S.1 S.2.1 dX6_entriesTo_17 ?_
      refine lv_topi (fun v14 e14 => ?_)
      have m15 : (((AB ad F) 36 (rl (nI q33))) &&& p1) = v14 := cg2 (fun (x : Int32) (y : Int32) => x &&& y) m13 (Eq.refl (p1 : Int32)) e14
      refine lv_if_eq (tgt := 27) S.1 S.2.1 dX6_entriesTo_18 (by decide) (fun c16 => ?_) (fun c16 => ?_)
      · skip
        have k17 := ci_eq rfl z_ti c16
        have m19 : ((nI q33) + Int32.ofInt (1)) = (nI (q33 + 1)) := (congrArg (fun q : Int32 => q + Int32.ofInt (1)) rfl).trans (nI_add _ 1)
        refine lv_iinc (v := (nI (q33 + 1))) (lv' := [(3, .int (nI (q33 + 1))), (2, .int x3_2), (0, .ref (ad 33)), (1, .int p1)]) S.1 S.2.1 dX6_entriesTo_27 hl3 (k := 0) rfl (nI_add _ 1) (by decide) rfl (fun ls18 hl18 => ?_)
        refine lv_goto (tgt := 4) S.1 S.2.1 dX6_entriesTo_30 (by decide) ?_
        have hE20 : M = (m_X6_entriesTo_L4_3 n3) (AB ad F) (nI (q33 + 1)) x3_2 p1 := hE4.trans ((show m_X6_entriesTo_L4_3_b (m_X6_entriesTo_L4_3 n3) (AB ad F) (nI q33) x3_2 p1 = (m_X6_entriesTo_L4_3 n3) (AB ad F) ((nI q33) + Int32.ofInt (1)) x3_2 p1 from by unfold m_X6_entriesTo_L4_3_b; rw [if_neg (nle_cg rfl rfl c5), if_pos (eq_cg m15 rfl c16)]).trans (congr (congr (congr (congrArg ((m_X6_entriesTo_L4_3 n3)) (rfl : AB ad F = AB ad F)) m19) (Eq.refl (x3_2 : Int32))) (Eq.refl (p1 : Int32))))
        exact ih3 (q33 + 1) (x3_2) (by omega) (by omega) hE20 ls18 (lv_sub hl18 [0, 1, 2, 3] rfl)
      have k21 := ci_ne rfl z_ti c16
      refine lv_iload_n S.1 S.2.1 dX6_entriesTo_21 rfl (lv_at hl3 1 rfl) ?_
      refine lv_iconst (v := (nI 1)) S.1 S.2.1 dX6_entriesTo_22 (by decide +kernel) ?_
      refine lv_iload_n S.1 S.2.1 dX6_entriesTo_23 rfl (lv_at hl3 0 rfl) ?_
      refine lv_ishl S.1 S.2.1 dX6_entriesTo_24 ?_
      refine lv_topi (fun v22 e22 => ?_)
      have m23 : ((nI 1) <<< ((nI q33) &&& 31)) = v22 := cg2 (fun (x : Int32) (y : Int32) => x <<< (y &&& 31)) (Eq.refl ((nI 1) : Int32)) (Eq.refl ((nI q33) : Int32)) e22
      refine lv_ior S.1 S.2.1 dX6_entriesTo_25 ?_
      refine lv_topi (fun v24 e24 => ?_)
      have m25 : (x3_2 ||| ((nI 1) <<< ((nI q33) &&& 31))) = v24 := cg2 (fun (x : Int32) (y : Int32) => x ||| y) (Eq.refl (x3_2 : Int32)) m23 e24
      refine lv_istore_n (lv' := [(2, .int v24), (3, .int (nI q33)), (0, .ref (ad 33)), (1, .int p1)]) S.1 S.2.1 dX6_entriesTo_26 rfl hl3 (by decide) rfl (fun ls26 hl26 => ?_)
      have m28 : ((nI q33) + Int32.ofInt (1)) = (nI (q33 + 1)) := (congrArg (fun q : Int32 => q + Int32.ofInt (1)) rfl).trans (nI_add _ 1)
      refine lv_iinc (v := (nI (q33 + 1))) (lv' := [(3, .int (nI (q33 + 1))), (2, .int v24), (0, .ref (ad 33)), (1, .int p1)]) S.1 S.2.1 dX6_entriesTo_27 hl26 (k := 1) rfl (nI_add _ 1) (by decide) rfl (fun ls27 hl27 => ?_)
      refine lv_goto (tgt := 4) S.1 S.2.1 dX6_entriesTo_30 (by decide) ?_
      have hE29 : M = (m_X6_entriesTo_L4_3 n3) (AB ad F) (nI (q33 + 1)) v24 p1 := hE4.trans ((show m_X6_entriesTo_L4_3_b (m_X6_entriesTo_L4_3 n3) (AB ad F) (nI q33) x3_2 p1 = (m_X6_entriesTo_L4_3 n3) (AB ad F) ((nI q33) + Int32.ofInt (1)) (x3_2 ||| ((nI 1) <<< ((nI q33) &&& 31))) p1 from by unfold m_X6_entriesTo_L4_3_b; rw [if_neg (nle_cg rfl rfl c5), if_neg (neq_cg m15 rfl c16)]).trans (congr (congr (congr (congrArg ((m_X6_entriesTo_L4_3 n3)) (rfl : AB ad F = AB ad F)) m28) m25) (Eq.refl (p1 : Int32))))
      exact ih3 (q33 + 1) (v24) (by omega) (by omega) hE29 ls27 (lv_sub hl27 [0, 1, 2, 3] rfl)
  have hE30 : M = m_X6_entriesTo_L4_3 2000 (AB ad F) (nI 0) (nI 0) p1 := hM.trans ((show m_X6_entriesTo (AB ad F) p1 = m_X6_entriesTo_L4_3 2000 (AB ad F) (nI 0) (nI 0) p1 from rfl).trans (congr (congr (congr (congrArg (m_X6_entriesTo_L4_3 2000) (rfl : AB ad F = AB ad F)) (Eq.refl ((nI 0) : Int32))) (Eq.refl ((nI 0) : Int32))) (Eq.refl (p1 : Int32))))
  exact lp3 2000 (0) ((nI 0)) (by omega) (by omega) hE30 ls2 (lv_sub hl2 [0, 1, 2, 3] rfl)
noncomputable def m_X6_townsAt_L4_3_b (k0 : SS → Int32 → Int32 → Int32 → Int32) (σ : SS) (a0 : Int32) (a1 : Int32) (a2 : Int32) : Int32 :=
  if (nI 5) ≤ a0 then
    a1
  else
    k0 σ (a0 + Int32.ofInt (1)) (a1 ||| ((σ 37 (rl ((a2 * (nI 5)) + a0))) &&& (σ 38 (rl ((a2 * (nI 5)) + a0))))) a2
noncomputable def m_X6_townsAt_L4_3 : Nat → SS → Int32 → Int32 → Int32 → Int32
  | 0 => fun σ _ _ _ => 0
  | n + 1 => m_X6_townsAt_L4_3_b (m_X6_townsAt_L4_3 n)
noncomputable def m_X6_townsAt (σ : SS) (a0 : Int32) : Int32 :=
  m_X6_townsAt_L4_3 2000 σ (nI 0) (nI 0) a0
set_option maxHeartbeats 4000000 in
set_option maxRecDepth 100000 in
theorem c_X6_townsAt (l : Launch) (D : va_G) (cA ad : Nat → Nat) (t : Nat) (hI : rI ad) (F : Nat → va_E) (hW : WT cA ad F) (m1 : Nat) (hm1 : m1 ≤ 48) : MP l D cA ad t yX6_townsAt wsX6_townsAt { frames := 0, cells := 0, slots := 0, locals := 0 } [.ref (ad 33), .int (nI m1)] F (fun r => (True) ∧ m_X6_townsAt (AB ad F) (nI m1) = r) := by
  refine en_P rfl (by decide +kernel) (Nat.le_of_ble_eq_true rfl) ?_
  intro p e s m args below meth c ls0 Q S hK hZ hP hS hl0 hret
  have hl0 : lv_has ls0 4 [(0, .ref (ad 33)), (1, .int (nI m1))] := hl0
  have hiX6 : ∀ w ∈ u_ws RX6 TX6 6, w ∈ wsX6_townsAt := in_wsX6_townsAt_1
  obtain ⟨M, hM⟩ : ∃ M, M = m_X6_townsAt (AB ad F) (nI m1) := ⟨_, rfl⟩
  refine lv_iconst (v := (nI 0)) S.1 S.2.1 dX6_townsAt_0 (by decide +kernel) ?_
  refine lv_istore_n (lv' := [(2, .int (nI 0)), (0, .ref (ad 33)), (1, .int (nI m1))]) S.1 S.2.1 dX6_townsAt_1 rfl hl0 (by decide) rfl (fun ls1 hl1 => ?_)
  refine lv_iconst (v := (nI 0)) S.1 S.2.1 dX6_townsAt_2 (by decide +kernel) ?_
  refine lv_istore_n (lv' := [(3, .int (nI 0)), (2, .int (nI 0)), (0, .ref (ad 33)), (1, .int (nI m1))]) S.1 S.2.1 dX6_townsAt_3 rfl hl1 (by decide) rfl (fun ls2 hl2 => ?_)
  have lp3 : ∀ (n3 : Nat) (q33 : Nat) (x3_2 : Int32), q33 ≤ 5 → 5 - q33 < n3 → M = m_X6_townsAt_L4_3 n3 (AB ad F) (nI q33) x3_2 (nI m1) → ∀ (ls : Array Slot), lv_has ls 4 [(3, .int (nI q33)), (2, .int x3_2), (0, .ref (ad 33)), (1, .int (nI m1))] → W p l e { frames := 0, cells := 0, slots := 0, locals := 0 } s m args below meth c s.heap [] 0 0 Q (F0 m 4 ls []) := by
    intro n3
    induction n3 with
    | zero =>
      intro q33 x3_2 iv3_0 hm3 hEl3 ls3 hl3
      exact absurd hm3 (Nat.not_lt_zero _)
    | succ n3 ih3 =>
      intro q33 x3_2 iv3_0 hm3 hEl3 ls3 hl3
      have hE4 : M = m_X6_townsAt_L4_3_b (m_X6_townsAt_L4_3 n3) (AB ad F) (nI q33) x3_2 (nI m1) := hEl3
      refine lv_iload_n S.1 S.2.1 dX6_townsAt_4 rfl (lv_at hl3 0 rfl) ?_
      refine lv_iconst (v := (nI 5)) S.1 S.2.1 dX6_townsAt_5 (by decide +kernel) ?_
      refine lv_icmp_ge (tgt := 39) S.1 S.2.1 dX6_townsAt_6 (by decide) (fun c5 => ?_) (fun c5 => ?_)
      · skip
        have k6 := ci_le (nI_toInt (n := 5) (by decide)) (nI_toInt (n := q33) (by omega)) c5
        refine lv_iload_n S.1 S.2.1 dX6_townsAt_39 rfl (lv_at hl3 1 rfl) ?_
        have hE7 : M = x3_2 := hE4.trans ((show m_X6_townsAt_L4_3_b (m_X6_townsAt_L4_3 n3) (AB ad F) (nI q33) x3_2 (nI m1) = x3_2 from by unfold m_X6_townsAt_L4_3_b; rw [if_pos (le_cg rfl rfl c5)]).trans rfl)
        exact hret 40 _ _ dX6_townsAt_40 rfl (⟨trivial, hM.symm.trans hE7⟩)
      have k8 := ci_nle (nI_toInt (n := 5) (by decide)) (nI_toInt (n := q33) (by omega)) c5
      refine lv_iload_n S.1 S.2.1 dX6_townsAt_9 rfl (lv_at hl3 1 rfl) ?_
      refine lv_aload_n S.1 S.2.1 dX6_townsAt_10 rfl (lv_at hl3 2 rfl) ?_
      obtain ⟨k9, hF9, hk9⟩ := wt_ways hW
      refine r_get S hK hP 33 (by decide) hF9 (C := RX6) (T := TX6) (N := 6) hiX6 rfl 4 (by decide) (am_at in_wsX6_townsAt_0 0 rfl) (v := .ref (ad 37)) rfl dX6_townsAt_11 ?_
      refine lv_iload_n S.1 S.2.1 dX6_townsAt_14 rfl (lv_at hl3 3 rfl) ?_
      refine lv_iconst (v := (nI 5)) S.1 S.2.1 dX6_townsAt_15 (by decide +kernel) ?_
      refine lv_imul S.1 S.2.1 dX6_townsAt_16 ?_
      refine lv_topi (fun v10 e10 => ?_)
      obtain rfl : v10 = nI (m1 * 5) := e10.trans (pk_mul _ _)
      have m11 : ((nI m1) * (nI 5)) = (nI (m1 * 5)) := cg2 (fun (x : Int32) (y : Int32) => x * y) (Eq.refl ((nI m1) : Int32)) (Eq.refl ((nI 5) : Int32)) e10
      refine lv_iload_n S.1 S.2.1 dX6_townsAt_17 rfl (lv_at hl3 0 rfl) ?_
      refine lv_iadd S.1 S.2.1 dX6_townsAt_18 ?_
      refine lv_topi (fun v12 e12 => ?_)
      obtain rfl : v12 = nI ((m1 * 5) + q33) := e12.trans (nI_add _ _)
      have m13 : (((nI m1) * (nI 5)) + (nI q33)) = (nI ((m1 * 5) + q33)) := cg2 (fun (x : Int32) (y : Int32) => x + y) m11 (Eq.refl ((nI q33) : Int32)) e12
      obtain ⟨g14, hF14, hg14⟩ := wt_I hW (show (37, 245) ∈ rLI by decide)
      refine r_iald S hK hP 37 (by decide) hF14 (vp_in_nI (show (m1 * 5) + q33 < 245 by omega) (by omega)) dX6_townsAt_19 ?_
      refine lv_topi (fun v16 e16 => ?_)
      have m17 : ((AB ad F) 37 (rl (((nI m1) * (nI 5)) + (nI q33)))) = v16 := (ab_cg rfl m13).trans ((AB_g hF14).trans e16.symm)
      refine lv_aload_n S.1 S.2.1 dX6_townsAt_20 rfl (lv_at hl3 2 rfl) ?_
      refine r_get S hK hP 33 (by decide) hF9 (C := RX6) (T := TX6) (N := 6) hiX6 rfl 5 (by decide) (am_at in_wsX6_townsAt_0 1 rfl) (v := .ref (ad 38)) rfl dX6_townsAt_21 ?_
      refine lv_iload_n S.1 S.2.1 dX6_townsAt_24 rfl (lv_at hl3 3 rfl) ?_
      refine lv_iconst (v := (nI 5)) S.1 S.2.1 dX6_townsAt_25 (by decide +kernel) ?_
      refine lv_imul S.1 S.2.1 dX6_townsAt_26 ?_
      refine lv_topi (fun v18 e18 => ?_)
      obtain rfl : v18 = nI (m1 * 5) := e18.trans (pk_mul _ _)
      have m19 : ((nI m1) * (nI 5)) = (nI (m1 * 5)) := cg2 (fun (x : Int32) (y : Int32) => x * y) (Eq.refl ((nI m1) : Int32)) (Eq.refl ((nI 5) : Int32)) e18
      refine lv_iload_n S.1 S.2.1 dX6_townsAt_27 rfl (lv_at hl3 0 rfl) ?_
      refine lv_iadd S.1 S.2.1 dX6_townsAt_28 ?_
      refine lv_topi (fun v20 e20 => ?_)
      obtain rfl : v20 = nI ((m1 * 5) + q33) := e20.trans (nI_add _ _)
      have m21 : (((nI m1) * (nI 5)) + (nI q33)) = (nI ((m1 * 5) + q33)) := cg2 (fun (x : Int32) (y : Int32) => x + y) m19 (Eq.refl ((nI q33) : Int32)) e20
      obtain ⟨g22, hF22, hg22⟩ := wt_I hW (show (38, 245) ∈ rLI by decide)
      refine r_iald S hK hP 38 (by decide) hF22 (vp_in_nI (show (m1 * 5) + q33 < 245 by omega) (by omega)) dX6_townsAt_29 ?_
      refine lv_topi (fun v24 e24 => ?_)
      have m25 : ((AB ad F) 38 (rl (((nI m1) * (nI 5)) + (nI q33)))) = v24 := (ab_cg rfl m21).trans ((AB_g hF22).trans e24.symm)
      refine lv_iand S.1 S.2.1 dX6_townsAt_30 ?_
      refine lv_topi (fun v26 e26 => ?_)
      have m27 : (((AB ad F) 37 (rl (((nI m1) * (nI 5)) + (nI q33)))) &&& ((AB ad F) 38 (rl (((nI m1) * (nI 5)) + (nI q33))))) = v26 := cg2 (fun (x : Int32) (y : Int32) => x &&& y) m17 m25 e26
      refine lv_ior S.1 S.2.1 dX6_townsAt_31 ?_
      refine lv_topi (fun v28 e28 => ?_)
      have m29 : (x3_2 ||| (((AB ad F) 37 (rl (((nI m1) * (nI 5)) + (nI q33)))) &&& ((AB ad F) 38 (rl (((nI m1) * (nI 5)) + (nI q33)))))) = v28 := cg2 (fun (x : Int32) (y : Int32) => x ||| y) (Eq.refl (x3_2 : Int32)) m27 e28
      refine lv_istore_n (lv' := [(2, .int v28), (3, .int (nI q33)), (0, .ref (ad 33)), (1, .int (nI m1))]) S.1 S.2.1 dX6_townsAt_32 rfl hl3 (by decide) rfl (fun ls30 hl30 => ?_)
      have m32 : ((nI q33) + Int32.ofInt (1)) = (nI (q33 + 1)) := (congrArg (fun q : Int32 => q + Int32.ofInt (1)) rfl).trans (nI_add _ 1)
      refine lv_iinc (v := (nI (q33 + 1))) (lv' := [(3, .int (nI (q33 + 1))), (2, .int v28), (0, .ref (ad 33)), (1, .int (nI m1))]) S.1 S.2.1 dX6_townsAt_33 hl30 (k := 1) rfl (nI_add _ 1) (by decide) rfl (fun ls31 hl31 => ?_)
      refine lv_goto (tgt := 4) S.1 S.2.1 dX6_townsAt_36 (by decide) ?_
      have hE33 : M = (m_X6_townsAt_L4_3 n3) (AB ad F) (nI (q33 + 1)) v28 (nI m1) := hE4.trans ((show m_X6_townsAt_L4_3_b (m_X6_townsAt_L4_3 n3) (AB ad F) (nI q33) x3_2 (nI m1) = (m_X6_townsAt_L4_3 n3) (AB ad F) ((nI q33) + Int32.ofInt (1)) (x3_2 ||| (((AB ad F) 37 (rl (((nI m1) * (nI 5)) + (nI q33)))) &&& ((AB ad F) 38 (rl (((nI m1) * (nI 5)) + (nI q33)))))) (nI m1) from by unfold m_X6_townsAt_L4_3_b; rw [if_neg (nle_cg rfl rfl c5)]).trans (congr (congr (congr (congrArg ((m_X6_townsAt_L4_3 n3)) (rfl : AB ad F = AB ad F)) m32) m29) (Eq.refl ((nI m1) : Int32))))
      exact ih3 (q33 + 1) (v28) (by omega) (by omega) hE33 ls31 (lv_sub hl31 [0, 1, 2, 3] rfl)
  have hE34 : M = m_X6_townsAt_L4_3 2000 (AB ad F) (nI 0) (nI 0) (nI m1) := hM.trans ((show m_X6_townsAt (AB ad F) (nI m1) = m_X6_townsAt_L4_3 2000 (AB ad F) (nI 0) (nI 0) (nI m1) from rfl).trans (congr (congr (congr (congrArg (m_X6_townsAt_L4_3 2000) (rfl : AB ad F = AB ad F)) (Eq.refl ((nI 0) : Int32))) (Eq.refl ((nI 0) : Int32))) (Eq.refl ((nI m1) : Int32))))
  exact lp3 2000 (0) ((nI 0)) (by omega) (by omega) hE34 ls2 (lv_sub hl2 [0, 1, 2, 3] rfl)
noncomputable def m_X6_sweepAhead_155 (k0 : SS → Int32 → Nat → Int32 → SS) (σ : SS) (a0 : Int32) (a1 : Nat) (a2 : Int32) : SS :=
  k0 σ (a0 + Int32.ofInt (1)) a1 a2
noncomputable def m_X6_sweepAhead_147 (k0 : SS → Int32 → Nat → Int32 → SS) (σ : SS) (a0 : Int32) (a1 : Nat) (a2 : Int32) : SS :=
  k0 σ (a0 + Int32.ofInt (1)) a1 a2
noncomputable def m_X6_sweepAhead_135 (k0 : SS → Int32 → Nat → Int32 → SS) (σ : SS) (a0 : Int32) (a1 : Nat) (a2 : Int32) : SS :=
  k0 σ (a0 + Int32.ofInt (1)) a1 a2
noncomputable def m_X6_sweepAhead_122 (k0 : SS → Int32 → Nat → Int32 → SS) (k1 : SS → Int32 → Nat → Int32 → SS) (k2 : SS → Int32 → Int32 → Int32 → Int32 → Int32 → Nat → Int32 → SS) (σ : SS) (a0 : Int32) (a1 : Int32) (a2 : Int32) (a3 : Int32) (a4 : Int32) (a5 : Nat) (a6 : Int32) : SS :=
  k2 σ (a0 + Int32.ofInt (1)) a1 a2 a3 a4 a5 a6
noncomputable def m_X6_sweepAhead_105 (k0 : SS → Int32 → Nat → Int32 → SS) (k1 : SS → Int32 → Nat → Int32 → SS) (k2 : SS → Int32 → Int32 → Int32 → Int32 → Int32 → Nat → Int32 → SS) (σ : SS) (a0 : Int32) (a1 : Int32) (a2 : Int32) (a3 : Int32) (a4 : Int32) (a5 : Nat) (a6 : Int32) : SS :=
  k2 σ (a0 + Int32.ofInt (1)) a1 a2 a3 a4 a5 a6
noncomputable def m_X6_sweepAhead_L110_88_b (k0 : SS → Int32 → Nat → Int32 → SS) (k1 : SS → Int32 → Nat → Int32 → SS) (k2 : SS → Int32 → Int32 → Int32 → Int32 → Int32 → Nat → Int32 → SS) (σ : SS) (a0 : Int32) (a1 : Int32) (a2 : Int32) (a3 : Int32) (a4 : Int32) (a5 : Nat) (a6 : Int32) : SS :=
  if (nI 5) ≤ a0 then
    k1 σ (a4 + Int32.ofInt (1)) a5 a6
  else
    if (σ a5 0) < a0 then
      m_X6_sweepAhead_105 k0 k1 k2 (st σ 37 (rl (a2 + a0)) (nI 0)) a0 a1 a2 a3 a4 a5 a6
    else
      m_X6_sweepAhead_122 k0 k1 k2 (st σ 37 (rl (a2 + a0)) ((σ 37 (rl ((a3 + a0) - (nI 1)))) &&& a1)) a0 a1 a2 a3 a4 a5 a6
noncomputable def m_X6_sweepAhead_L110_88 (k0 : SS → Int32 → Nat → Int32 → SS) (k1 : SS → Int32 → Nat → Int32 → SS) : Nat → SS → Int32 → Int32 → Int32 → Int32 → Int32 → Nat → Int32 → SS
  | 0 => fun σ _ _ _ _ _ _ _ => σ
  | n + 1 => m_X6_sweepAhead_L110_88_b k0 k1 (m_X6_sweepAhead_L110_88 k0 k1 n)
noncomputable def m_X6_sweepAhead_85 (k0 : SS → Int32 → Nat → Int32 → SS) (k1 : SS → Int32 → Nat → Int32 → SS) (σ : SS) (a0 : Int32) (a1 : Int32) (a2 : Int32) (a3 : Int32) (a4 : Nat) (a5 : Int32) : SS :=
  m_X6_sweepAhead_L110_88 k0 k1 2000 σ (nI 1) a0 a1 a2 a3 a4 a5
noncomputable def m_X6_sweepAhead_76 (k0 : SS → Int32 → Nat → Int32 → SS) (k1 : SS → Int32 → Nat → Int32 → SS) (k2 : SS → Int32 → Int32 → Int32 → Int32 → Int32 → Nat → Int32 → SS) (σ : SS) (a0 : Int32) (a1 : Int32) (a2 : Int32) (a3 : Int32) (a4 : Int32) (a5 : Nat) (a6 : Int32) : SS :=
  k2 σ (a0 + Int32.ofInt (1)) a1 a2 a3 a4 a5 a6
noncomputable def m_X6_sweepAhead_59 (k0 : SS → Int32 → Nat → Int32 → SS) (k1 : SS → Int32 → Nat → Int32 → SS) (k2 : SS → Int32 → Int32 → Int32 → Int32 → Int32 → Nat → Int32 → SS) (σ : SS) (a0 : Int32) (a1 : Int32) (a2 : Int32) (a3 : Int32) (a4 : Int32) (a5 : Nat) (a6 : Int32) : SS :=
  k2 σ (a0 + Int32.ofInt (1)) a1 a2 a3 a4 a5 a6
noncomputable def m_X6_sweepAhead_L110_42_b (k0 : SS → Int32 → Nat → Int32 → SS) (k1 : SS → Int32 → Nat → Int32 → SS) (k2 : SS → Int32 → Int32 → Int32 → Int32 → Int32 → Nat → Int32 → SS) (σ : SS) (a0 : Int32) (a1 : Int32) (a2 : Int32) (a3 : Int32) (a4 : Int32) (a5 : Nat) (a6 : Int32) : SS :=
  if (nI 5) ≤ a0 then
    k1 σ (a4 + Int32.ofInt (1)) a5 a6
  else
    if (σ a5 0) < a0 then
      m_X6_sweepAhead_59 k0 k1 k2 (st σ 37 (rl (a2 + a0)) (nI 0)) a0 a1 a2 a3 a4 a5 a6
    else
      m_X6_sweepAhead_76 k0 k1 k2 (st σ 37 (rl (a2 + a0)) ((σ 37 (rl ((a3 + a0) - (nI 1)))) &&& a1)) a0 a1 a2 a3 a4 a5 a6
noncomputable def m_X6_sweepAhead_L110_42 (k0 : SS → Int32 → Nat → Int32 → SS) (k1 : SS → Int32 → Nat → Int32 → SS) : Nat → SS → Int32 → Int32 → Int32 → Int32 → Int32 → Nat → Int32 → SS
  | 0 => fun σ _ _ _ _ _ _ _ => σ
  | n + 1 => m_X6_sweepAhead_L110_42_b k0 k1 (m_X6_sweepAhead_L110_42 k0 k1 n)
noncomputable def m_X6_sweepAhead_39 (k0 : SS → Int32 → Nat → Int32 → SS) (k1 : SS → Int32 → Nat → Int32 → SS) (σ : SS) (a0 : Int32) (a1 : Int32) (a2 : Int32) (a3 : Int32) (a4 : Nat) (a5 : Int32) : SS :=
  m_X6_sweepAhead_L110_42 k0 k1 2000 σ (nI 1) a0 a1 a2 a3 a4 a5
noncomputable def m_X6_sweepAhead_L46_12_b (k0 : SS → Int32 → Nat → Int32 → SS) (k1 : SS → Int32 → Nat → Int32 → SS) (σ : SS) (a0 : Int32) (a1 : Nat) (a2 : Int32) : SS :=
  if (nI 48) ≤ a0 then
    σ
  else
    if (m_X6_isTold σ a0 a2) = (0 : Int32) then
      m_X6_sweepAhead_39 k0 k1 (st σ 37 (rl ((a0 * (nI 5)) + (nI 5))) (m_X7_exitsOf σ (m_X6_union σ 37 a0) 36)) (m_X6_staysIn σ a1 a0 a2) ((a0 * (nI 5)) + (nI 5)) (a0 * (nI 5)) a0 a1 a2
    else
      m_X6_sweepAhead_85 k0 k1 (st σ 37 (rl ((a0 * (nI 5)) + (nI 5))) (nI 0)) (m_X6_staysIn σ a1 a0 a2) ((a0 * (nI 5)) + (nI 5)) (a0 * (nI 5)) a0 a1 a2
noncomputable def m_X6_sweepAhead_L46_12 (k0 : SS → Int32 → Nat → Int32 → SS) : Nat → SS → Int32 → Nat → Int32 → SS
  | 0 => fun σ _ _ _ => σ
  | n + 1 => m_X6_sweepAhead_L46_12_b k0 (m_X6_sweepAhead_L46_12 k0 n)
noncomputable def m_X6_sweepAhead_L11_7_b (k0 : SS → Int32 → Nat → Int32 → SS) (σ : SS) (a0 : Int32) (a1 : Nat) (a2 : Int32) : SS :=
  if (nI 5) ≤ a0 then
    m_X6_sweepAhead_L46_12 k0 2000 σ (nI 0) a1 a2
  else
    if a0 = (0 : Int32) then
      if (σ a1 2) ≤ (0 : Int32) then
        m_X6_sweepAhead_147 k0 (st σ 37 (rl a0) (nI 0)) a0 a1 a2
      else
        m_X6_sweepAhead_155 k0 (st σ 37 (rl a0) (nI 1)) a0 a1 a2
    else
      m_X6_sweepAhead_135 k0 (st σ 37 (rl a0) (nI 0)) a0 a1 a2
noncomputable def m_X6_sweepAhead_L11_7 : Nat → SS → Int32 → Nat → Int32 → SS
  | 0 => fun σ _ _ _ => σ
  | n + 1 => m_X6_sweepAhead_L11_7_b (m_X6_sweepAhead_L11_7 n)
noncomputable def m_X6_sweepAhead_4 (σ : SS) (a0 : Nat) (a1 : Int32) : SS :=
  m_X6_sweepAhead_L11_7 2000 σ (nI 0) a0 a1
noncomputable def m_X6_sweepAhead (σ : SS) (a0 : Nat) (a1 : Int32) : SS :=
  m_X6_sweepAhead_4 (m_X0_fillExits σ a0 36 (nI 0)) a0 a1
set_option maxHeartbeats 4000000 in
set_option maxRecDepth 100000 in
theorem c_X6_sweepAhead (l : Launch) (D : va_G) (cA ad : Nat → Nat) (t : Nat) (hI : rI ad) (F : Nat → va_E) (hW : WT cA ad F) (rc : Nat) (hrc : isC rc) (p2 : Int32) : MV l D cA ad t yX6_sweepAhead wsX6_sweepAhead { frames := 3, cells := 0, slots := 0, locals := 69 } [.ref (ad 33), .ref (ad rc), .int p2] F (fun F' => WT cA ad F' ∧ rFr [36, 37] F F' ∧ ((True) ∧ m_X6_sweepAhead (AB ad F) rc p2 = AB ad F')) := by
  refine en_V rfl (by decide +kernel) (Nat.le_of_ble_eq_true rfl) ?_
  intro p e s m args below meth c ls0 Q S hK hZ hP hS hl0 hret
  have hl0 : lv_has ls0 8 [(0, .ref (ad 33)), (1, .ref (ad rc)), (2, .int p2)] := hl0
  have hFr : rFr [36, 37] F F := rFr.rf
  have hiX0 : ∀ w ∈ u_ws RX0 TX0 10, w ∈ wsX6_sweepAhead := in_wsX6_sweepAhead_4
  have hiX6 : ∀ w ∈ u_ws RX6 TX6 6, w ∈ wsX6_sweepAhead := in_wsX6_sweepAhead_3
  obtain ⟨M, hM⟩ : ∃ M, M = m_X6_sweepAhead (AB ad F) rc p2 := ⟨_, rfl⟩
  refine lv_aload_n S.1 S.2.1 dX6_sweepAhead_0 rfl (lv_at hl0 1 rfl) ?_
  refine lv_aload_n S.1 S.2.1 dX6_sweepAhead_1 rfl (lv_at hl0 0 rfl) ?_
  obtain ⟨k1, hF1, hk1⟩ := wt_ways hW
  refine r_get S hK hP 33 (by decide) hF1 (C := RX6) (T := TX6) (N := 6) hiX6 rfl 3 (by decide) (am_at in_wsX6_sweepAhead_0 0 rfl) (v := .ref (ad 36)) rfl dX6_sweepAhead_2 ?_
  refine lv_iconst (v := (nI 0)) S.1 S.2.1 dX6_sweepAhead_5 (by decide +kernel) ?_
  obtain ⟨sl3, fm3, tn3, rn3, bn3, hF3, hb3_1, hb3_2, hb3_3⟩ := wt_C hW hrc
  refine r_cVv (As := [.ref (ad 36), .int (nI 0)]) (rest := []) S hK hZ hP hS hl0.1 rc (lt_C hrc) hF3 (C := RX0) rfl (c_X0_fillExits l D cA ad t hI F hW rc hrc 36 (show (36, 8) ∈ rLI by decide) (by decide) (nI 0)) (cwV 2 S.2.2.2.2 gX6_sweepAhead_X0_fillExits rfl rfl rfl (by decide +kernel) ⟨Nat.le_of_ble_eq_true rfl, Nat.le_of_ble_eq_true rfl⟩) rfl rfl (Nat.le_of_ble_eq_true rfl) ⟨Nat.zero_le _, Nat.zero_le _⟩ dX6_sweepAhead_6 (fun F2 H2 locs2 hr2 hP2 hS2 => ?_)
  obtain ⟨hW2, hFc2, hr2⟩ := hr2
  obtain ⟨hr2, hm2⟩ := hr2
  have hFr2 := hFr.tr hFc2 (by simp <;> first | omega | (simp only [isC, isJ] at *; omega))
  have hE5 : M = m_X6_sweepAhead_4 (AB ad F2) rc p2 := hM.trans ((show m_X6_sweepAhead (AB ad F) rc p2 = m_X6_sweepAhead_4 (m_X0_fillExits (AB ad F) rc 36 (nI 0)) rc p2 from rfl).trans (congr (congr (congrArg (m_X6_sweepAhead_4) ((congr (congr (congr (Eq.refl (m_X0_fillExits (AB ad F))) (Eq.refl rc)) (Eq.refl 36)) (Eq.refl ((nI 0) : Int32))).trans hm2)) (Eq.refl rc)) (Eq.refl (p2 : Int32))))
  refine lv_iconst (v := (nI 0)) S.1 S.2.1 dX6_sweepAhead_9 (by decide +kernel) ?_
  refine lv_istore_n (lv' := [(3, .int (nI 0)), (0, .ref (ad 33)), (1, .ref (ad rc)), (2, .int p2)]) S.1 S.2.1 dX6_sweepAhead_10 rfl hl0 (by decide) rfl (fun ls6 hl6 => ?_)
  have lp7 : ∀ (n7 : Nat) (q37 : Nat), ∀ (Fl7 : Nat → va_E) (Hl7 : Heap) (lol7 : List Loc), q37 ≤ 5 → 5 - q37 < n7 → WT cA ad Fl7 → rFr [36, 37] F Fl7 → va_P D vwCl (rW ad Fl7) Hl7 → va_S (rA ad) s.heap Hl7 lol7 → M = m_X6_sweepAhead_L11_7 n7 (AB ad Fl7) (nI q37) rc p2 → ∀ (ls : Array Slot), lv_has ls 8 [(3, .int (nI q37)), (0, .ref (ad 33)), (1, .ref (ad rc)), (2, .int p2)] → W p l e { frames := 3, cells := 0, slots := 0, locals := 69 } s m args below meth c Hl7 lol7 0 0 Q (F0 m 11 ls []) := by
    intro n7
    induction n7 with
    | zero =>
      intro q37 Fl7 Hl7 lol7 iv7_0 hm7 hWl7 hFl7 hPl7 hSl7 hEl7 ls7 hl7
      exact absurd hm7 (Nat.not_lt_zero _)
    | succ n7 ih7 =>
      intro q37 Fl7 Hl7 lol7 iv7_0 hm7 hWl7 hFl7 hPl7 hSl7 hEl7 ls7 hl7
      have hE8 : M = m_X6_sweepAhead_L11_7_b (m_X6_sweepAhead_L11_7 n7) (AB ad Fl7) (nI q37) rc p2 := hEl7
      refine lv_iload_n S.1 S.2.1 dX6_sweepAhead_11 rfl (lv_at hl7 0 rfl) ?_
      refine lv_iconst (v := (nI 5)) S.1 S.2.1 dX6_sweepAhead_12 (by decide +kernel) ?_
      refine lv_icmp_ge (tgt := 44) S.1 S.2.1 dX6_sweepAhead_13 (by decide) (fun c9 => ?_) (fun c9 => ?_)
      · skip
        have k10 := ci_le (nI_toInt (n := 5) (by decide)) (nI_toInt (n := q37) (by omega)) c9
        refine lv_iconst (v := (nI 0)) S.1 S.2.1 dX6_sweepAhead_44 (by decide +kernel) ?_
        refine lv_istore_n (lv' := [(3, .int (nI 0)), (0, .ref (ad 33)), (1, .ref (ad rc)), (2, .int p2)]) S.1 S.2.1 dX6_sweepAhead_45 rfl hl7 (by decide) rfl (fun ls11 hl11 => ?_)
        have lp12 : ∀ (n12 : Nat) (q312 : Nat), ∀ (Fl12 : Nat → va_E) (Hl12 : Heap) (lol12 : List Loc), q312 ≤ 48 → 48 - q312 < n12 → WT cA ad Fl12 → rFr [36, 37] F Fl12 → va_P D vwCl (rW ad Fl12) Hl12 → va_S (rA ad) s.heap Hl12 lol12 → M = m_X6_sweepAhead_L46_12 (m_X6_sweepAhead_L11_7 n7) n12 (AB ad Fl12) (nI q312) rc p2 → ∀ (ls : Array Slot), lv_has ls 8 [(3, .int (nI q312)), (0, .ref (ad 33)), (1, .ref (ad rc)), (2, .int p2)] → W p l e { frames := 3, cells := 0, slots := 0, locals := 69 } s m args below meth c Hl12 lol12 0 0 Q (F0 m 46 ls []) := by
          intro n12
          induction n12 with
          | zero =>
            intro q312 Fl12 Hl12 lol12 iv12_0 hm12 hWl12 hFl12 hPl12 hSl12 hEl12 ls12 hl12
            exact absurd hm12 (Nat.not_lt_zero _)
          | succ n12 ih12 =>
            intro q312 Fl12 Hl12 lol12 iv12_0 hm12 hWl12 hFl12 hPl12 hSl12 hEl12 ls12 hl12
            have hE13 : M = m_X6_sweepAhead_L46_12_b (m_X6_sweepAhead_L11_7 n7) (m_X6_sweepAhead_L46_12 (m_X6_sweepAhead_L11_7 n7) n12) (AB ad Fl12) (nI q312) rc p2 := hEl12
            refine lv_iload_n S.1 S.2.1 dX6_sweepAhead_46 rfl (lv_at hl12 0 rfl) ?_
            refine lv_bipush (v := (nI 48)) S.1 S.2.1 dX6_sweepAhead_47 (by decide +kernel) ?_
            refine lv_icmp_ge (tgt := 166) S.1 S.2.1 dX6_sweepAhead_49 (by decide) (fun c14 => ?_) (fun c14 => ?_)
            · skip
              have k15 := ci_le (nI_toInt (n := 48) (by decide)) (nI_toInt (n := q312) (by omega)) c14
              have hE16 : M = AB ad Fl12 := hE13.trans ((show m_X6_sweepAhead_L46_12_b (m_X6_sweepAhead_L11_7 n7) (m_X6_sweepAhead_L46_12 (m_X6_sweepAhead_L11_7 n7) n12) (AB ad Fl12) (nI q312) rc p2 = (AB ad Fl12) from by unfold m_X6_sweepAhead_L46_12_b; rw [if_pos (le_cg rfl rfl c14)]).trans rfl)
              exact hret 166 _ _ _ _ dX6_sweepAhead_166 hPl12 hSl12 ⟨hWl12, hFl12, ⟨trivial, hM.symm.trans hE16⟩⟩
            have k17 := ci_nle (nI_toInt (n := 48) (by decide)) (nI_toInt (n := q312) (by omega)) c14
            refine lv_iload_n S.1 S.2.1 dX6_sweepAhead_52 rfl (lv_at hl12 0 rfl) ?_
            refine lv_iconst (v := (nI 5)) S.1 S.2.1 dX6_sweepAhead_53 (by decide +kernel) ?_
            refine lv_imul S.1 S.2.1 dX6_sweepAhead_54 ?_
            refine lv_topi (fun v18 e18 => ?_)
            obtain rfl : v18 = nI (q312 * 5) := e18.trans (pk_mul _ _)
            have m19 : ((nI q312) * (nI 5)) = (nI (q312 * 5)) := cg2 (fun (x : Int32) (y : Int32) => x * y) (Eq.refl ((nI q312) : Int32)) (Eq.refl ((nI 5) : Int32)) e18
            refine lv_istore (lv' := [(4, .int (nI (q312 * 5))), (3, .int (nI q312)), (0, .ref (ad 33)), (1, .ref (ad rc)), (2, .int p2)]) S.1 S.2.1 dX6_sweepAhead_55 hl12 (by decide) rfl (fun ls20 hl20 => ?_)
            refine lv_iload S.1 S.2.1 dX6_sweepAhead_57 (lv_at hl20 0 rfl) ?_
            refine lv_iconst (v := (nI 5)) S.1 S.2.1 dX6_sweepAhead_59 (by decide +kernel) ?_
            refine lv_iadd S.1 S.2.1 dX6_sweepAhead_60 ?_
            refine lv_topi (fun v21 e21 => ?_)
            obtain rfl : v21 = nI ((q312 * 5) + 5) := e21.trans (nI_add _ _)
            have m22 : (((nI q312) * (nI 5)) + (nI 5)) = (nI ((q312 * 5) + 5)) := cg2 (fun (x : Int32) (y : Int32) => x + y) m19 (Eq.refl ((nI 5) : Int32)) e21
            refine lv_istore (lv' := [(5, .int (nI ((q312 * 5) + 5))), (4, .int (nI (q312 * 5))), (3, .int (nI q312)), (0, .ref (ad 33)), (1, .ref (ad rc)), (2, .int p2)]) S.1 S.2.1 dX6_sweepAhead_61 hl20 (by decide) rfl (fun ls23 hl23 => ?_)
            refine lv_aload_n S.1 S.2.1 dX6_sweepAhead_63 rfl (lv_at hl23 3 rfl) ?_
            refine lv_aload_n S.1 S.2.1 dX6_sweepAhead_64 rfl (lv_at hl23 4 rfl) ?_
            refine lv_iload_n S.1 S.2.1 dX6_sweepAhead_65 rfl (lv_at hl23 2 rfl) ?_
            refine lv_iload_n S.1 S.2.1 dX6_sweepAhead_66 rfl (lv_at hl23 5 rfl) ?_
            obtain ⟨k25, hF25, hk25⟩ := wt_ways hWl12
            refine r_cVp (As := [.ref (ad rc), .int (nI q312), .int p2]) (rest := []) S hK hZ hPl12 hSl12 hl23.1 33 (by decide) hF25 (C := RX6) rfl (c_X6_staysIn l D cA ad t hI Fl12 hWl12 rc hrc (nI q312) p2) (cwV 3 S.2.2.2.2 gX6_sweepAhead_X6_staysIn rfl rfl rfl (by decide +kernel) ⟨Nat.le_of_ble_eq_true rfl, Nat.le_of_ble_eq_true rfl⟩) rfl rfl (Nat.le_of_ble_eq_true rfl) ⟨Nat.zero_le _, Nat.zero_le _⟩ dX6_sweepAhead_67 (fun r24 hr24 => ?_)
            obtain ⟨hr24, hm24⟩ := hr24
            have m26 : (m_X6_staysIn (AB ad Fl12) rc (nI q312) p2) = r24 := (congr (congr (congr (Eq.refl (m_X6_staysIn (AB ad Fl12))) (Eq.refl rc)) (Eq.refl ((nI q312) : Int32))) (Eq.refl (p2 : Int32))).trans hm24
            refine lv_istore (lv' := [(6, .int r24), (5, .int (nI ((q312 * 5) + 5))), (4, .int (nI (q312 * 5))), (3, .int (nI q312)), (0, .ref (ad 33)), (1, .ref (ad rc)), (2, .int p2)]) S.1 S.2.1 dX6_sweepAhead_70 hl23 (by decide) rfl (fun ls27 hl27 => ?_)
            refine lv_aload_n S.1 S.2.1 dX6_sweepAhead_72 rfl (lv_at hl27 4 rfl) ?_
            refine r_get S hK hPl12 33 (by decide) hF25 (C := RX6) (T := TX6) (N := 6) hiX6 rfl 4 (by decide) (am_at in_wsX6_sweepAhead_0 1 rfl) (v := .ref (ad 37)) rfl dX6_sweepAhead_73 ?_
            refine lv_iload S.1 S.2.1 dX6_sweepAhead_76 (lv_at hl27 1 rfl) ?_
            refine lv_aload_n S.1 S.2.1 dX6_sweepAhead_78 rfl (lv_at hl27 4 rfl) ?_
            refine lv_iload_n S.1 S.2.1 dX6_sweepAhead_79 rfl (lv_at hl27 3 rfl) ?_
            refine lv_iload_n S.1 S.2.1 dX6_sweepAhead_80 rfl (lv_at hl27 6 rfl) ?_
            refine r_cVp (As := [.int (nI q312), .int p2]) (rest := [.int (nI ((q312 * 5) + 5)), .ref (ad 37)]) S hK hZ hPl12 hSl12 hl27.1 33 (by decide) hF25 (C := RX6) rfl (c_X6_isTold l D cA ad t hI Fl12 hWl12 (nI q312) p2) (cwV 2 S.2.2.2.2 gX6_sweepAhead_X6_isTold rfl rfl rfl (by decide +kernel) ⟨Nat.le_of_ble_eq_true rfl, Nat.le_of_ble_eq_true rfl⟩) rfl rfl (Nat.le_of_ble_eq_true rfl) ⟨Nat.zero_le _, Nat.zero_le _⟩ dX6_sweepAhead_81 (fun r28 hr28 => ?_)
            obtain ⟨hr28, hm28⟩ := hr28
            obtain ⟨b29, hb29, rfl⟩ := hr28
            have m30 : (m_X6_isTold (AB ad Fl12) (nI q312) p2) = (nI b29) := (congr (congr (Eq.refl (m_X6_isTold (AB ad Fl12))) (Eq.refl ((nI q312) : Int32))) (Eq.refl (p2 : Int32))).trans hm28
            refine lv_if_eq (tgt := 91) S.1 S.2.1 dX6_sweepAhead_84 (by decide) (fun c31 => ?_) (fun c31 => ?_)
            · skip
              have k32 := ci_eq (nI_toInt (n := b29) (Nat.lt_of_le_of_lt hb29 (by decide))) z_ti c31
              refine lv_aload_n S.1 S.2.1 dX6_sweepAhead_91 rfl (lv_at hl27 4 rfl) ?_
              refine r_get S hK hPl12 33 (by decide) hF25 (C := RX6) (T := TX6) (N := 6) hiX6 rfl 4 (by decide) (am_at in_wsX6_sweepAhead_0 1 rfl) (v := .ref (ad 37)) rfl dX6_sweepAhead_92 ?_
              refine lv_iload_n S.1 S.2.1 dX6_sweepAhead_95 rfl (lv_at hl27 3 rfl) ?_
              refine r_cSp (As := [.ref (ad 37), .int (nI q312)]) (rest := [.int (nI ((q312 * 5) + 5)), .ref (ad 37)]) S hK hZ hPl12 hSl12 hl27.1 (c_X6_union l D cA ad t hI Fl12 hWl12 37 (show (37, 245) ∈ rLI by decide) (by decide) (q312) (by omega)) (va_cwS 2 S.2.2.2.2 gX6_sweepAhead_X6_union rfl rfl rfl (by decide +kernel) ⟨Nat.le_of_ble_eq_true rfl, Nat.le_of_ble_eq_true rfl⟩) rfl rfl (Nat.le_of_ble_eq_true rfl) ⟨Nat.zero_le _, Nat.zero_le _⟩ dX6_sweepAhead_96 (fun r33 hr33 => ?_)
              obtain ⟨hr33, hm33⟩ := hr33
              have m34 : (m_X6_union (AB ad Fl12) 37 (nI q312)) = r33 := (congr (congr (Eq.refl (m_X6_union (AB ad Fl12))) (Eq.refl 37)) (Eq.refl ((nI q312) : Int32))).trans hm33
              refine lv_aload_n S.1 S.2.1 dX6_sweepAhead_99 rfl (lv_at hl27 4 rfl) ?_
              refine r_get S hK hPl12 33 (by decide) hF25 (C := RX6) (T := TX6) (N := 6) hiX6 rfl 3 (by decide) (am_at in_wsX6_sweepAhead_0 0 rfl) (v := .ref (ad 36)) rfl dX6_sweepAhead_100 ?_
              refine r_cNp (As := [.int r33, .ref (ad 36)]) (rest := [.int (nI ((q312 * 5) + 5)), .ref (ad 37)]) S hK hZ hPl12 hSl12 hl27.1 (c_X7_exitsOf l D cA ad t hI Fl12 hWl12 r33 36 (show (36, 8) ∈ rLI by decide) (by decide)) (va_cnB 2 S.2.2.2.2 gX6_sweepAhead_X7_exitsOf_n73 rfl rfl rfl hZ.2.2.2 (S.2.2.2.2 (.initialized RX7) (am_at in_wsX6_sweepAhead_2 0 rfl)) (by decide +kernel) ⟨Nat.le_of_ble_eq_true rfl, Nat.le_of_ble_eq_true rfl⟩) (S.2.2.2.2 (.static yX7_exitsOf) (am_at in_wsX6_sweepAhead_1 23 rfl)) rfl rfl (Nat.le_of_ble_eq_true rfl) ⟨Nat.zero_le _, Nat.zero_le _⟩ dX6_sweepAhead_103 (fun r35 hr35 => ?_)
              obtain ⟨hr35, hm35⟩ := hr35
              have m36 : (m_X7_exitsOf (AB ad Fl12) (m_X6_union (AB ad Fl12) 37 (nI q312)) 36) = r35 := (congr (congr (Eq.refl (m_X7_exitsOf (AB ad Fl12))) m34) (Eq.refl 36)).trans hm35
              obtain ⟨g37, hF37, hg37⟩ := wt_I hWl12 (show (37, 245) ∈ rLI by decide)
              refine r_iast S hI hK hPl12 hSl12 37 (by decide) hF37 (vp_in_nI (show (q312 * 5) + 5 < 245 by omega) (by omega)) dX6_sweepAhead_106 (fun F38 H38 locs38 eF38 hP38 hS38 => ?_)
              have hW38 := hWl12.up eF38 (ok_I (show (37, 245) ∈ rLI by decide) (okI_up hg37 (pr_of (by decide))))
              have hFr38 := hFl12.up eF38 (by simp <;> first | omega | (simp only [isC, isJ] at *; omega))
              have hE40 : M = m_X6_sweepAhead_39 (m_X6_sweepAhead_L11_7 n7) (m_X6_sweepAhead_L46_12 (m_X6_sweepAhead_L11_7 n7) n12) (AB ad F38) r24 (nI ((q312 * 5) + 5)) (nI (q312 * 5)) (nI q312) rc p2 := hE13.trans ((show m_X6_sweepAhead_L46_12_b (m_X6_sweepAhead_L11_7 n7) (m_X6_sweepAhead_L46_12 (m_X6_sweepAhead_L11_7 n7) n12) (AB ad Fl12) (nI q312) rc p2 = m_X6_sweepAhead_39 (m_X6_sweepAhead_L11_7 n7) (m_X6_sweepAhead_L46_12 (m_X6_sweepAhead_L11_7 n7) n12) (st (AB ad Fl12) 37 (rl (((nI q312) * (nI 5)) + (nI 5))) (m_X7_exitsOf (AB ad Fl12) (m_X6_union (AB ad Fl12) 37 (nI q312)) 36)) (m_X6_staysIn (AB ad Fl12) rc (nI q312) p2) (((nI q312) * (nI 5)) + (nI 5)) ((nI q312) * (nI 5)) (nI q312) rc p2 from by unfold m_X6_sweepAhead_L46_12_b; rw [if_neg (nle_cg rfl rfl c14), if_pos (eq_cg m30 rfl c31)]).trans (congr (congr (congr (congr (congr (congr (congrArg (m_X6_sweepAhead_39 (m_X6_sweepAhead_L11_7 n7) (m_X6_sweepAhead_L46_12 (m_X6_sweepAhead_L11_7 n7) n12)) ((st_cg rfl (congrArg rl m22) m36).trans (AB_ast hF37 eF38).symm)) m26) m22) m19) (Eq.refl ((nI q312) : Int32))) (Eq.refl rc)) (Eq.refl (p2 : Int32))))
              refine lv_iconst (v := (nI 1)) S.1 S.2.1 dX6_sweepAhead_107 (by decide +kernel) ?_
              refine lv_istore (lv' := [(7, .int (nI 1)), (6, .int r24), (5, .int (nI ((q312 * 5) + 5))), (4, .int (nI (q312 * 5))), (3, .int (nI q312)), (0, .ref (ad 33)), (1, .ref (ad rc)), (2, .int p2)]) S.1 S.2.1 dX6_sweepAhead_108 hl27 (by decide) rfl (fun ls41 hl41 => ?_)
              have lp42 : ∀ (n42 : Nat) (q742 : Nat), ∀ (Fl42 : Nat → va_E) (Hl42 : Heap) (lol42 : List Loc), 1 ≤ q742 ∧ q742 ≤ 5 → 5 - q742 < n42 → WT cA ad Fl42 → rFr [36, 37] F Fl42 → va_P D vwCl (rW ad Fl42) Hl42 → va_S (rA ad) s.heap Hl42 lol42 → M = m_X6_sweepAhead_L110_42 (m_X6_sweepAhead_L11_7 n7) (m_X6_sweepAhead_L46_12 (m_X6_sweepAhead_L11_7 n7) n12) n42 (AB ad Fl42) (nI q742) r24 (nI ((q312 * 5) + 5)) (nI (q312 * 5)) (nI q312) rc p2 → ∀ (ls : Array Slot), lv_has ls 8 [(7, .int (nI q742)), (6, .int r24), (5, .int (nI ((q312 * 5) + 5))), (4, .int (nI (q312 * 5))), (3, .int (nI q312)), (0, .ref (ad 33)), (1, .ref (ad rc)), (2, .int p2)] → W p l e { frames := 3, cells := 0, slots := 0, locals := 69 } s m args below meth c Hl42 lol42 0 0 Q (F0 m 110 ls []) := by
                intro n42
                induction n42 with
                | zero =>
                  intro q742 Fl42 Hl42 lol42 iv42_0 hm42 hWl42 hFl42 hPl42 hSl42 hEl42 ls42 hl42
                  exact absurd hm42 (Nat.not_lt_zero _)
                | succ n42 ih42 =>
                  intro q742 Fl42 Hl42 lol42 iv42_0 hm42 hWl42 hFl42 hPl42 hSl42 hEl42 ls42 hl42
                  have hE43 : M = m_X6_sweepAhead_L110_42_b (m_X6_sweepAhead_L11_7 n7) (m_X6_sweepAhead_L46_12 (m_X6_sweepAhead_L11_7 n7) n12) (m_X6_sweepAhead_L110_42 (m_X6_sweepAhead_L11_7 n7) (m_X6_sweepAhead_L46_12 (m_X6_sweepAhead_L11_7 n7) n12) n42) (AB ad Fl42) (nI q742) r24 (nI ((q312 * 5) + 5)) (nI (q312 * 5)) (nI q312) rc p2 := hEl42
                  refine lv_iload S.1 S.2.1 dX6_sweepAhead_110 (lv_at hl42 0 rfl) ?_
                  refine lv_iconst (v := (nI 5)) S.1 S.2.1 dX6_sweepAhead_112 (by decide +kernel) ?_
                  refine lv_icmp_ge (tgt := 160) S.1 S.2.1 dX6_sweepAhead_113 (by decide) (fun c44 => ?_) (fun c44 => ?_)
                  · skip
                    have k45 := ci_le (nI_toInt (n := 5) (by decide)) (nI_toInt (n := q742) (by omega)) c44
                    have m47 : ((nI q312) + Int32.ofInt (1)) = (nI (q312 + 1)) := (congrArg (fun q : Int32 => q + Int32.ofInt (1)) rfl).trans (nI_add _ 1)
                    refine lv_iinc (v := (nI (q312 + 1))) (lv' := [(3, .int (nI (q312 + 1))), (7, .int (nI q742)), (6, .int r24), (5, .int (nI ((q312 * 5) + 5))), (4, .int (nI (q312 * 5))), (0, .ref (ad 33)), (1, .ref (ad rc)), (2, .int p2)]) S.1 S.2.1 dX6_sweepAhead_160 hl42 (k := 4) rfl (nI_add _ 1) (by decide) rfl (fun ls46 hl46 => ?_)
                    refine lv_goto (tgt := 46) S.1 S.2.1 dX6_sweepAhead_163 (by decide) ?_
                    have hE48 : M = (m_X6_sweepAhead_L46_12 (m_X6_sweepAhead_L11_7 n7) n12) (AB ad Fl42) (nI (q312 + 1)) rc p2 := hE43.trans ((show m_X6_sweepAhead_L110_42_b (m_X6_sweepAhead_L11_7 n7) (m_X6_sweepAhead_L46_12 (m_X6_sweepAhead_L11_7 n7) n12) (m_X6_sweepAhead_L110_42 (m_X6_sweepAhead_L11_7 n7) (m_X6_sweepAhead_L46_12 (m_X6_sweepAhead_L11_7 n7) n12) n42) (AB ad Fl42) (nI q742) r24 (nI ((q312 * 5) + 5)) (nI (q312 * 5)) (nI q312) rc p2 = (m_X6_sweepAhead_L46_12 (m_X6_sweepAhead_L11_7 n7) n12) (AB ad Fl42) ((nI q312) + Int32.ofInt (1)) rc p2 from by unfold m_X6_sweepAhead_L110_42_b; rw [if_pos (le_cg rfl rfl c44)]).trans (congr (congr (congr (congrArg ((m_X6_sweepAhead_L46_12 (m_X6_sweepAhead_L11_7 n7) n12)) (rfl : AB ad Fl42 = AB ad Fl42)) m47) (Eq.refl rc)) (Eq.refl (p2 : Int32))))
                    exact ih12 (q312 + 1) Fl42 Hl42 lol42 (by omega) (by omega) hWl42 hFl42 hPl42 hSl42 hE48 ls46 (lv_sub hl46 [0, 5, 6, 7] rfl)
                  have k49 := ci_nle (nI_toInt (n := 5) (by decide)) (nI_toInt (n := q742) (by omega)) c44
                  refine lv_aload_n S.1 S.2.1 dX6_sweepAhead_116 rfl (lv_at hl42 5 rfl) ?_
                  obtain ⟨k50, hF50, hk50⟩ := wt_ways hWl42
                  refine r_get S hK hPl42 33 (by decide) hF50 (C := RX6) (T := TX6) (N := 6) hiX6 rfl 4 (by decide) (am_at in_wsX6_sweepAhead_0 1 rfl) (v := .ref (ad 37)) rfl dX6_sweepAhead_117 ?_
                  refine lv_iload S.1 S.2.1 dX6_sweepAhead_120 (lv_at hl42 2 rfl) ?_
                  refine lv_iload S.1 S.2.1 dX6_sweepAhead_122 (lv_at hl42 0 rfl) ?_
                  refine lv_iadd S.1 S.2.1 dX6_sweepAhead_124 ?_
                  refine lv_topi (fun v51 e51 => ?_)
                  obtain rfl : v51 = nI (((q312 * 5) + 5) + q742) := e51.trans (nI_add _ _)
                  have m52 : ((nI ((q312 * 5) + 5)) + (nI q742)) = (nI (((q312 * 5) + 5) + q742)) := cg2 (fun (x : Int32) (y : Int32) => x + y) (Eq.refl ((nI ((q312 * 5) + 5)) : Int32)) (Eq.refl ((nI q742) : Int32)) e51
                  refine lv_iload S.1 S.2.1 dX6_sweepAhead_125 (lv_at hl42 0 rfl) ?_
                  refine lv_aload_n S.1 S.2.1 dX6_sweepAhead_127 rfl (lv_at hl42 6 rfl) ?_
                  obtain ⟨sl53, fm53, tn53, rn53, bn53, hF53, hb53_1, hb53_2, hb53_3⟩ := wt_C hWl42 hrc
                  refine r_get S hK hPl42 rc (lt_C hrc) hF53 (C := RX0) (T := TX0) (N := 10) hiX0 rfl 0 (by decide) (am_at in_wsX6_sweepAhead_0 3 rfl) (v := .int (nI sl53)) rfl dX6_sweepAhead_128 ?_
                  have m54 : ((AB ad Fl42) rc 0) = (nI sl53) := (congrArg (fun q => AB ad Fl42 q 0) rfl).trans (AB_f hF53 rfl)
                  refine lv_icmp_gt (tgt := 152) S.1 S.2.1 dX6_sweepAhead_131 (by decide) (fun c55 => ?_) (fun c55 => ?_)
                  · skip
                    have k56 := ci_lt (nI_toInt (n := sl53) (by omega)) (nI_toInt (n := q742) (by omega)) c55
                    refine lv_iconst (v := (nI 0)) S.1 S.2.1 dX6_sweepAhead_152 (by decide +kernel) ?_
                    obtain ⟨g57, hF57, hg57⟩ := wt_I hWl42 (show (37, 245) ∈ rLI by decide)
                    refine r_iast S hI hK hPl42 hSl42 37 (by decide) hF57 (vp_in_nI (show ((q312 * 5) + 5) + q742 < 245 by omega) (by omega)) dX6_sweepAhead_153 (fun F58 H58 locs58 eF58 hP58 hS58 => ?_)
                    have hW58 := hWl42.up eF58 (ok_I (show (37, 245) ∈ rLI by decide) (okI_up hg57 (pr_of (by decide))))
                    have hFr58 := hFl42.up eF58 (by simp <;> first | omega | (simp only [isC, isJ] at *; omega))
                    have hE60 : M = m_X6_sweepAhead_59 (m_X6_sweepAhead_L11_7 n7) (m_X6_sweepAhead_L46_12 (m_X6_sweepAhead_L11_7 n7) n12) (m_X6_sweepAhead_L110_42 (m_X6_sweepAhead_L11_7 n7) (m_X6_sweepAhead_L46_12 (m_X6_sweepAhead_L11_7 n7) n12) n42) (AB ad F58) (nI q742) r24 (nI ((q312 * 5) + 5)) (nI (q312 * 5)) (nI q312) rc p2 := hE43.trans ((show m_X6_sweepAhead_L110_42_b (m_X6_sweepAhead_L11_7 n7) (m_X6_sweepAhead_L46_12 (m_X6_sweepAhead_L11_7 n7) n12) (m_X6_sweepAhead_L110_42 (m_X6_sweepAhead_L11_7 n7) (m_X6_sweepAhead_L46_12 (m_X6_sweepAhead_L11_7 n7) n12) n42) (AB ad Fl42) (nI q742) r24 (nI ((q312 * 5) + 5)) (nI (q312 * 5)) (nI q312) rc p2 = m_X6_sweepAhead_59 (m_X6_sweepAhead_L11_7 n7) (m_X6_sweepAhead_L46_12 (m_X6_sweepAhead_L11_7 n7) n12) (m_X6_sweepAhead_L110_42 (m_X6_sweepAhead_L11_7 n7) (m_X6_sweepAhead_L46_12 (m_X6_sweepAhead_L11_7 n7) n12) n42) (st (AB ad Fl42) 37 (rl ((nI ((q312 * 5) + 5)) + (nI q742))) (nI 0)) (nI q742) r24 (nI ((q312 * 5) + 5)) (nI (q312 * 5)) (nI q312) rc p2 from by unfold m_X6_sweepAhead_L110_42_b; rw [if_neg (nle_cg rfl rfl c44), if_pos (lt_cg m54 rfl c55)]).trans (congr (congr (congr (congr (congr (congr (congr (congrArg (m_X6_sweepAhead_59 (m_X6_sweepAhead_L11_7 n7) (m_X6_sweepAhead_L46_12 (m_X6_sweepAhead_L11_7 n7) n12) (m_X6_sweepAhead_L110_42 (m_X6_sweepAhead_L11_7 n7) (m_X6_sweepAhead_L46_12 (m_X6_sweepAhead_L11_7 n7) n12) n42)) ((st_cg rfl (congrArg rl m52) rfl).trans (AB_ast hF57 eF58).symm)) (Eq.refl ((nI q742) : Int32))) (Eq.refl (r24 : Int32))) (Eq.refl ((nI ((q312 * 5) + 5)) : Int32))) (Eq.refl ((nI (q312 * 5)) : Int32))) (Eq.refl ((nI q312) : Int32))) (Eq.refl rc)) (Eq.refl (p2 : Int32))))
                    have m62 : ((nI q742) + Int32.ofInt (1)) = (nI (q742 + 1)) := (congrArg (fun q : Int32 => q + Int32.ofInt (1)) rfl).trans (nI_add _ 1)
                    refine lv_iinc (v := (nI (q742 + 1))) (lv' := [(7, .int (nI (q742 + 1))), (6, .int r24), (5, .int (nI ((q312 * 5) + 5))), (4, .int (nI (q312 * 5))), (3, .int (nI q312)), (0, .ref (ad 33)), (1, .ref (ad rc)), (2, .int p2)]) S.1 S.2.1 dX6_sweepAhead_154 hl42 (k := 0) rfl (nI_add _ 1) (by decide) rfl (fun ls61 hl61 => ?_)
                    refine lv_goto (tgt := 110) S.1 S.2.1 dX6_sweepAhead_157 (by decide) ?_
                    have hE63 : M = (m_X6_sweepAhead_L110_42 (m_X6_sweepAhead_L11_7 n7) (m_X6_sweepAhead_L46_12 (m_X6_sweepAhead_L11_7 n7) n12) n42) (AB ad F58) (nI (q742 + 1)) r24 (nI ((q312 * 5) + 5)) (nI (q312 * 5)) (nI q312) rc p2 := hE60.trans ((show m_X6_sweepAhead_59 (m_X6_sweepAhead_L11_7 n7) (m_X6_sweepAhead_L46_12 (m_X6_sweepAhead_L11_7 n7) n12) (m_X6_sweepAhead_L110_42 (m_X6_sweepAhead_L11_7 n7) (m_X6_sweepAhead_L46_12 (m_X6_sweepAhead_L11_7 n7) n12) n42) (AB ad F58) (nI q742) r24 (nI ((q312 * 5) + 5)) (nI (q312 * 5)) (nI q312) rc p2 = (m_X6_sweepAhead_L110_42 (m_X6_sweepAhead_L11_7 n7) (m_X6_sweepAhead_L46_12 (m_X6_sweepAhead_L11_7 n7) n12) n42) (AB ad F58) ((nI q742) + Int32.ofInt (1)) r24 (nI ((q312 * 5) + 5)) (nI (q312 * 5)) (nI q312) rc p2 from rfl).trans (congr (congr (congr (congr (congr (congr (congr (congrArg ((m_X6_sweepAhead_L110_42 (m_X6_sweepAhead_L11_7 n7) (m_X6_sweepAhead_L46_12 (m_X6_sweepAhead_L11_7 n7) n12) n42)) (rfl : AB ad F58 = AB ad F58)) m62) (Eq.refl (r24 : Int32))) (Eq.refl ((nI ((q312 * 5) + 5)) : Int32))) (Eq.refl ((nI (q312 * 5)) : Int32))) (Eq.refl ((nI q312) : Int32))) (Eq.refl rc)) (Eq.refl (p2 : Int32))))
                    exact ih42 (q742 + 1) F58 H58 locs58 (by omega) (by omega) hW58 hFr58 hP58 hS58 hE63 ls61 (lv_sub hl61 [0, 1, 2, 3, 4, 5, 6, 7] rfl)
                  have k64 := ci_nlt (nI_toInt (n := sl53) (by omega)) (nI_toInt (n := q742) (by omega)) c55
                  refine lv_aload_n S.1 S.2.1 dX6_sweepAhead_134 rfl (lv_at hl42 5 rfl) ?_
                  refine r_get S hK hPl42 33 (by decide) hF50 (C := RX6) (T := TX6) (N := 6) hiX6 rfl 4 (by decide) (am_at in_wsX6_sweepAhead_0 1 rfl) (v := .ref (ad 37)) rfl dX6_sweepAhead_135 ?_
                  refine lv_iload S.1 S.2.1 dX6_sweepAhead_138 (lv_at hl42 3 rfl) ?_
                  refine lv_iload S.1 S.2.1 dX6_sweepAhead_140 (lv_at hl42 0 rfl) ?_
                  refine lv_iadd S.1 S.2.1 dX6_sweepAhead_142 ?_
                  refine lv_topi (fun v65 e65 => ?_)
                  obtain rfl : v65 = nI ((q312 * 5) + q742) := e65.trans (nI_add _ _)
                  have m66 : ((nI (q312 * 5)) + (nI q742)) = (nI ((q312 * 5) + q742)) := cg2 (fun (x : Int32) (y : Int32) => x + y) (Eq.refl ((nI (q312 * 5)) : Int32)) (Eq.refl ((nI q742) : Int32)) e65
                  refine lv_iconst (v := (nI 1)) S.1 S.2.1 dX6_sweepAhead_143 (by decide +kernel) ?_
                  refine lv_isub S.1 S.2.1 dX6_sweepAhead_144 ?_
                  refine lv_topi (fun v67 e67 => ?_)
                  obtain rfl : v67 = nI (((q312 * 5) + q742) - 1) := e67.trans (pk_sub (by omega))
                  have m68 : (((nI (q312 * 5)) + (nI q742)) - (nI 1)) = (nI (((q312 * 5) + q742) - 1)) := cg2 (fun (x : Int32) (y : Int32) => x - y) m66 (Eq.refl ((nI 1) : Int32)) e67
                  obtain ⟨g69, hF69, hg69⟩ := wt_I hWl42 (show (37, 245) ∈ rLI by decide)
                  refine r_iald S hK hPl42 37 (by decide) hF69 (vp_in_nI (show ((q312 * 5) + q742) - 1 < 245 by omega) (by omega)) dX6_sweepAhead_145 ?_
                  refine lv_topi (fun v71 e71 => ?_)
                  have m72 : ((AB ad Fl42) 37 (rl (((nI (q312 * 5)) + (nI q742)) - (nI 1)))) = v71 := (ab_cg rfl m68).trans ((AB_g hF69).trans e71.symm)
                  refine lv_iload S.1 S.2.1 dX6_sweepAhead_146 (lv_at hl42 1 rfl) ?_
                  refine lv_iand S.1 S.2.1 dX6_sweepAhead_148 ?_
                  refine lv_topi (fun v73 e73 => ?_)
                  have m74 : (((AB ad Fl42) 37 (rl (((nI (q312 * 5)) + (nI q742)) - (nI 1)))) &&& r24) = v73 := cg2 (fun (x : Int32) (y : Int32) => x &&& y) m72 (Eq.refl (r24 : Int32)) e73
                  refine lv_goto (tgt := 153) S.1 S.2.1 dX6_sweepAhead_149 (by decide) ?_
                  refine r_iast S hI hK hPl42 hSl42 37 (by decide) hF69 (vp_in_nI (show ((q312 * 5) + 5) + q742 < 245 by omega) (by omega)) dX6_sweepAhead_153 (fun F75 H75 locs75 eF75 hP75 hS75 => ?_)
                  have hW75 := hWl42.up eF75 (ok_I (show (37, 245) ∈ rLI by decide) (okI_up hg69 (pr_of (by decide))))
                  have hFr75 := hFl42.up eF75 (by simp <;> first | omega | (simp only [isC, isJ] at *; omega))
                  have hE77 : M = m_X6_sweepAhead_76 (m_X6_sweepAhead_L11_7 n7) (m_X6_sweepAhead_L46_12 (m_X6_sweepAhead_L11_7 n7) n12) (m_X6_sweepAhead_L110_42 (m_X6_sweepAhead_L11_7 n7) (m_X6_sweepAhead_L46_12 (m_X6_sweepAhead_L11_7 n7) n12) n42) (AB ad F75) (nI q742) r24 (nI ((q312 * 5) + 5)) (nI (q312 * 5)) (nI q312) rc p2 := hE43.trans ((show m_X6_sweepAhead_L110_42_b (m_X6_sweepAhead_L11_7 n7) (m_X6_sweepAhead_L46_12 (m_X6_sweepAhead_L11_7 n7) n12) (m_X6_sweepAhead_L110_42 (m_X6_sweepAhead_L11_7 n7) (m_X6_sweepAhead_L46_12 (m_X6_sweepAhead_L11_7 n7) n12) n42) (AB ad Fl42) (nI q742) r24 (nI ((q312 * 5) + 5)) (nI (q312 * 5)) (nI q312) rc p2 = m_X6_sweepAhead_76 (m_X6_sweepAhead_L11_7 n7) (m_X6_sweepAhead_L46_12 (m_X6_sweepAhead_L11_7 n7) n12) (m_X6_sweepAhead_L110_42 (m_X6_sweepAhead_L11_7 n7) (m_X6_sweepAhead_L46_12 (m_X6_sweepAhead_L11_7 n7) n12) n42) (st (AB ad Fl42) 37 (rl ((nI ((q312 * 5) + 5)) + (nI q742))) (((AB ad Fl42) 37 (rl (((nI (q312 * 5)) + (nI q742)) - (nI 1)))) &&& r24)) (nI q742) r24 (nI ((q312 * 5) + 5)) (nI (q312 * 5)) (nI q312) rc p2 from by unfold m_X6_sweepAhead_L110_42_b; rw [if_neg (nle_cg rfl rfl c44), if_neg (nlt_cg m54 rfl c55)]).trans (congr (congr (congr (congr (congr (congr (congr (congrArg (m_X6_sweepAhead_76 (m_X6_sweepAhead_L11_7 n7) (m_X6_sweepAhead_L46_12 (m_X6_sweepAhead_L11_7 n7) n12) (m_X6_sweepAhead_L110_42 (m_X6_sweepAhead_L11_7 n7) (m_X6_sweepAhead_L46_12 (m_X6_sweepAhead_L11_7 n7) n12) n42)) ((st_cg rfl (congrArg rl m52) m74).trans (AB_ast hF69 eF75).symm)) (Eq.refl ((nI q742) : Int32))) (Eq.refl (r24 : Int32))) (Eq.refl ((nI ((q312 * 5) + 5)) : Int32))) (Eq.refl ((nI (q312 * 5)) : Int32))) (Eq.refl ((nI q312) : Int32))) (Eq.refl rc)) (Eq.refl (p2 : Int32))))
                  have m79 : ((nI q742) + Int32.ofInt (1)) = (nI (q742 + 1)) := (congrArg (fun q : Int32 => q + Int32.ofInt (1)) rfl).trans (nI_add _ 1)
                  refine lv_iinc (v := (nI (q742 + 1))) (lv' := [(7, .int (nI (q742 + 1))), (6, .int r24), (5, .int (nI ((q312 * 5) + 5))), (4, .int (nI (q312 * 5))), (3, .int (nI q312)), (0, .ref (ad 33)), (1, .ref (ad rc)), (2, .int p2)]) S.1 S.2.1 dX6_sweepAhead_154 hl42 (k := 0) rfl (nI_add _ 1) (by decide) rfl (fun ls78 hl78 => ?_)
                  refine lv_goto (tgt := 110) S.1 S.2.1 dX6_sweepAhead_157 (by decide) ?_
                  have hE80 : M = (m_X6_sweepAhead_L110_42 (m_X6_sweepAhead_L11_7 n7) (m_X6_sweepAhead_L46_12 (m_X6_sweepAhead_L11_7 n7) n12) n42) (AB ad F75) (nI (q742 + 1)) r24 (nI ((q312 * 5) + 5)) (nI (q312 * 5)) (nI q312) rc p2 := hE77.trans ((show m_X6_sweepAhead_76 (m_X6_sweepAhead_L11_7 n7) (m_X6_sweepAhead_L46_12 (m_X6_sweepAhead_L11_7 n7) n12) (m_X6_sweepAhead_L110_42 (m_X6_sweepAhead_L11_7 n7) (m_X6_sweepAhead_L46_12 (m_X6_sweepAhead_L11_7 n7) n12) n42) (AB ad F75) (nI q742) r24 (nI ((q312 * 5) + 5)) (nI (q312 * 5)) (nI q312) rc p2 = (m_X6_sweepAhead_L110_42 (m_X6_sweepAhead_L11_7 n7) (m_X6_sweepAhead_L46_12 (m_X6_sweepAhead_L11_7 n7) n12) n42) (AB ad F75) ((nI q742) + Int32.ofInt (1)) r24 (nI ((q312 * 5) + 5)) (nI (q312 * 5)) (nI q312) rc p2 from rfl).trans (congr (congr (congr (congr (congr (congr (congr (congrArg ((m_X6_sweepAhead_L110_42 (m_X6_sweepAhead_L11_7 n7) (m_X6_sweepAhead_L46_12 (m_X6_sweepAhead_L11_7 n7) n12) n42)) (rfl : AB ad F75 = AB ad F75)) m79) (Eq.refl (r24 : Int32))) (Eq.refl ((nI ((q312 * 5) + 5)) : Int32))) (Eq.refl ((nI (q312 * 5)) : Int32))) (Eq.refl ((nI q312) : Int32))) (Eq.refl rc)) (Eq.refl (p2 : Int32))))
                  exact ih42 (q742 + 1) F75 H75 locs75 (by omega) (by omega) hW75 hFr75 hP75 hS75 hE80 ls78 (lv_sub hl78 [0, 1, 2, 3, 4, 5, 6, 7] rfl)
              have hE81 : M = m_X6_sweepAhead_L110_42 (m_X6_sweepAhead_L11_7 n7) (m_X6_sweepAhead_L46_12 (m_X6_sweepAhead_L11_7 n7) n12) 2000 (AB ad F38) (nI 1) r24 (nI ((q312 * 5) + 5)) (nI (q312 * 5)) (nI q312) rc p2 := hE40.trans ((show m_X6_sweepAhead_39 (m_X6_sweepAhead_L11_7 n7) (m_X6_sweepAhead_L46_12 (m_X6_sweepAhead_L11_7 n7) n12) (AB ad F38) r24 (nI ((q312 * 5) + 5)) (nI (q312 * 5)) (nI q312) rc p2 = m_X6_sweepAhead_L110_42 (m_X6_sweepAhead_L11_7 n7) (m_X6_sweepAhead_L46_12 (m_X6_sweepAhead_L11_7 n7) n12) 2000 (AB ad F38) (nI 1) r24 (nI ((q312 * 5) + 5)) (nI (q312 * 5)) (nI q312) rc p2 from rfl).trans (congr (congr (congr (congr (congr (congr (congr (congrArg (m_X6_sweepAhead_L110_42 (m_X6_sweepAhead_L11_7 n7) (m_X6_sweepAhead_L46_12 (m_X6_sweepAhead_L11_7 n7) n12) 2000) (rfl : AB ad F38 = AB ad F38)) (Eq.refl ((nI 1) : Int32))) (Eq.refl (r24 : Int32))) (Eq.refl ((nI ((q312 * 5) + 5)) : Int32))) (Eq.refl ((nI (q312 * 5)) : Int32))) (Eq.refl ((nI q312) : Int32))) (Eq.refl rc)) (Eq.refl (p2 : Int32))))
              exact lp42 2000 (1) F38 H38 locs38 (by omega) (by omega) hW38 hFr38 hP38 hS38 hE81 ls41 (lv_sub hl41 [0, 1, 2, 3, 4, 5, 6, 7] rfl)
            have k82 := ci_ne (nI_toInt (n := b29) (Nat.lt_of_le_of_lt hb29 (by decide))) z_ti c31
            refine lv_iconst (v := (nI 0)) S.1 S.2.1 dX6_sweepAhead_87 (by decide +kernel) ?_
            refine lv_goto (tgt := 106) S.1 S.2.1 dX6_sweepAhead_88 (by decide) ?_
            obtain ⟨g83, hF83, hg83⟩ := wt_I hWl12 (show (37, 245) ∈ rLI by decide)
            refine r_iast S hI hK hPl12 hSl12 37 (by decide) hF83 (vp_in_nI (show (q312 * 5) + 5 < 245 by omega) (by omega)) dX6_sweepAhead_106 (fun F84 H84 locs84 eF84 hP84 hS84 => ?_)
            have hW84 := hWl12.up eF84 (ok_I (show (37, 245) ∈ rLI by decide) (okI_up hg83 (pr_of (by decide))))
            have hFr84 := hFl12.up eF84 (by simp <;> first | omega | (simp only [isC, isJ] at *; omega))
            have hE86 : M = m_X6_sweepAhead_85 (m_X6_sweepAhead_L11_7 n7) (m_X6_sweepAhead_L46_12 (m_X6_sweepAhead_L11_7 n7) n12) (AB ad F84) r24 (nI ((q312 * 5) + 5)) (nI (q312 * 5)) (nI q312) rc p2 := hE13.trans ((show m_X6_sweepAhead_L46_12_b (m_X6_sweepAhead_L11_7 n7) (m_X6_sweepAhead_L46_12 (m_X6_sweepAhead_L11_7 n7) n12) (AB ad Fl12) (nI q312) rc p2 = m_X6_sweepAhead_85 (m_X6_sweepAhead_L11_7 n7) (m_X6_sweepAhead_L46_12 (m_X6_sweepAhead_L11_7 n7) n12) (st (AB ad Fl12) 37 (rl (((nI q312) * (nI 5)) + (nI 5))) (nI 0)) (m_X6_staysIn (AB ad Fl12) rc (nI q312) p2) (((nI q312) * (nI 5)) + (nI 5)) ((nI q312) * (nI 5)) (nI q312) rc p2 from by unfold m_X6_sweepAhead_L46_12_b; rw [if_neg (nle_cg rfl rfl c14), if_neg (neq_cg m30 rfl c31)]).trans (congr (congr (congr (congr (congr (congr (congrArg (m_X6_sweepAhead_85 (m_X6_sweepAhead_L11_7 n7) (m_X6_sweepAhead_L46_12 (m_X6_sweepAhead_L11_7 n7) n12)) ((st_cg rfl (congrArg rl m22) rfl).trans (AB_ast hF83 eF84).symm)) m26) m22) m19) (Eq.refl ((nI q312) : Int32))) (Eq.refl rc)) (Eq.refl (p2 : Int32))))
            refine lv_iconst (v := (nI 1)) S.1 S.2.1 dX6_sweepAhead_107 (by decide +kernel) ?_
            refine lv_istore (lv' := [(7, .int (nI 1)), (6, .int r24), (5, .int (nI ((q312 * 5) + 5))), (4, .int (nI (q312 * 5))), (3, .int (nI q312)), (0, .ref (ad 33)), (1, .ref (ad rc)), (2, .int p2)]) S.1 S.2.1 dX6_sweepAhead_108 hl27 (by decide) rfl (fun ls87 hl87 => ?_)
            have lp88 : ∀ (n88 : Nat) (q788 : Nat), ∀ (Fl88 : Nat → va_E) (Hl88 : Heap) (lol88 : List Loc), 1 ≤ q788 ∧ q788 ≤ 5 → 5 - q788 < n88 → WT cA ad Fl88 → rFr [36, 37] F Fl88 → va_P D vwCl (rW ad Fl88) Hl88 → va_S (rA ad) s.heap Hl88 lol88 → M = m_X6_sweepAhead_L110_88 (m_X6_sweepAhead_L11_7 n7) (m_X6_sweepAhead_L46_12 (m_X6_sweepAhead_L11_7 n7) n12) n88 (AB ad Fl88) (nI q788) r24 (nI ((q312 * 5) + 5)) (nI (q312 * 5)) (nI q312) rc p2 → ∀ (ls : Array Slot), lv_has ls 8 [(7, .int (nI q788)), (6, .int r24), (5, .int (nI ((q312 * 5) + 5))), (4, .int (nI (q312 * 5))), (3, .int (nI q312)), (0, .ref (ad 33)), (1, .ref (ad rc)), (2, .int p2)] → W p l e { frames := 3, cells := 0, slots := 0, locals := 69 } s m args below meth c Hl88 lol88 0 0 Q (F0 m 110 ls []) := by
              intro n88
              induction n88 with
              | zero =>
                intro q788 Fl88 Hl88 lol88 iv88_0 hm88 hWl88 hFl88 hPl88 hSl88 hEl88 ls88 hl88
                exact absurd hm88 (Nat.not_lt_zero _)
              | succ n88 ih88 =>
                intro q788 Fl88 Hl88 lol88 iv88_0 hm88 hWl88 hFl88 hPl88 hSl88 hEl88 ls88 hl88
                have hE89 : M = m_X6_sweepAhead_L110_88_b (m_X6_sweepAhead_L11_7 n7) (m_X6_sweepAhead_L46_12 (m_X6_sweepAhead_L11_7 n7) n12) (m_X6_sweepAhead_L110_88 (m_X6_sweepAhead_L11_7 n7) (m_X6_sweepAhead_L46_12 (m_X6_sweepAhead_L11_7 n7) n12) n88) (AB ad Fl88) (nI q788) r24 (nI ((q312 * 5) + 5)) (nI (q312 * 5)) (nI q312) rc p2 := hEl88
                refine lv_iload S.1 S.2.1 dX6_sweepAhead_110 (lv_at hl88 0 rfl) ?_
                refine lv_iconst (v := (nI 5)) S.1 S.2.1 dX6_sweepAhead_112 (by decide +kernel) ?_
                refine lv_icmp_ge (tgt := 160) S.1 S.2.1 dX6_sweepAhead_113 (by decide) (fun c90 => ?_) (fun c90 => ?_)
                · skip
                  have k91 := ci_le (nI_toInt (n := 5) (by decide)) (nI_toInt (n := q788) (by omega)) c90
                  have m93 : ((nI q312) + Int32.ofInt (1)) = (nI (q312 + 1)) := (congrArg (fun q : Int32 => q + Int32.ofInt (1)) rfl).trans (nI_add _ 1)
                  refine lv_iinc (v := (nI (q312 + 1))) (lv' := [(3, .int (nI (q312 + 1))), (7, .int (nI q788)), (6, .int r24), (5, .int (nI ((q312 * 5) + 5))), (4, .int (nI (q312 * 5))), (0, .ref (ad 33)), (1, .ref (ad rc)), (2, .int p2)]) S.1 S.2.1 dX6_sweepAhead_160 hl88 (k := 4) rfl (nI_add _ 1) (by decide) rfl (fun ls92 hl92 => ?_)
                  refine lv_goto (tgt := 46) S.1 S.2.1 dX6_sweepAhead_163 (by decide) ?_
                  have hE94 : M = (m_X6_sweepAhead_L46_12 (m_X6_sweepAhead_L11_7 n7) n12) (AB ad Fl88) (nI (q312 + 1)) rc p2 := hE89.trans ((show m_X6_sweepAhead_L110_88_b (m_X6_sweepAhead_L11_7 n7) (m_X6_sweepAhead_L46_12 (m_X6_sweepAhead_L11_7 n7) n12) (m_X6_sweepAhead_L110_88 (m_X6_sweepAhead_L11_7 n7) (m_X6_sweepAhead_L46_12 (m_X6_sweepAhead_L11_7 n7) n12) n88) (AB ad Fl88) (nI q788) r24 (nI ((q312 * 5) + 5)) (nI (q312 * 5)) (nI q312) rc p2 = (m_X6_sweepAhead_L46_12 (m_X6_sweepAhead_L11_7 n7) n12) (AB ad Fl88) ((nI q312) + Int32.ofInt (1)) rc p2 from by unfold m_X6_sweepAhead_L110_88_b; rw [if_pos (le_cg rfl rfl c90)]).trans (congr (congr (congr (congrArg ((m_X6_sweepAhead_L46_12 (m_X6_sweepAhead_L11_7 n7) n12)) (rfl : AB ad Fl88 = AB ad Fl88)) m93) (Eq.refl rc)) (Eq.refl (p2 : Int32))))
                  exact ih12 (q312 + 1) Fl88 Hl88 lol88 (by omega) (by omega) hWl88 hFl88 hPl88 hSl88 hE94 ls92 (lv_sub hl92 [0, 5, 6, 7] rfl)
                have k95 := ci_nle (nI_toInt (n := 5) (by decide)) (nI_toInt (n := q788) (by omega)) c90
                refine lv_aload_n S.1 S.2.1 dX6_sweepAhead_116 rfl (lv_at hl88 5 rfl) ?_
                obtain ⟨k96, hF96, hk96⟩ := wt_ways hWl88
                refine r_get S hK hPl88 33 (by decide) hF96 (C := RX6) (T := TX6) (N := 6) hiX6 rfl 4 (by decide) (am_at in_wsX6_sweepAhead_0 1 rfl) (v := .ref (ad 37)) rfl dX6_sweepAhead_117 ?_
                refine lv_iload S.1 S.2.1 dX6_sweepAhead_120 (lv_at hl88 2 rfl) ?_
                refine lv_iload S.1 S.2.1 dX6_sweepAhead_122 (lv_at hl88 0 rfl) ?_
                refine lv_iadd S.1 S.2.1 dX6_sweepAhead_124 ?_
                refine lv_topi (fun v97 e97 => ?_)
                obtain rfl : v97 = nI (((q312 * 5) + 5) + q788) := e97.trans (nI_add _ _)
                have m98 : ((nI ((q312 * 5) + 5)) + (nI q788)) = (nI (((q312 * 5) + 5) + q788)) := cg2 (fun (x : Int32) (y : Int32) => x + y) (Eq.refl ((nI ((q312 * 5) + 5)) : Int32)) (Eq.refl ((nI q788) : Int32)) e97
                refine lv_iload S.1 S.2.1 dX6_sweepAhead_125 (lv_at hl88 0 rfl) ?_
                refine lv_aload_n S.1 S.2.1 dX6_sweepAhead_127 rfl (lv_at hl88 6 rfl) ?_
                obtain ⟨sl99, fm99, tn99, rn99, bn99, hF99, hb99_1, hb99_2, hb99_3⟩ := wt_C hWl88 hrc
                refine r_get S hK hPl88 rc (lt_C hrc) hF99 (C := RX0) (T := TX0) (N := 10) hiX0 rfl 0 (by decide) (am_at in_wsX6_sweepAhead_0 3 rfl) (v := .int (nI sl99)) rfl dX6_sweepAhead_128 ?_
                have m100 : ((AB ad Fl88) rc 0) = (nI sl99) := (congrArg (fun q => AB ad Fl88 q 0) rfl).trans (AB_f hF99 rfl)
                refine lv_icmp_gt (tgt := 152) S.1 S.2.1 dX6_sweepAhead_131 (by decide) (fun c101 => ?_) (fun c101 => ?_)
                · skip
                  have k102 := ci_lt (nI_toInt (n := sl99) (by omega)) (nI_toInt (n := q788) (by omega)) c101
                  refine lv_iconst (v := (nI 0)) S.1 S.2.1 dX6_sweepAhead_152 (by decide +kernel) ?_
                  obtain ⟨g103, hF103, hg103⟩ := wt_I hWl88 (show (37, 245) ∈ rLI by decide)
                  refine r_iast S hI hK hPl88 hSl88 37 (by decide) hF103 (vp_in_nI (show ((q312 * 5) + 5) + q788 < 245 by omega) (by omega)) dX6_sweepAhead_153 (fun F104 H104 locs104 eF104 hP104 hS104 => ?_)
                  have hW104 := hWl88.up eF104 (ok_I (show (37, 245) ∈ rLI by decide) (okI_up hg103 (pr_of (by decide))))
                  have hFr104 := hFl88.up eF104 (by simp <;> first | omega | (simp only [isC, isJ] at *; omega))
                  have hE106 : M = m_X6_sweepAhead_105 (m_X6_sweepAhead_L11_7 n7) (m_X6_sweepAhead_L46_12 (m_X6_sweepAhead_L11_7 n7) n12) (m_X6_sweepAhead_L110_88 (m_X6_sweepAhead_L11_7 n7) (m_X6_sweepAhead_L46_12 (m_X6_sweepAhead_L11_7 n7) n12) n88) (AB ad F104) (nI q788) r24 (nI ((q312 * 5) + 5)) (nI (q312 * 5)) (nI q312) rc p2 := hE89.trans ((show m_X6_sweepAhead_L110_88_b (m_X6_sweepAhead_L11_7 n7) (m_X6_sweepAhead_L46_12 (m_X6_sweepAhead_L11_7 n7) n12) (m_X6_sweepAhead_L110_88 (m_X6_sweepAhead_L11_7 n7) (m_X6_sweepAhead_L46_12 (m_X6_sweepAhead_L11_7 n7) n12) n88) (AB ad Fl88) (nI q788) r24 (nI ((q312 * 5) + 5)) (nI (q312 * 5)) (nI q312) rc p2 = m_X6_sweepAhead_105 (m_X6_sweepAhead_L11_7 n7) (m_X6_sweepAhead_L46_12 (m_X6_sweepAhead_L11_7 n7) n12) (m_X6_sweepAhead_L110_88 (m_X6_sweepAhead_L11_7 n7) (m_X6_sweepAhead_L46_12 (m_X6_sweepAhead_L11_7 n7) n12) n88) (st (AB ad Fl88) 37 (rl ((nI ((q312 * 5) + 5)) + (nI q788))) (nI 0)) (nI q788) r24 (nI ((q312 * 5) + 5)) (nI (q312 * 5)) (nI q312) rc p2 from by unfold m_X6_sweepAhead_L110_88_b; rw [if_neg (nle_cg rfl rfl c90), if_pos (lt_cg m100 rfl c101)]).trans (congr (congr (congr (congr (congr (congr (congr (congrArg (m_X6_sweepAhead_105 (m_X6_sweepAhead_L11_7 n7) (m_X6_sweepAhead_L46_12 (m_X6_sweepAhead_L11_7 n7) n12) (m_X6_sweepAhead_L110_88 (m_X6_sweepAhead_L11_7 n7) (m_X6_sweepAhead_L46_12 (m_X6_sweepAhead_L11_7 n7) n12) n88)) ((st_cg rfl (congrArg rl m98) rfl).trans (AB_ast hF103 eF104).symm)) (Eq.refl ((nI q788) : Int32))) (Eq.refl (r24 : Int32))) (Eq.refl ((nI ((q312 * 5) + 5)) : Int32))) (Eq.refl ((nI (q312 * 5)) : Int32))) (Eq.refl ((nI q312) : Int32))) (Eq.refl rc)) (Eq.refl (p2 : Int32))))
                  have m108 : ((nI q788) + Int32.ofInt (1)) = (nI (q788 + 1)) := (congrArg (fun q : Int32 => q + Int32.ofInt (1)) rfl).trans (nI_add _ 1)
                  refine lv_iinc (v := (nI (q788 + 1))) (lv' := [(7, .int (nI (q788 + 1))), (6, .int r24), (5, .int (nI ((q312 * 5) + 5))), (4, .int (nI (q312 * 5))), (3, .int (nI q312)), (0, .ref (ad 33)), (1, .ref (ad rc)), (2, .int p2)]) S.1 S.2.1 dX6_sweepAhead_154 hl88 (k := 0) rfl (nI_add _ 1) (by decide) rfl (fun ls107 hl107 => ?_)
                  refine lv_goto (tgt := 110) S.1 S.2.1 dX6_sweepAhead_157 (by decide) ?_
                  have hE109 : M = (m_X6_sweepAhead_L110_88 (m_X6_sweepAhead_L11_7 n7) (m_X6_sweepAhead_L46_12 (m_X6_sweepAhead_L11_7 n7) n12) n88) (AB ad F104) (nI (q788 + 1)) r24 (nI ((q312 * 5) + 5)) (nI (q312 * 5)) (nI q312) rc p2 := hE106.trans ((show m_X6_sweepAhead_105 (m_X6_sweepAhead_L11_7 n7) (m_X6_sweepAhead_L46_12 (m_X6_sweepAhead_L11_7 n7) n12) (m_X6_sweepAhead_L110_88 (m_X6_sweepAhead_L11_7 n7) (m_X6_sweepAhead_L46_12 (m_X6_sweepAhead_L11_7 n7) n12) n88) (AB ad F104) (nI q788) r24 (nI ((q312 * 5) + 5)) (nI (q312 * 5)) (nI q312) rc p2 = (m_X6_sweepAhead_L110_88 (m_X6_sweepAhead_L11_7 n7) (m_X6_sweepAhead_L46_12 (m_X6_sweepAhead_L11_7 n7) n12) n88) (AB ad F104) ((nI q788) + Int32.ofInt (1)) r24 (nI ((q312 * 5) + 5)) (nI (q312 * 5)) (nI q312) rc p2 from rfl).trans (congr (congr (congr (congr (congr (congr (congr (congrArg ((m_X6_sweepAhead_L110_88 (m_X6_sweepAhead_L11_7 n7) (m_X6_sweepAhead_L46_12 (m_X6_sweepAhead_L11_7 n7) n12) n88)) (rfl : AB ad F104 = AB ad F104)) m108) (Eq.refl (r24 : Int32))) (Eq.refl ((nI ((q312 * 5) + 5)) : Int32))) (Eq.refl ((nI (q312 * 5)) : Int32))) (Eq.refl ((nI q312) : Int32))) (Eq.refl rc)) (Eq.refl (p2 : Int32))))
                  exact ih88 (q788 + 1) F104 H104 locs104 (by omega) (by omega) hW104 hFr104 hP104 hS104 hE109 ls107 (lv_sub hl107 [0, 1, 2, 3, 4, 5, 6, 7] rfl)
                have k110 := ci_nlt (nI_toInt (n := sl99) (by omega)) (nI_toInt (n := q788) (by omega)) c101
                refine lv_aload_n S.1 S.2.1 dX6_sweepAhead_134 rfl (lv_at hl88 5 rfl) ?_
                refine r_get S hK hPl88 33 (by decide) hF96 (C := RX6) (T := TX6) (N := 6) hiX6 rfl 4 (by decide) (am_at in_wsX6_sweepAhead_0 1 rfl) (v := .ref (ad 37)) rfl dX6_sweepAhead_135 ?_
                refine lv_iload S.1 S.2.1 dX6_sweepAhead_138 (lv_at hl88 3 rfl) ?_
                refine lv_iload S.1 S.2.1 dX6_sweepAhead_140 (lv_at hl88 0 rfl) ?_
                refine lv_iadd S.1 S.2.1 dX6_sweepAhead_142 ?_
                refine lv_topi (fun v111 e111 => ?_)
                obtain rfl : v111 = nI ((q312 * 5) + q788) := e111.trans (nI_add _ _)
                have m112 : ((nI (q312 * 5)) + (nI q788)) = (nI ((q312 * 5) + q788)) := cg2 (fun (x : Int32) (y : Int32) => x + y) (Eq.refl ((nI (q312 * 5)) : Int32)) (Eq.refl ((nI q788) : Int32)) e111
                refine lv_iconst (v := (nI 1)) S.1 S.2.1 dX6_sweepAhead_143 (by decide +kernel) ?_
                refine lv_isub S.1 S.2.1 dX6_sweepAhead_144 ?_
                refine lv_topi (fun v113 e113 => ?_)
                obtain rfl : v113 = nI (((q312 * 5) + q788) - 1) := e113.trans (pk_sub (by omega))
                have m114 : (((nI (q312 * 5)) + (nI q788)) - (nI 1)) = (nI (((q312 * 5) + q788) - 1)) := cg2 (fun (x : Int32) (y : Int32) => x - y) m112 (Eq.refl ((nI 1) : Int32)) e113
                obtain ⟨g115, hF115, hg115⟩ := wt_I hWl88 (show (37, 245) ∈ rLI by decide)
                refine r_iald S hK hPl88 37 (by decide) hF115 (vp_in_nI (show ((q312 * 5) + q788) - 1 < 245 by omega) (by omega)) dX6_sweepAhead_145 ?_
                refine lv_topi (fun v117 e117 => ?_)
                have m118 : ((AB ad Fl88) 37 (rl (((nI (q312 * 5)) + (nI q788)) - (nI 1)))) = v117 := (ab_cg rfl m114).trans ((AB_g hF115).trans e117.symm)
                refine lv_iload S.1 S.2.1 dX6_sweepAhead_146 (lv_at hl88 1 rfl) ?_
                refine lv_iand S.1 S.2.1 dX6_sweepAhead_148 ?_
                refine lv_topi (fun v119 e119 => ?_)
                have m120 : (((AB ad Fl88) 37 (rl (((nI (q312 * 5)) + (nI q788)) - (nI 1)))) &&& r24) = v119 := cg2 (fun (x : Int32) (y : Int32) => x &&& y) m118 (Eq.refl (r24 : Int32)) e119
                refine lv_goto (tgt := 153) S.1 S.2.1 dX6_sweepAhead_149 (by decide) ?_
                refine r_iast S hI hK hPl88 hSl88 37 (by decide) hF115 (vp_in_nI (show ((q312 * 5) + 5) + q788 < 245 by omega) (by omega)) dX6_sweepAhead_153 (fun F121 H121 locs121 eF121 hP121 hS121 => ?_)
                have hW121 := hWl88.up eF121 (ok_I (show (37, 245) ∈ rLI by decide) (okI_up hg115 (pr_of (by decide))))
                have hFr121 := hFl88.up eF121 (by simp <;> first | omega | (simp only [isC, isJ] at *; omega))
                have hE123 : M = m_X6_sweepAhead_122 (m_X6_sweepAhead_L11_7 n7) (m_X6_sweepAhead_L46_12 (m_X6_sweepAhead_L11_7 n7) n12) (m_X6_sweepAhead_L110_88 (m_X6_sweepAhead_L11_7 n7) (m_X6_sweepAhead_L46_12 (m_X6_sweepAhead_L11_7 n7) n12) n88) (AB ad F121) (nI q788) r24 (nI ((q312 * 5) + 5)) (nI (q312 * 5)) (nI q312) rc p2 := hE89.trans ((show m_X6_sweepAhead_L110_88_b (m_X6_sweepAhead_L11_7 n7) (m_X6_sweepAhead_L46_12 (m_X6_sweepAhead_L11_7 n7) n12) (m_X6_sweepAhead_L110_88 (m_X6_sweepAhead_L11_7 n7) (m_X6_sweepAhead_L46_12 (m_X6_sweepAhead_L11_7 n7) n12) n88) (AB ad Fl88) (nI q788) r24 (nI ((q312 * 5) + 5)) (nI (q312 * 5)) (nI q312) rc p2 = m_X6_sweepAhead_122 (m_X6_sweepAhead_L11_7 n7) (m_X6_sweepAhead_L46_12 (m_X6_sweepAhead_L11_7 n7) n12) (m_X6_sweepAhead_L110_88 (m_X6_sweepAhead_L11_7 n7) (m_X6_sweepAhead_L46_12 (m_X6_sweepAhead_L11_7 n7) n12) n88) (st (AB ad Fl88) 37 (rl ((nI ((q312 * 5) + 5)) + (nI q788))) (((AB ad Fl88) 37 (rl (((nI (q312 * 5)) + (nI q788)) - (nI 1)))) &&& r24)) (nI q788) r24 (nI ((q312 * 5) + 5)) (nI (q312 * 5)) (nI q312) rc p2 from by unfold m_X6_sweepAhead_L110_88_b; rw [if_neg (nle_cg rfl rfl c90), if_neg (nlt_cg m100 rfl c101)]).trans (congr (congr (congr (congr (congr (congr (congr (congrArg (m_X6_sweepAhead_122 (m_X6_sweepAhead_L11_7 n7) (m_X6_sweepAhead_L46_12 (m_X6_sweepAhead_L11_7 n7) n12) (m_X6_sweepAhead_L110_88 (m_X6_sweepAhead_L11_7 n7) (m_X6_sweepAhead_L46_12 (m_X6_sweepAhead_L11_7 n7) n12) n88)) ((st_cg rfl (congrArg rl m98) m120).trans (AB_ast hF115 eF121).symm)) (Eq.refl ((nI q788) : Int32))) (Eq.refl (r24 : Int32))) (Eq.refl ((nI ((q312 * 5) + 5)) : Int32))) (Eq.refl ((nI (q312 * 5)) : Int32))) (Eq.refl ((nI q312) : Int32))) (Eq.refl rc)) (Eq.refl (p2 : Int32))))
                have m125 : ((nI q788) + Int32.ofInt (1)) = (nI (q788 + 1)) := (congrArg (fun q : Int32 => q + Int32.ofInt (1)) rfl).trans (nI_add _ 1)
                refine lv_iinc (v := (nI (q788 + 1))) (lv' := [(7, .int (nI (q788 + 1))), (6, .int r24), (5, .int (nI ((q312 * 5) + 5))), (4, .int (nI (q312 * 5))), (3, .int (nI q312)), (0, .ref (ad 33)), (1, .ref (ad rc)), (2, .int p2)]) S.1 S.2.1 dX6_sweepAhead_154 hl88 (k := 0) rfl (nI_add _ 1) (by decide) rfl (fun ls124 hl124 => ?_)
                refine lv_goto (tgt := 110) S.1 S.2.1 dX6_sweepAhead_157 (by decide) ?_
                have hE126 : M = (m_X6_sweepAhead_L110_88 (m_X6_sweepAhead_L11_7 n7) (m_X6_sweepAhead_L46_12 (m_X6_sweepAhead_L11_7 n7) n12) n88) (AB ad F121) (nI (q788 + 1)) r24 (nI ((q312 * 5) + 5)) (nI (q312 * 5)) (nI q312) rc p2 := hE123.trans ((show m_X6_sweepAhead_122 (m_X6_sweepAhead_L11_7 n7) (m_X6_sweepAhead_L46_12 (m_X6_sweepAhead_L11_7 n7) n12) (m_X6_sweepAhead_L110_88 (m_X6_sweepAhead_L11_7 n7) (m_X6_sweepAhead_L46_12 (m_X6_sweepAhead_L11_7 n7) n12) n88) (AB ad F121) (nI q788) r24 (nI ((q312 * 5) + 5)) (nI (q312 * 5)) (nI q312) rc p2 = (m_X6_sweepAhead_L110_88 (m_X6_sweepAhead_L11_7 n7) (m_X6_sweepAhead_L46_12 (m_X6_sweepAhead_L11_7 n7) n12) n88) (AB ad F121) ((nI q788) + Int32.ofInt (1)) r24 (nI ((q312 * 5) + 5)) (nI (q312 * 5)) (nI q312) rc p2 from rfl).trans (congr (congr (congr (congr (congr (congr (congr (congrArg ((m_X6_sweepAhead_L110_88 (m_X6_sweepAhead_L11_7 n7) (m_X6_sweepAhead_L46_12 (m_X6_sweepAhead_L11_7 n7) n12) n88)) (rfl : AB ad F121 = AB ad F121)) m125) (Eq.refl (r24 : Int32))) (Eq.refl ((nI ((q312 * 5) + 5)) : Int32))) (Eq.refl ((nI (q312 * 5)) : Int32))) (Eq.refl ((nI q312) : Int32))) (Eq.refl rc)) (Eq.refl (p2 : Int32))))
                exact ih88 (q788 + 1) F121 H121 locs121 (by omega) (by omega) hW121 hFr121 hP121 hS121 hE126 ls124 (lv_sub hl124 [0, 1, 2, 3, 4, 5, 6, 7] rfl)
            have hE127 : M = m_X6_sweepAhead_L110_88 (m_X6_sweepAhead_L11_7 n7) (m_X6_sweepAhead_L46_12 (m_X6_sweepAhead_L11_7 n7) n12) 2000 (AB ad F84) (nI 1) r24 (nI ((q312 * 5) + 5)) (nI (q312 * 5)) (nI q312) rc p2 := hE86.trans ((show m_X6_sweepAhead_85 (m_X6_sweepAhead_L11_7 n7) (m_X6_sweepAhead_L46_12 (m_X6_sweepAhead_L11_7 n7) n12) (AB ad F84) r24 (nI ((q312 * 5) + 5)) (nI (q312 * 5)) (nI q312) rc p2 = m_X6_sweepAhead_L110_88 (m_X6_sweepAhead_L11_7 n7) (m_X6_sweepAhead_L46_12 (m_X6_sweepAhead_L11_7 n7) n12) 2000 (AB ad F84) (nI 1) r24 (nI ((q312 * 5) + 5)) (nI (q312 * 5)) (nI q312) rc p2 from rfl).trans (congr (congr (congr (congr (congr (congr (congr (congrArg (m_X6_sweepAhead_L110_88 (m_X6_sweepAhead_L11_7 n7) (m_X6_sweepAhead_L46_12 (m_X6_sweepAhead_L11_7 n7) n12) 2000) (rfl : AB ad F84 = AB ad F84)) (Eq.refl ((nI 1) : Int32))) (Eq.refl (r24 : Int32))) (Eq.refl ((nI ((q312 * 5) + 5)) : Int32))) (Eq.refl ((nI (q312 * 5)) : Int32))) (Eq.refl ((nI q312) : Int32))) (Eq.refl rc)) (Eq.refl (p2 : Int32))))
            exact lp88 2000 (1) F84 H84 locs84 (by omega) (by omega) hW84 hFr84 hP84 hS84 hE127 ls87 (lv_sub hl87 [0, 1, 2, 3, 4, 5, 6, 7] rfl)
        have hE128 : M = m_X6_sweepAhead_L46_12 (m_X6_sweepAhead_L11_7 n7) 2000 (AB ad Fl7) (nI 0) rc p2 := hE8.trans ((show m_X6_sweepAhead_L11_7_b (m_X6_sweepAhead_L11_7 n7) (AB ad Fl7) (nI q37) rc p2 = m_X6_sweepAhead_L46_12 (m_X6_sweepAhead_L11_7 n7) 2000 (AB ad Fl7) (nI 0) rc p2 from by unfold m_X6_sweepAhead_L11_7_b; rw [if_pos (le_cg rfl rfl c9)]).trans (congr (congr (congr (congrArg (m_X6_sweepAhead_L46_12 (m_X6_sweepAhead_L11_7 n7) 2000) (rfl : AB ad Fl7 = AB ad Fl7)) (Eq.refl ((nI 0) : Int32))) (Eq.refl rc)) (Eq.refl (p2 : Int32))))
        exact lp12 2000 (0) Fl7 Hl7 lol7 (by omega) (by omega) hWl7 hFl7 hPl7 hSl7 hE128 ls11 (lv_sub hl11 [0, 1, 2, 3] rfl)
      have k129 := ci_nle (nI_toInt (n := 5) (by decide)) (nI_toInt (n := q37) (by omega)) c9
      refine lv_aload_n S.1 S.2.1 dX6_sweepAhead_16 rfl (lv_at hl7 1 rfl) ?_
      obtain ⟨k130, hF130, hk130⟩ := wt_ways hWl7
      refine r_get S hK hPl7 33 (by decide) hF130 (C := RX6) (T := TX6) (N := 6) hiX6 rfl 4 (by decide) (am_at in_wsX6_sweepAhead_0 1 rfl) (v := .ref (ad 37)) rfl dX6_sweepAhead_17 ?_
      refine lv_iload_n S.1 S.2.1 dX6_sweepAhead_20 rfl (lv_at hl7 0 rfl) ?_
      refine lv_iload_n S.1 S.2.1 dX6_sweepAhead_21 rfl (lv_at hl7 0 rfl) ?_
      refine lv_if_ne (tgt := 36) S.1 S.2.1 dX6_sweepAhead_22 (by decide) (fun c131 => ?_) (fun c131 => ?_)
      · skip
        have k132 := ci_ne (nI_toInt (n := q37) (by omega)) z_ti c131
        refine lv_iconst (v := (nI 0)) S.1 S.2.1 dX6_sweepAhead_36 (by decide +kernel) ?_
        obtain ⟨g133, hF133, hg133⟩ := wt_I hWl7 (show (37, 245) ∈ rLI by decide)
        refine r_iast S hI hK hPl7 hSl7 37 (by decide) hF133 (vp_in_nI (show q37 < 245 by omega) (by omega)) dX6_sweepAhead_37 (fun F134 H134 locs134 eF134 hP134 hS134 => ?_)
        have hW134 := hWl7.up eF134 (ok_I (show (37, 245) ∈ rLI by decide) (okI_up hg133 (pr_of (by decide))))
        have hFr134 := hFl7.up eF134 (by simp <;> first | omega | (simp only [isC, isJ] at *; omega))
        have hE136 : M = m_X6_sweepAhead_135 (m_X6_sweepAhead_L11_7 n7) (AB ad F134) (nI q37) rc p2 := hE8.trans ((show m_X6_sweepAhead_L11_7_b (m_X6_sweepAhead_L11_7 n7) (AB ad Fl7) (nI q37) rc p2 = m_X6_sweepAhead_135 (m_X6_sweepAhead_L11_7 n7) (st (AB ad Fl7) 37 (rl (nI q37)) (nI 0)) (nI q37) rc p2 from by unfold m_X6_sweepAhead_L11_7_b; rw [if_neg (nle_cg rfl rfl c9), if_neg (neq_cg rfl rfl c131)]).trans (congr (congr (congr (congrArg (m_X6_sweepAhead_135 (m_X6_sweepAhead_L11_7 n7)) ((st_cg rfl (congrArg rl rfl) rfl).trans (AB_ast hF133 eF134).symm)) (Eq.refl ((nI q37) : Int32))) (Eq.refl rc)) (Eq.refl (p2 : Int32))))
        have m138 : ((nI q37) + Int32.ofInt (1)) = (nI (q37 + 1)) := (congrArg (fun q : Int32 => q + Int32.ofInt (1)) rfl).trans (nI_add _ 1)
        refine lv_iinc (v := (nI (q37 + 1))) (lv' := [(3, .int (nI (q37 + 1))), (0, .ref (ad 33)), (1, .ref (ad rc)), (2, .int p2)]) S.1 S.2.1 dX6_sweepAhead_38 hl7 (k := 0) rfl (nI_add _ 1) (by decide) rfl (fun ls137 hl137 => ?_)
        refine lv_goto (tgt := 11) S.1 S.2.1 dX6_sweepAhead_41 (by decide) ?_
        have hE139 : M = (m_X6_sweepAhead_L11_7 n7) (AB ad F134) (nI (q37 + 1)) rc p2 := hE136.trans ((show m_X6_sweepAhead_135 (m_X6_sweepAhead_L11_7 n7) (AB ad F134) (nI q37) rc p2 = (m_X6_sweepAhead_L11_7 n7) (AB ad F134) ((nI q37) + Int32.ofInt (1)) rc p2 from rfl).trans (congr (congr (congr (congrArg ((m_X6_sweepAhead_L11_7 n7)) (rfl : AB ad F134 = AB ad F134)) m138) (Eq.refl rc)) (Eq.refl (p2 : Int32))))
        exact ih7 (q37 + 1) F134 H134 locs134 (by omega) (by omega) hW134 hFr134 hP134 hS134 hE139 ls137 (lv_sub hl137 [0, 1, 2, 3] rfl)
      have k140 := ci_eq (nI_toInt (n := q37) (by omega)) z_ti c131
      refine lv_aload_n S.1 S.2.1 dX6_sweepAhead_25 rfl (lv_at hl7 2 rfl) ?_
      obtain ⟨sl141, fm141, tn141, rn141, bn141, hF141, hb141_1, hb141_2, hb141_3⟩ := wt_C hWl7 hrc
      refine r_get S hK hPl7 rc (lt_C hrc) hF141 (C := RX0) (T := TX0) (N := 10) hiX0 rfl 2 (by decide) (am_at in_wsX6_sweepAhead_0 2 rfl) (v := .int (nI tn141)) rfl dX6_sweepAhead_26 ?_
      have m142 : ((AB ad Fl7) rc 2) = (nI tn141) := (congrArg (fun q => AB ad Fl7 q 2) rfl).trans (AB_f hF141 rfl)
      refine lv_if_le (tgt := 36) S.1 S.2.1 dX6_sweepAhead_29 (by decide) (fun c143 => ?_) (fun c143 => ?_)
      · skip
        have k144 := ci_le (nI_toInt (n := tn141) (by omega)) z_ti c143
        refine lv_iconst (v := (nI 0)) S.1 S.2.1 dX6_sweepAhead_36 (by decide +kernel) ?_
        obtain ⟨g145, hF145, hg145⟩ := wt_I hWl7 (show (37, 245) ∈ rLI by decide)
        refine r_iast S hI hK hPl7 hSl7 37 (by decide) hF145 (vp_in_nI (show q37 < 245 by omega) (by omega)) dX6_sweepAhead_37 (fun F146 H146 locs146 eF146 hP146 hS146 => ?_)
        have hW146 := hWl7.up eF146 (ok_I (show (37, 245) ∈ rLI by decide) (okI_up hg145 (pr_of (by decide))))
        have hFr146 := hFl7.up eF146 (by simp <;> first | omega | (simp only [isC, isJ] at *; omega))
        have hE148 : M = m_X6_sweepAhead_147 (m_X6_sweepAhead_L11_7 n7) (AB ad F146) (nI q37) rc p2 := hE8.trans ((show m_X6_sweepAhead_L11_7_b (m_X6_sweepAhead_L11_7 n7) (AB ad Fl7) (nI q37) rc p2 = m_X6_sweepAhead_147 (m_X6_sweepAhead_L11_7 n7) (st (AB ad Fl7) 37 (rl (nI q37)) (nI 0)) (nI q37) rc p2 from by unfold m_X6_sweepAhead_L11_7_b; rw [if_neg (nle_cg rfl rfl c9), if_pos (eq_cg rfl rfl c131), if_pos (le_cg m142 rfl c143)]).trans (congr (congr (congr (congrArg (m_X6_sweepAhead_147 (m_X6_sweepAhead_L11_7 n7)) ((st_cg rfl (congrArg rl rfl) rfl).trans (AB_ast hF145 eF146).symm)) (Eq.refl ((nI q37) : Int32))) (Eq.refl rc)) (Eq.refl (p2 : Int32))))
        have m150 : ((nI q37) + Int32.ofInt (1)) = (nI (q37 + 1)) := (congrArg (fun q : Int32 => q + Int32.ofInt (1)) rfl).trans (nI_add _ 1)
        refine lv_iinc (v := (nI (q37 + 1))) (lv' := [(3, .int (nI (q37 + 1))), (0, .ref (ad 33)), (1, .ref (ad rc)), (2, .int p2)]) S.1 S.2.1 dX6_sweepAhead_38 hl7 (k := 0) rfl (nI_add _ 1) (by decide) rfl (fun ls149 hl149 => ?_)
        refine lv_goto (tgt := 11) S.1 S.2.1 dX6_sweepAhead_41 (by decide) ?_
        have hE151 : M = (m_X6_sweepAhead_L11_7 n7) (AB ad F146) (nI (q37 + 1)) rc p2 := hE148.trans ((show m_X6_sweepAhead_147 (m_X6_sweepAhead_L11_7 n7) (AB ad F146) (nI q37) rc p2 = (m_X6_sweepAhead_L11_7 n7) (AB ad F146) ((nI q37) + Int32.ofInt (1)) rc p2 from rfl).trans (congr (congr (congr (congrArg ((m_X6_sweepAhead_L11_7 n7)) (rfl : AB ad F146 = AB ad F146)) m150) (Eq.refl rc)) (Eq.refl (p2 : Int32))))
        exact ih7 (q37 + 1) F146 H146 locs146 (by omega) (by omega) hW146 hFr146 hP146 hS146 hE151 ls149 (lv_sub hl149 [0, 1, 2, 3] rfl)
      have k152 := ci_nle (nI_toInt (n := tn141) (by omega)) z_ti c143
      refine lv_iconst (v := (nI 1)) S.1 S.2.1 dX6_sweepAhead_32 (by decide +kernel) ?_
      refine lv_goto (tgt := 37) S.1 S.2.1 dX6_sweepAhead_33 (by decide) ?_
      obtain ⟨g153, hF153, hg153⟩ := wt_I hWl7 (show (37, 245) ∈ rLI by decide)
      refine r_iast S hI hK hPl7 hSl7 37 (by decide) hF153 (vp_in_nI (show q37 < 245 by omega) (by omega)) dX6_sweepAhead_37 (fun F154 H154 locs154 eF154 hP154 hS154 => ?_)
      have hW154 := hWl7.up eF154 (ok_I (show (37, 245) ∈ rLI by decide) (okI_up hg153 (pr_of (by decide))))
      have hFr154 := hFl7.up eF154 (by simp <;> first | omega | (simp only [isC, isJ] at *; omega))
      have hE156 : M = m_X6_sweepAhead_155 (m_X6_sweepAhead_L11_7 n7) (AB ad F154) (nI q37) rc p2 := hE8.trans ((show m_X6_sweepAhead_L11_7_b (m_X6_sweepAhead_L11_7 n7) (AB ad Fl7) (nI q37) rc p2 = m_X6_sweepAhead_155 (m_X6_sweepAhead_L11_7 n7) (st (AB ad Fl7) 37 (rl (nI q37)) (nI 1)) (nI q37) rc p2 from by unfold m_X6_sweepAhead_L11_7_b; rw [if_neg (nle_cg rfl rfl c9), if_pos (eq_cg rfl rfl c131), if_neg (nle_cg m142 rfl c143)]).trans (congr (congr (congr (congrArg (m_X6_sweepAhead_155 (m_X6_sweepAhead_L11_7 n7)) ((st_cg rfl (congrArg rl rfl) rfl).trans (AB_ast hF153 eF154).symm)) (Eq.refl ((nI q37) : Int32))) (Eq.refl rc)) (Eq.refl (p2 : Int32))))
      have m158 : ((nI q37) + Int32.ofInt (1)) = (nI (q37 + 1)) := (congrArg (fun q : Int32 => q + Int32.ofInt (1)) rfl).trans (nI_add _ 1)
      refine lv_iinc (v := (nI (q37 + 1))) (lv' := [(3, .int (nI (q37 + 1))), (0, .ref (ad 33)), (1, .ref (ad rc)), (2, .int p2)]) S.1 S.2.1 dX6_sweepAhead_38 hl7 (k := 0) rfl (nI_add _ 1) (by decide) rfl (fun ls157 hl157 => ?_)
      refine lv_goto (tgt := 11) S.1 S.2.1 dX6_sweepAhead_41 (by decide) ?_
      have hE159 : M = (m_X6_sweepAhead_L11_7 n7) (AB ad F154) (nI (q37 + 1)) rc p2 := hE156.trans ((show m_X6_sweepAhead_155 (m_X6_sweepAhead_L11_7 n7) (AB ad F154) (nI q37) rc p2 = (m_X6_sweepAhead_L11_7 n7) (AB ad F154) ((nI q37) + Int32.ofInt (1)) rc p2 from rfl).trans (congr (congr (congr (congrArg ((m_X6_sweepAhead_L11_7 n7)) (rfl : AB ad F154 = AB ad F154)) m158) (Eq.refl rc)) (Eq.refl (p2 : Int32))))
      exact ih7 (q37 + 1) F154 H154 locs154 (by omega) (by omega) hW154 hFr154 hP154 hS154 hE159 ls157 (lv_sub hl157 [0, 1, 2, 3] rfl)
  have hE160 : M = m_X6_sweepAhead_L11_7 2000 (AB ad F2) (nI 0) rc p2 := hE5.trans ((show m_X6_sweepAhead_4 (AB ad F2) rc p2 = m_X6_sweepAhead_L11_7 2000 (AB ad F2) (nI 0) rc p2 from rfl).trans (congr (congr (congr (congrArg (m_X6_sweepAhead_L11_7 2000) (rfl : AB ad F2 = AB ad F2)) (Eq.refl ((nI 0) : Int32))) (Eq.refl rc)) (Eq.refl (p2 : Int32))))
  exact lp7 2000 (0) F2 H2 locs2 (by omega) (by omega) hW2 hFr2 hP2 hS2 hE160 ls6 (lv_sub hl6 [0, 1, 2, 3] rfl)
noncomputable def m_X6_sweepBehind_140 (k0 : SS → Int32 → Nat → SS) (σ : SS) (a0 : Int32) (a1 : Nat) : SS :=
  k0 σ (a0 + Int32.ofInt (1)) a1
noncomputable def m_X6_sweepBehind_122 (k0 : SS → Int32 → Nat → SS) (k1 : SS → Int32 → Nat → SS) (k2 : SS → Int32 → Int32 → Int32 → Int32 → Int32 → Nat → SS) (σ : SS) (a0 : Int32) (a1 : Int32) (a2 : Int32) (a3 : Int32) (a4 : Int32) (a5 : Nat) : SS :=
  k2 σ (a0 + Int32.ofInt (1)) a1 a2 a3 a4 a5
noncomputable def m_X6_sweepBehind_103 (k0 : SS → Int32 → Nat → SS) (k1 : SS → Int32 → Nat → SS) (k2 : SS → Int32 → Int32 → Int32 → Int32 → Int32 → Nat → SS) (σ : SS) (a0 : Int32) (a1 : Int32) (a2 : Int32) (a3 : Int32) (a4 : Int32) (a5 : Nat) : SS :=
  k2 σ (a0 + Int32.ofInt (1)) a1 a2 a3 a4 a5
noncomputable def m_X6_sweepBehind_L81_84_b (k0 : SS → Int32 → Nat → SS) (k1 : SS → Int32 → Nat → SS) (k2 : SS → Int32 → Int32 → Int32 → Int32 → Int32 → Nat → SS) (σ : SS) (a0 : Int32) (a1 : Int32) (a2 : Int32) (a3 : Int32) (a4 : Int32) (a5 : Nat) : SS :=
  if (nI 5) ≤ a0 then
    k1 σ (a4 + Int32.ofInt (-1)) a5
  else
    if (σ a5 0) ≤ a0 then
      m_X6_sweepBehind_103 k0 k1 k2 (st σ 38 (rl (a3 + a0)) ((nI 0) ||| (nI 0))) a0 a1 a2 a3 a4 a5
    else
      m_X6_sweepBehind_122 k0 k1 k2 (st σ 38 (rl (a3 + a0)) ((nI 0) ||| ((σ 38 (rl ((a2 + a0) + (nI 1)))) &&& a1))) a0 a1 a2 a3 a4 a5
noncomputable def m_X6_sweepBehind_L81_84 (k0 : SS → Int32 → Nat → SS) (k1 : SS → Int32 → Nat → SS) : Nat → SS → Int32 → Int32 → Int32 → Int32 → Int32 → Nat → SS
  | 0 => fun σ _ _ _ _ _ _ => σ
  | n + 1 => m_X6_sweepBehind_L81_84_b k0 k1 (m_X6_sweepBehind_L81_84 k0 k1 n)
noncomputable def m_X6_sweepBehind_75 (k0 : SS → Int32 → Nat → SS) (k1 : SS → Int32 → Nat → SS) (k2 : SS → Int32 → Int32 → Int32 → Int32 → Int32 → Int32 → Nat → SS) (σ : SS) (a0 : Int32) (a1 : Int32) (a2 : Int32) (a3 : Int32) (a4 : Int32) (a5 : Int32) (a6 : Nat) : SS :=
  k2 σ (a0 + Int32.ofInt (1)) a1 a2 a3 a4 a5 a6
noncomputable def m_X6_sweepBehind_56 (k0 : SS → Int32 → Nat → SS) (k1 : SS → Int32 → Nat → SS) (k2 : SS → Int32 → Int32 → Int32 → Int32 → Int32 → Int32 → Nat → SS) (σ : SS) (a0 : Int32) (a1 : Int32) (a2 : Int32) (a3 : Int32) (a4 : Int32) (a5 : Int32) (a6 : Nat) : SS :=
  k2 σ (a0 + Int32.ofInt (1)) a1 a2 a3 a4 a5 a6
noncomputable def m_X6_sweepBehind_L81_37_b (k0 : SS → Int32 → Nat → SS) (k1 : SS → Int32 → Nat → SS) (k2 : SS → Int32 → Int32 → Int32 → Int32 → Int32 → Int32 → Nat → SS) (σ : SS) (a0 : Int32) (a1 : Int32) (a2 : Int32) (a3 : Int32) (a4 : Int32) (a5 : Int32) (a6 : Nat) : SS :=
  if (nI 5) ≤ a0 then
    k1 σ (a5 + Int32.ofInt (-1)) a6
  else
    if (σ a6 0) ≤ a0 then
      m_X6_sweepBehind_56 k0 k1 k2 (st σ 38 (rl (a4 + a0)) (a1 ||| (nI 0))) a0 a1 a2 a3 a4 a5 a6
    else
      m_X6_sweepBehind_75 k0 k1 k2 (st σ 38 (rl (a4 + a0)) (a1 ||| ((σ 38 (rl ((a3 + a0) + (nI 1)))) &&& a2))) a0 a1 a2 a3 a4 a5 a6
noncomputable def m_X6_sweepBehind_L81_37 (k0 : SS → Int32 → Nat → SS) (k1 : SS → Int32 → Nat → SS) : Nat → SS → Int32 → Int32 → Int32 → Int32 → Int32 → Int32 → Nat → SS
  | 0 => fun σ _ _ _ _ _ _ _ => σ
  | n + 1 => m_X6_sweepBehind_L81_37_b k0 k1 (m_X6_sweepBehind_L81_37 k0 k1 n)
noncomputable def m_X6_sweepBehind_L30_7_b (k0 : SS → Int32 → Nat → SS) (k1 : SS → Int32 → Nat → SS) (σ : SS) (a0 : Int32) (a1 : Nat) : SS :=
  if a0 < (0 : Int32) then
    σ
  else
    if (m_X6_isTold σ a0 ((-1) : Int32)) = (0 : Int32) then
      m_X6_sweepBehind_L81_37 k0 k1 2000 σ (nI 0) (m_X6_entriesTo σ (σ 38 (rl ((a0 * (nI 5)) + (nI 5))))) (m_X6_staysIn σ a1 a0 ((-1) : Int32)) ((a0 * (nI 5)) + (nI 5)) (a0 * (nI 5)) a0 a1
    else
      m_X6_sweepBehind_L81_84 k0 k1 2000 σ (nI 0) (m_X6_staysIn σ a1 a0 ((-1) : Int32)) ((a0 * (nI 5)) + (nI 5)) (a0 * (nI 5)) a0 a1
noncomputable def m_X6_sweepBehind_L30_7 (k0 : SS → Int32 → Nat → SS) : Nat → SS → Int32 → Nat → SS
  | 0 => fun σ _ _ => σ
  | n + 1 => m_X6_sweepBehind_L30_7_b k0 (m_X6_sweepBehind_L30_7 k0 n)
noncomputable def m_X6_sweepBehind_L2_2_b (k0 : SS → Int32 → Nat → SS) (σ : SS) (a0 : Int32) (a1 : Nat) : SS :=
  if (nI 5) ≤ a0 then
    m_X6_sweepBehind_L30_7 k0 2000 σ (nI 47) a1
  else
    m_X6_sweepBehind_140 k0 (st σ 38 (rl ((nI 240) + a0)) (m_X0_allTowns σ a1)) a0 a1
noncomputable def m_X6_sweepBehind_L2_2 : Nat → SS → Int32 → Nat → SS
  | 0 => fun σ _ _ => σ
  | n + 1 => m_X6_sweepBehind_L2_2_b (m_X6_sweepBehind_L2_2 n)
noncomputable def m_X6_sweepBehind (σ : SS) (a0 : Nat) : SS :=
  m_X6_sweepBehind_L2_2 2000 σ (nI 0) a0
set_option maxHeartbeats 4000000 in
set_option maxRecDepth 100000 in
theorem c_X6_sweepBehind (l : Launch) (D : va_G) (cA ad : Nat → Nat) (t : Nat) (hI : rI ad) (F : Nat → va_E) (hW : WT cA ad F) (rc : Nat) (hrc : isC rc) : MV l D cA ad t yX6_sweepBehind wsX6_sweepBehind { frames := 3, cells := 0, slots := 0, locals := 68 } [.ref (ad 33), .ref (ad rc)] F (fun F' => WT cA ad F' ∧ rFr [38] F F' ∧ ((True) ∧ m_X6_sweepBehind (AB ad F) rc = AB ad F')) := by
  refine en_V rfl (by decide +kernel) (Nat.le_of_ble_eq_true rfl) ?_
  intro p e s m args below meth c ls0 Q S hK hZ hP hS hl0 hret
  have hl0 : lv_has ls0 8 [(0, .ref (ad 33)), (1, .ref (ad rc))] := hl0
  have hFr : rFr [38] F F := rFr.rf
  have hiX0 : ∀ w ∈ u_ws RX0 TX0 10, w ∈ wsX6_sweepBehind := in_wsX6_sweepBehind_3
  have hiX6 : ∀ w ∈ u_ws RX6 TX6 6, w ∈ wsX6_sweepBehind := in_wsX6_sweepBehind_2
  obtain ⟨M, hM⟩ : ∃ M, M = m_X6_sweepBehind (AB ad F) rc := ⟨_, rfl⟩
  refine lv_iconst (v := (nI 0)) S.1 S.2.1 dX6_sweepBehind_0 (by decide +kernel) ?_
  refine lv_istore_n (lv' := [(2, .int (nI 0)), (0, .ref (ad 33)), (1, .ref (ad rc))]) S.1 S.2.1 dX6_sweepBehind_1 rfl hl0 (by decide) rfl (fun ls1 hl1 => ?_)
  have lp2 : ∀ (n2 : Nat) (q22 : Nat), ∀ (Fl2 : Nat → va_E) (Hl2 : Heap) (lol2 : List Loc), q22 ≤ 5 → 5 - q22 < n2 → WT cA ad Fl2 → rFr [38] F Fl2 → va_P D vwCl (rW ad Fl2) Hl2 → va_S (rA ad) s.heap Hl2 lol2 → M = m_X6_sweepBehind_L2_2 n2 (AB ad Fl2) (nI q22) rc → ∀ (ls : Array Slot), lv_has ls 8 [(2, .int (nI q22)), (0, .ref (ad 33)), (1, .ref (ad rc))] → W p l e { frames := 3, cells := 0, slots := 0, locals := 68 } s m args below meth c Hl2 lol2 0 0 Q (F0 m 2 ls []) := by
    intro n2
    induction n2 with
    | zero =>
      intro q22 Fl2 Hl2 lol2 iv2_0 hm2 hWl2 hFl2 hPl2 hSl2 hEl2 ls2 hl2
      exact absurd hm2 (Nat.not_lt_zero _)
    | succ n2 ih2 =>
      intro q22 Fl2 Hl2 lol2 iv2_0 hm2 hWl2 hFl2 hPl2 hSl2 hEl2 ls2 hl2
      have hE3 : M = m_X6_sweepBehind_L2_2_b (m_X6_sweepBehind_L2_2 n2) (AB ad Fl2) (nI q22) rc := hEl2
      refine lv_iload_n S.1 S.2.1 dX6_sweepBehind_2 rfl (lv_at hl2 0 rfl) ?_
      refine lv_iconst (v := (nI 5)) S.1 S.2.1 dX6_sweepBehind_3 (by decide +kernel) ?_
      refine lv_icmp_ge (tgt := 27) S.1 S.2.1 dX6_sweepBehind_4 (by decide) (fun c4 => ?_) (fun c4 => ?_)
      · skip
        have k5 := ci_le (nI_toInt (n := 5) (by decide)) (nI_toInt (n := q22) (by omega)) c4
        refine lv_bipush (v := (nI 47)) S.1 S.2.1 dX6_sweepBehind_27 (by decide +kernel) ?_
        refine lv_istore_n (lv' := [(2, .int (nI 47)), (0, .ref (ad 33)), (1, .ref (ad rc))]) S.1 S.2.1 dX6_sweepBehind_29 rfl hl2 (by decide) rfl (fun ls6 hl6 => ?_)
        have lp7 : ∀ (n7 : Nat) (x7_2 : Int32), ∀ (Fl7 : Nat → va_E) (Hl7 : Heap) (lol7 : List Loc), -1 ≤ x7_2.toInt → x7_2.toInt ≤ 47 → (x7_2.toInt + 1).toNat < n7 → WT cA ad Fl7 → rFr [38] F Fl7 → va_P D vwCl (rW ad Fl7) Hl7 → va_S (rA ad) s.heap Hl7 lol7 → M = m_X6_sweepBehind_L30_7 (m_X6_sweepBehind_L2_2 n2) n7 (AB ad Fl7) x7_2 rc → ∀ (ls : Array Slot), lv_has ls 8 [(2, .int x7_2), (0, .ref (ad 33)), (1, .ref (ad rc))] → W p l e { frames := 3, cells := 0, slots := 0, locals := 68 } s m args below meth c Hl7 lol7 0 0 Q (F0 m 30 ls []) := by
          intro n7
          induction n7 with
          | zero =>
            intro x7_2 Fl7 Hl7 lol7 iv7_0 iv7_1 hm7 hWl7 hFl7 hPl7 hSl7 hEl7 ls7 hl7
            exact absurd hm7 (Nat.not_lt_zero _)
          | succ n7 ih7 =>
            intro x7_2 Fl7 Hl7 lol7 iv7_0 iv7_1 hm7 hWl7 hFl7 hPl7 hSl7 hEl7 ls7 hl7
            have hE8 : M = m_X6_sweepBehind_L30_7_b (m_X6_sweepBehind_L2_2 n2) (m_X6_sweepBehind_L30_7 (m_X6_sweepBehind_L2_2 n2) n7) (AB ad Fl7) x7_2 rc := hEl7
            refine lv_iload_n S.1 S.2.1 dX6_sweepBehind_30 rfl (lv_at hl7 0 rfl) ?_
            refine lv_if_lt (tgt := 139) S.1 S.2.1 dX6_sweepBehind_31 (by decide) (fun c9 => ?_) (fun c9 => ?_)
            · skip
              have k10 := ci_lt rfl z_ti c9
              have hE11 : M = AB ad Fl7 := hE8.trans ((show m_X6_sweepBehind_L30_7_b (m_X6_sweepBehind_L2_2 n2) (m_X6_sweepBehind_L30_7 (m_X6_sweepBehind_L2_2 n2) n7) (AB ad Fl7) x7_2 rc = (AB ad Fl7) from by unfold m_X6_sweepBehind_L30_7_b; rw [if_pos (lt_cg rfl rfl c9)]).trans rfl)
              exact hret 139 _ _ _ _ dX6_sweepBehind_139 hPl7 hSl7 ⟨hWl7, hFl7, ⟨trivial, hM.symm.trans hE11⟩⟩
            have k12 := ci_nlt rfl z_ti c9
            obtain ⟨j13, hj13, rfl⟩ := nI_of_le (x := x7_2) (B := 47) (by omega) (by omega)
            have kj13 := nI_toInt (n := j13) (Nat.lt_of_le_of_lt hj13 (by decide))
            refine lv_iload_n S.1 S.2.1 dX6_sweepBehind_34 rfl (lv_at hl7 0 rfl) ?_
            refine lv_iconst (v := (nI 5)) S.1 S.2.1 dX6_sweepBehind_35 (by decide +kernel) ?_
            refine lv_imul S.1 S.2.1 dX6_sweepBehind_36 ?_
            refine lv_topi (fun v14 e14 => ?_)
            obtain rfl : v14 = nI (j13 * 5) := e14.trans (pk_mul _ _)
            have m15 : ((nI j13) * (nI 5)) = (nI (j13 * 5)) := cg2 (fun (x : Int32) (y : Int32) => x * y) (Eq.refl ((nI j13) : Int32)) (Eq.refl ((nI 5) : Int32)) e14
            refine lv_istore_n (lv' := [(3, .int (nI (j13 * 5))), (2, .int (nI j13)), (0, .ref (ad 33)), (1, .ref (ad rc))]) S.1 S.2.1 dX6_sweepBehind_37 rfl hl7 (by decide) rfl (fun ls16 hl16 => ?_)
            refine lv_iload_n S.1 S.2.1 dX6_sweepBehind_38 rfl (lv_at hl16 0 rfl) ?_
            refine lv_iconst (v := (nI 5)) S.1 S.2.1 dX6_sweepBehind_39 (by decide +kernel) ?_
            refine lv_iadd S.1 S.2.1 dX6_sweepBehind_40 ?_
            refine lv_topi (fun v17 e17 => ?_)
            obtain rfl : v17 = nI ((j13 * 5) + 5) := e17.trans (nI_add _ _)
            have m18 : (((nI j13) * (nI 5)) + (nI 5)) = (nI ((j13 * 5) + 5)) := cg2 (fun (x : Int32) (y : Int32) => x + y) m15 (Eq.refl ((nI 5) : Int32)) e17
            refine lv_istore (lv' := [(4, .int (nI ((j13 * 5) + 5))), (3, .int (nI (j13 * 5))), (2, .int (nI j13)), (0, .ref (ad 33)), (1, .ref (ad rc))]) S.1 S.2.1 dX6_sweepBehind_41 hl16 (by decide) rfl (fun ls19 hl19 => ?_)
            refine lv_aload_n S.1 S.2.1 dX6_sweepBehind_43 rfl (lv_at hl19 3 rfl) ?_
            refine lv_aload_n S.1 S.2.1 dX6_sweepBehind_44 rfl (lv_at hl19 4 rfl) ?_
            refine lv_iload_n S.1 S.2.1 dX6_sweepBehind_45 rfl (lv_at hl19 2 rfl) ?_
            refine lv_iconst (v := (-1)) S.1 S.2.1 dX6_sweepBehind_46 (by decide +kernel) ?_
            obtain ⟨k21, hF21, hk21⟩ := wt_ways hWl7
            refine r_cVp (As := [.ref (ad rc), .int (nI j13), .int (-1)]) (rest := []) S hK hZ hPl7 hSl7 hl19.1 33 (by decide) hF21 (C := RX6) rfl (c_X6_staysIn l D cA ad t hI Fl7 hWl7 rc hrc (nI j13) (-1)) (cwV 3 S.2.2.2.2 gX6_sweepBehind_X6_staysIn rfl rfl rfl (by decide +kernel) ⟨Nat.le_of_ble_eq_true rfl, Nat.le_of_ble_eq_true rfl⟩) rfl rfl (Nat.le_of_ble_eq_true rfl) ⟨Nat.zero_le _, Nat.zero_le _⟩ dX6_sweepBehind_47 (fun r20 hr20 => ?_)
            obtain ⟨hr20, hm20⟩ := hr20
            have m22 : (m_X6_staysIn (AB ad Fl7) rc (nI j13) ((-1) : Int32)) = r20 := (congr (congr (congr (Eq.refl (m_X6_staysIn (AB ad Fl7))) (Eq.refl rc)) (Eq.refl ((nI j13) : Int32))) (Eq.refl ((-1) : Int32))).trans hm20
            refine lv_istore (lv' := [(5, .int r20), (4, .int (nI ((j13 * 5) + 5))), (3, .int (nI (j13 * 5))), (2, .int (nI j13)), (0, .ref (ad 33)), (1, .ref (ad rc))]) S.1 S.2.1 dX6_sweepBehind_50 hl19 (by decide) rfl (fun ls23 hl23 => ?_)
            refine lv_aload_n S.1 S.2.1 dX6_sweepBehind_52 rfl (lv_at hl23 4 rfl) ?_
            refine lv_iload_n S.1 S.2.1 dX6_sweepBehind_53 rfl (lv_at hl23 3 rfl) ?_
            refine lv_iconst (v := (-1)) S.1 S.2.1 dX6_sweepBehind_54 (by decide +kernel) ?_
            refine r_cVp (As := [.int (nI j13), .int (-1)]) (rest := []) S hK hZ hPl7 hSl7 hl23.1 33 (by decide) hF21 (C := RX6) rfl (c_X6_isTold l D cA ad t hI Fl7 hWl7 (nI j13) (-1)) (cwV 2 S.2.2.2.2 gX6_sweepBehind_X6_isTold rfl rfl rfl (by decide +kernel) ⟨Nat.le_of_ble_eq_true rfl, Nat.le_of_ble_eq_true rfl⟩) rfl rfl (Nat.le_of_ble_eq_true rfl) ⟨Nat.zero_le _, Nat.zero_le _⟩ dX6_sweepBehind_55 (fun r24 hr24 => ?_)
            obtain ⟨hr24, hm24⟩ := hr24
            obtain ⟨b25, hb25, rfl⟩ := hr24
            have m26 : (m_X6_isTold (AB ad Fl7) (nI j13) ((-1) : Int32)) = (nI b25) := (congr (congr (Eq.refl (m_X6_isTold (AB ad Fl7))) (Eq.refl ((nI j13) : Int32))) (Eq.refl ((-1) : Int32))).trans hm24
            refine lv_if_eq (tgt := 65) S.1 S.2.1 dX6_sweepBehind_58 (by decide) (fun c27 => ?_) (fun c27 => ?_)
            · skip
              have k28 := ci_eq (nI_toInt (n := b25) (Nat.lt_of_le_of_lt hb25 (by decide))) z_ti c27
              refine lv_aload_n S.1 S.2.1 dX6_sweepBehind_65 rfl (lv_at hl23 4 rfl) ?_
              refine lv_aload_n S.1 S.2.1 dX6_sweepBehind_66 rfl (lv_at hl23 4 rfl) ?_
              refine r_get S hK hPl7 33 (by decide) hF21 (C := RX6) (T := TX6) (N := 6) hiX6 rfl 5 (by decide) (am_at in_wsX6_sweepBehind_0 0 rfl) (v := .ref (ad 38)) rfl dX6_sweepBehind_67 ?_
              refine lv_iload S.1 S.2.1 dX6_sweepBehind_70 (lv_at hl23 1 rfl) ?_
              obtain ⟨g29, hF29, hg29⟩ := wt_I hWl7 (show (38, 245) ∈ rLI by decide)
              refine r_iald S hK hPl7 38 (by decide) hF29 (vp_in_nI (show (j13 * 5) + 5 < 245 by omega) (by omega)) dX6_sweepBehind_72 ?_
              refine lv_topi (fun v31 e31 => ?_)
              have m32 : ((AB ad Fl7) 38 (rl (((nI j13) * (nI 5)) + (nI 5)))) = v31 := (ab_cg rfl m18).trans ((AB_g hF29).trans e31.symm)
              refine r_cVp (As := [.int v31]) (rest := []) S hK hZ hPl7 hSl7 hl23.1 33 (by decide) hF21 (C := RX6) rfl (c_X6_entriesTo l D cA ad t hI Fl7 hWl7 v31) (cwV 1 S.2.2.2.2 gX6_sweepBehind_X6_entriesTo rfl rfl rfl (by decide +kernel) ⟨Nat.le_of_ble_eq_true rfl, Nat.le_of_ble_eq_true rfl⟩) rfl rfl (Nat.le_of_ble_eq_true rfl) ⟨Nat.zero_le _, Nat.zero_le _⟩ dX6_sweepBehind_73 (fun r33 hr33 => ?_)
              obtain ⟨hr33, hm33⟩ := hr33
              have m34 : (m_X6_entriesTo (AB ad Fl7) ((AB ad Fl7) 38 (rl (((nI j13) * (nI 5)) + (nI 5))))) = r33 := (congr (Eq.refl (m_X6_entriesTo (AB ad Fl7))) m32).trans hm33
              refine lv_istore (lv' := [(6, .int r33), (5, .int r20), (4, .int (nI ((j13 * 5) + 5))), (3, .int (nI (j13 * 5))), (2, .int (nI j13)), (0, .ref (ad 33)), (1, .ref (ad rc))]) S.1 S.2.1 dX6_sweepBehind_76 hl23 (by decide) rfl (fun ls35 hl35 => ?_)
              refine lv_iconst (v := (nI 0)) S.1 S.2.1 dX6_sweepBehind_78 (by decide +kernel) ?_
              refine lv_istore (lv' := [(7, .int (nI 0)), (6, .int r33), (5, .int r20), (4, .int (nI ((j13 * 5) + 5))), (3, .int (nI (j13 * 5))), (2, .int (nI j13)), (0, .ref (ad 33)), (1, .ref (ad rc))]) S.1 S.2.1 dX6_sweepBehind_79 hl35 (by decide) rfl (fun ls36 hl36 => ?_)
              have lp37 : ∀ (n37 : Nat) (q737 : Nat), ∀ (Fl37 : Nat → va_E) (Hl37 : Heap) (lol37 : List Loc), q737 ≤ 5 → 5 - q737 < n37 → WT cA ad Fl37 → rFr [38] F Fl37 → va_P D vwCl (rW ad Fl37) Hl37 → va_S (rA ad) s.heap Hl37 lol37 → M = m_X6_sweepBehind_L81_37 (m_X6_sweepBehind_L2_2 n2) (m_X6_sweepBehind_L30_7 (m_X6_sweepBehind_L2_2 n2) n7) n37 (AB ad Fl37) (nI q737) r33 r20 (nI ((j13 * 5) + 5)) (nI (j13 * 5)) (nI j13) rc → ∀ (ls : Array Slot), lv_has ls 8 [(7, .int (nI q737)), (6, .int r33), (5, .int r20), (4, .int (nI ((j13 * 5) + 5))), (3, .int (nI (j13 * 5))), (2, .int (nI j13)), (0, .ref (ad 33)), (1, .ref (ad rc))] → W p l e { frames := 3, cells := 0, slots := 0, locals := 68 } s m args below meth c Hl37 lol37 0 0 Q (F0 m 81 ls []) := by
                intro n37
                induction n37 with
                | zero =>
                  intro q737 Fl37 Hl37 lol37 iv37_0 hm37 hWl37 hFl37 hPl37 hSl37 hEl37 ls37 hl37
                  exact absurd hm37 (Nat.not_lt_zero _)
                | succ n37 ih37 =>
                  intro q737 Fl37 Hl37 lol37 iv37_0 hm37 hWl37 hFl37 hPl37 hSl37 hEl37 ls37 hl37
                  have hE38 : M = m_X6_sweepBehind_L81_37_b (m_X6_sweepBehind_L2_2 n2) (m_X6_sweepBehind_L30_7 (m_X6_sweepBehind_L2_2 n2) n7) (m_X6_sweepBehind_L81_37 (m_X6_sweepBehind_L2_2 n2) (m_X6_sweepBehind_L30_7 (m_X6_sweepBehind_L2_2 n2) n7) n37) (AB ad Fl37) (nI q737) r33 r20 (nI ((j13 * 5) + 5)) (nI (j13 * 5)) (nI j13) rc := hEl37
                  refine lv_iload S.1 S.2.1 dX6_sweepBehind_81 (lv_at hl37 0 rfl) ?_
                  refine lv_iconst (v := (nI 5)) S.1 S.2.1 dX6_sweepBehind_83 (by decide +kernel) ?_
                  refine lv_icmp_ge (tgt := 133) S.1 S.2.1 dX6_sweepBehind_84 (by decide) (fun c39 => ?_) (fun c39 => ?_)
                  · skip
                    have k40 := ci_le (nI_toInt (n := 5) (by decide)) (nI_toInt (n := q737) (by omega)) c39
                    obtain ⟨v41, e41⟩ : ∃ y : Int32, y = (nI j13) + Int32.ofInt (-1) := ⟨_, rfl⟩
                    have kd41 : v41.toInt = ((j13 : Nat) : Int) - 1 := by rw [e41]; exact nI_dec (by omega)
                    have m42 : ((nI j13) + Int32.ofInt (-1)) = v41 := (congrArg (fun q : Int32 => q + Int32.ofInt (-1)) rfl).trans e41.symm
                    refine lv_iinc (v := v41) (lv' := [(2, .int v41), (7, .int (nI q737)), (6, .int r33), (5, .int r20), (4, .int (nI ((j13 * 5) + 5))), (3, .int (nI (j13 * 5))), (0, .ref (ad 33)), (1, .ref (ad rc))]) S.1 S.2.1 dX6_sweepBehind_133 hl37 (k := 5) rfl e41.symm (by decide) rfl (fun ls41 hl41 => ?_)
                    refine lv_goto (tgt := 30) S.1 S.2.1 dX6_sweepBehind_136 (by decide) ?_
                    have hE43 : M = (m_X6_sweepBehind_L30_7 (m_X6_sweepBehind_L2_2 n2) n7) (AB ad Fl37) v41 rc := hE38.trans ((show m_X6_sweepBehind_L81_37_b (m_X6_sweepBehind_L2_2 n2) (m_X6_sweepBehind_L30_7 (m_X6_sweepBehind_L2_2 n2) n7) (m_X6_sweepBehind_L81_37 (m_X6_sweepBehind_L2_2 n2) (m_X6_sweepBehind_L30_7 (m_X6_sweepBehind_L2_2 n2) n7) n37) (AB ad Fl37) (nI q737) r33 r20 (nI ((j13 * 5) + 5)) (nI (j13 * 5)) (nI j13) rc = (m_X6_sweepBehind_L30_7 (m_X6_sweepBehind_L2_2 n2) n7) (AB ad Fl37) ((nI j13) + Int32.ofInt (-1)) rc from by unfold m_X6_sweepBehind_L81_37_b; rw [if_pos (le_cg rfl rfl c39)]).trans (congr (congr (congrArg ((m_X6_sweepBehind_L30_7 (m_X6_sweepBehind_L2_2 n2) n7)) (rfl : AB ad Fl37 = AB ad Fl37)) m42) (Eq.refl rc)))
                    exact ih7 (v41) Fl37 Hl37 lol37 (by omega) (by omega) (by omega) hWl37 hFl37 hPl37 hSl37 hE43 ls41 (lv_sub hl41 [0, 6, 7] rfl)
                  have k44 := ci_nle (nI_toInt (n := 5) (by decide)) (nI_toInt (n := q737) (by omega)) c39
                  refine lv_aload_n S.1 S.2.1 dX6_sweepBehind_87 rfl (lv_at hl37 6 rfl) ?_
                  obtain ⟨k45, hF45, hk45⟩ := wt_ways hWl37
                  refine r_get S hK hPl37 33 (by decide) hF45 (C := RX6) (T := TX6) (N := 6) hiX6 rfl 5 (by decide) (am_at in_wsX6_sweepBehind_0 0 rfl) (v := .ref (ad 38)) rfl dX6_sweepBehind_88 ?_
                  refine lv_iload_n S.1 S.2.1 dX6_sweepBehind_91 rfl (lv_at hl37 4 rfl) ?_
                  refine lv_iload S.1 S.2.1 dX6_sweepBehind_92 (lv_at hl37 0 rfl) ?_
                  refine lv_iadd S.1 S.2.1 dX6_sweepBehind_94 ?_
                  refine lv_topi (fun v46 e46 => ?_)
                  obtain rfl : v46 = nI ((j13 * 5) + q737) := e46.trans (nI_add _ _)
                  have m47 : ((nI (j13 * 5)) + (nI q737)) = (nI ((j13 * 5) + q737)) := cg2 (fun (x : Int32) (y : Int32) => x + y) (Eq.refl ((nI (j13 * 5)) : Int32)) (Eq.refl ((nI q737) : Int32)) e46
                  refine lv_iload S.1 S.2.1 dX6_sweepBehind_95 (lv_at hl37 1 rfl) ?_
                  refine lv_iload S.1 S.2.1 dX6_sweepBehind_97 (lv_at hl37 0 rfl) ?_
                  refine lv_aload_n S.1 S.2.1 dX6_sweepBehind_99 rfl (lv_at hl37 7 rfl) ?_
                  obtain ⟨sl48, fm48, tn48, rn48, bn48, hF48, hb48_1, hb48_2, hb48_3⟩ := wt_C hWl37 hrc
                  refine r_get S hK hPl37 rc (lt_C hrc) hF48 (C := RX0) (T := TX0) (N := 10) hiX0 rfl 0 (by decide) (am_at in_wsX6_sweepBehind_0 1 rfl) (v := .int (nI sl48)) rfl dX6_sweepBehind_100 ?_
                  have m49 : ((AB ad Fl37) rc 0) = (nI sl48) := (congrArg (fun q => AB ad Fl37 q 0) rfl).trans (AB_f hF48 rfl)
                  refine lv_icmp_ge (tgt := 124) S.1 S.2.1 dX6_sweepBehind_103 (by decide) (fun c50 => ?_) (fun c50 => ?_)
                  · skip
                    have k51 := ci_le (nI_toInt (n := sl48) (by omega)) (nI_toInt (n := q737) (by omega)) c50
                    refine lv_iconst (v := (nI 0)) S.1 S.2.1 dX6_sweepBehind_124 (by decide +kernel) ?_
                    refine lv_ior S.1 S.2.1 dX6_sweepBehind_125 ?_
                    refine lv_topi (fun v52 e52 => ?_)
                    have m53 : (r33 ||| (nI 0)) = v52 := cg2 (fun (x : Int32) (y : Int32) => x ||| y) (Eq.refl (r33 : Int32)) (Eq.refl ((nI 0) : Int32)) e52
                    obtain ⟨g54, hF54, hg54⟩ := wt_I hWl37 (show (38, 245) ∈ rLI by decide)
                    refine r_iast S hI hK hPl37 hSl37 38 (by decide) hF54 (vp_in_nI (show (j13 * 5) + q737 < 245 by omega) (by omega)) dX6_sweepBehind_126 (fun F55 H55 locs55 eF55 hP55 hS55 => ?_)
                    have hW55 := hWl37.up eF55 (ok_I (show (38, 245) ∈ rLI by decide) (okI_up hg54 (pr_of (by decide))))
                    have hFr55 := hFl37.up eF55 (by simp <;> first | omega | (simp only [isC, isJ] at *; omega))
                    have hE57 : M = m_X6_sweepBehind_56 (m_X6_sweepBehind_L2_2 n2) (m_X6_sweepBehind_L30_7 (m_X6_sweepBehind_L2_2 n2) n7) (m_X6_sweepBehind_L81_37 (m_X6_sweepBehind_L2_2 n2) (m_X6_sweepBehind_L30_7 (m_X6_sweepBehind_L2_2 n2) n7) n37) (AB ad F55) (nI q737) r33 r20 (nI ((j13 * 5) + 5)) (nI (j13 * 5)) (nI j13) rc := hE38.trans ((show m_X6_sweepBehind_L81_37_b (m_X6_sweepBehind_L2_2 n2) (m_X6_sweepBehind_L30_7 (m_X6_sweepBehind_L2_2 n2) n7) (m_X6_sweepBehind_L81_37 (m_X6_sweepBehind_L2_2 n2) (m_X6_sweepBehind_L30_7 (m_X6_sweepBehind_L2_2 n2) n7) n37) (AB ad Fl37) (nI q737) r33 r20 (nI ((j13 * 5) + 5)) (nI (j13 * 5)) (nI j13) rc = m_X6_sweepBehind_56 (m_X6_sweepBehind_L2_2 n2) (m_X6_sweepBehind_L30_7 (m_X6_sweepBehind_L2_2 n2) n7) (m_X6_sweepBehind_L81_37 (m_X6_sweepBehind_L2_2 n2) (m_X6_sweepBehind_L30_7 (m_X6_sweepBehind_L2_2 n2) n7) n37) (st (AB ad Fl37) 38 (rl ((nI (j13 * 5)) + (nI q737))) (r33 ||| (nI 0))) (nI q737) r33 r20 (nI ((j13 * 5) + 5)) (nI (j13 * 5)) (nI j13) rc from by unfold m_X6_sweepBehind_L81_37_b; rw [if_neg (nle_cg rfl rfl c39), if_pos (le_cg m49 rfl c50)]).trans (congr (congr (congr (congr (congr (congr (congr (congrArg (m_X6_sweepBehind_56 (m_X6_sweepBehind_L2_2 n2) (m_X6_sweepBehind_L30_7 (m_X6_sweepBehind_L2_2 n2) n7) (m_X6_sweepBehind_L81_37 (m_X6_sweepBehind_L2_2 n2) (m_X6_sweepBehind_L30_7 (m_X6_sweepBehind_L2_2 n2) n7) n37)) ((st_cg rfl (congrArg rl m47) m53).trans (AB_ast hF54 eF55).symm)) (Eq.refl ((nI q737) : Int32))) (Eq.refl (r33 : Int32))) (Eq.refl (r20 : Int32))) (Eq.refl ((nI ((j13 * 5) + 5)) : Int32))) (Eq.refl ((nI (j13 * 5)) : Int32))) (Eq.refl ((nI j13) : Int32))) (Eq.refl rc)))
                    have m59 : ((nI q737) + Int32.ofInt (1)) = (nI (q737 + 1)) := (congrArg (fun q : Int32 => q + Int32.ofInt (1)) rfl).trans (nI_add _ 1)
                    refine lv_iinc (v := (nI (q737 + 1))) (lv' := [(7, .int (nI (q737 + 1))), (6, .int r33), (5, .int r20), (4, .int (nI ((j13 * 5) + 5))), (3, .int (nI (j13 * 5))), (2, .int (nI j13)), (0, .ref (ad 33)), (1, .ref (ad rc))]) S.1 S.2.1 dX6_sweepBehind_127 hl37 (k := 0) rfl (nI_add _ 1) (by decide) rfl (fun ls58 hl58 => ?_)
                    refine lv_goto (tgt := 81) S.1 S.2.1 dX6_sweepBehind_130 (by decide) ?_
                    have hE60 : M = (m_X6_sweepBehind_L81_37 (m_X6_sweepBehind_L2_2 n2) (m_X6_sweepBehind_L30_7 (m_X6_sweepBehind_L2_2 n2) n7) n37) (AB ad F55) (nI (q737 + 1)) r33 r20 (nI ((j13 * 5) + 5)) (nI (j13 * 5)) (nI j13) rc := hE57.trans ((show m_X6_sweepBehind_56 (m_X6_sweepBehind_L2_2 n2) (m_X6_sweepBehind_L30_7 (m_X6_sweepBehind_L2_2 n2) n7) (m_X6_sweepBehind_L81_37 (m_X6_sweepBehind_L2_2 n2) (m_X6_sweepBehind_L30_7 (m_X6_sweepBehind_L2_2 n2) n7) n37) (AB ad F55) (nI q737) r33 r20 (nI ((j13 * 5) + 5)) (nI (j13 * 5)) (nI j13) rc = (m_X6_sweepBehind_L81_37 (m_X6_sweepBehind_L2_2 n2) (m_X6_sweepBehind_L30_7 (m_X6_sweepBehind_L2_2 n2) n7) n37) (AB ad F55) ((nI q737) + Int32.ofInt (1)) r33 r20 (nI ((j13 * 5) + 5)) (nI (j13 * 5)) (nI j13) rc from rfl).trans (congr (congr (congr (congr (congr (congr (congr (congrArg ((m_X6_sweepBehind_L81_37 (m_X6_sweepBehind_L2_2 n2) (m_X6_sweepBehind_L30_7 (m_X6_sweepBehind_L2_2 n2) n7) n37)) (rfl : AB ad F55 = AB ad F55)) m59) (Eq.refl (r33 : Int32))) (Eq.refl (r20 : Int32))) (Eq.refl ((nI ((j13 * 5) + 5)) : Int32))) (Eq.refl ((nI (j13 * 5)) : Int32))) (Eq.refl ((nI j13) : Int32))) (Eq.refl rc)))
                    exact ih37 (q737 + 1) F55 H55 locs55 (by omega) (by omega) hW55 hFr55 hP55 hS55 hE60 ls58 (lv_sub hl58 [0, 1, 2, 3, 4, 5, 6, 7] rfl)
                  have k61 := ci_nle (nI_toInt (n := sl48) (by omega)) (nI_toInt (n := q737) (by omega)) c50
                  refine lv_aload_n S.1 S.2.1 dX6_sweepBehind_106 rfl (lv_at hl37 6 rfl) ?_
                  refine r_get S hK hPl37 33 (by decide) hF45 (C := RX6) (T := TX6) (N := 6) hiX6 rfl 5 (by decide) (am_at in_wsX6_sweepBehind_0 0 rfl) (v := .ref (ad 38)) rfl dX6_sweepBehind_107 ?_
                  refine lv_iload S.1 S.2.1 dX6_sweepBehind_110 (lv_at hl37 3 rfl) ?_
                  refine lv_iload S.1 S.2.1 dX6_sweepBehind_112 (lv_at hl37 0 rfl) ?_
                  refine lv_iadd S.1 S.2.1 dX6_sweepBehind_114 ?_
                  refine lv_topi (fun v62 e62 => ?_)
                  obtain rfl : v62 = nI (((j13 * 5) + 5) + q737) := e62.trans (nI_add _ _)
                  have m63 : ((nI ((j13 * 5) + 5)) + (nI q737)) = (nI (((j13 * 5) + 5) + q737)) := cg2 (fun (x : Int32) (y : Int32) => x + y) (Eq.refl ((nI ((j13 * 5) + 5)) : Int32)) (Eq.refl ((nI q737) : Int32)) e62
                  refine lv_iconst (v := (nI 1)) S.1 S.2.1 dX6_sweepBehind_115 (by decide +kernel) ?_
                  refine lv_iadd S.1 S.2.1 dX6_sweepBehind_116 ?_
                  refine lv_topi (fun v64 e64 => ?_)
                  obtain rfl : v64 = nI ((((j13 * 5) + 5) + q737) + 1) := e64.trans (nI_add _ _)
                  have m65 : (((nI ((j13 * 5) + 5)) + (nI q737)) + (nI 1)) = (nI ((((j13 * 5) + 5) + q737) + 1)) := cg2 (fun (x : Int32) (y : Int32) => x + y) m63 (Eq.refl ((nI 1) : Int32)) e64
                  obtain ⟨g66, hF66, hg66⟩ := wt_I hWl37 (show (38, 245) ∈ rLI by decide)
                  refine r_iald S hK hPl37 38 (by decide) hF66 (vp_in_nI (show (((j13 * 5) + 5) + q737) + 1 < 245 by omega) (by omega)) dX6_sweepBehind_117 ?_
                  refine lv_topi (fun v68 e68 => ?_)
                  have m69 : ((AB ad Fl37) 38 (rl (((nI ((j13 * 5) + 5)) + (nI q737)) + (nI 1)))) = v68 := (ab_cg rfl m65).trans ((AB_g hF66).trans e68.symm)
                  refine lv_iload S.1 S.2.1 dX6_sweepBehind_118 (lv_at hl37 2 rfl) ?_
                  refine lv_iand S.1 S.2.1 dX6_sweepBehind_120 ?_
                  refine lv_topi (fun v70 e70 => ?_)
                  have m71 : (((AB ad Fl37) 38 (rl (((nI ((j13 * 5) + 5)) + (nI q737)) + (nI 1)))) &&& r20) = v70 := cg2 (fun (x : Int32) (y : Int32) => x &&& y) m69 (Eq.refl (r20 : Int32)) e70
                  refine lv_goto (tgt := 125) S.1 S.2.1 dX6_sweepBehind_121 (by decide) ?_
                  refine lv_ior S.1 S.2.1 dX6_sweepBehind_125 ?_
                  refine lv_topi (fun v72 e72 => ?_)
                  have m73 : (r33 ||| (((AB ad Fl37) 38 (rl (((nI ((j13 * 5) + 5)) + (nI q737)) + (nI 1)))) &&& r20)) = v72 := cg2 (fun (x : Int32) (y : Int32) => x ||| y) (Eq.refl (r33 : Int32)) m71 e72
                  refine r_iast S hI hK hPl37 hSl37 38 (by decide) hF66 (vp_in_nI (show (j13 * 5) + q737 < 245 by omega) (by omega)) dX6_sweepBehind_126 (fun F74 H74 locs74 eF74 hP74 hS74 => ?_)
                  have hW74 := hWl37.up eF74 (ok_I (show (38, 245) ∈ rLI by decide) (okI_up hg66 (pr_of (by decide))))
                  have hFr74 := hFl37.up eF74 (by simp <;> first | omega | (simp only [isC, isJ] at *; omega))
                  have hE76 : M = m_X6_sweepBehind_75 (m_X6_sweepBehind_L2_2 n2) (m_X6_sweepBehind_L30_7 (m_X6_sweepBehind_L2_2 n2) n7) (m_X6_sweepBehind_L81_37 (m_X6_sweepBehind_L2_2 n2) (m_X6_sweepBehind_L30_7 (m_X6_sweepBehind_L2_2 n2) n7) n37) (AB ad F74) (nI q737) r33 r20 (nI ((j13 * 5) + 5)) (nI (j13 * 5)) (nI j13) rc := hE38.trans ((show m_X6_sweepBehind_L81_37_b (m_X6_sweepBehind_L2_2 n2) (m_X6_sweepBehind_L30_7 (m_X6_sweepBehind_L2_2 n2) n7) (m_X6_sweepBehind_L81_37 (m_X6_sweepBehind_L2_2 n2) (m_X6_sweepBehind_L30_7 (m_X6_sweepBehind_L2_2 n2) n7) n37) (AB ad Fl37) (nI q737) r33 r20 (nI ((j13 * 5) + 5)) (nI (j13 * 5)) (nI j13) rc = m_X6_sweepBehind_75 (m_X6_sweepBehind_L2_2 n2) (m_X6_sweepBehind_L30_7 (m_X6_sweepBehind_L2_2 n2) n7) (m_X6_sweepBehind_L81_37 (m_X6_sweepBehind_L2_2 n2) (m_X6_sweepBehind_L30_7 (m_X6_sweepBehind_L2_2 n2) n7) n37) (st (AB ad Fl37) 38 (rl ((nI (j13 * 5)) + (nI q737))) (r33 ||| (((AB ad Fl37) 38 (rl (((nI ((j13 * 5) + 5)) + (nI q737)) + (nI 1)))) &&& r20))) (nI q737) r33 r20 (nI ((j13 * 5) + 5)) (nI (j13 * 5)) (nI j13) rc from by unfold m_X6_sweepBehind_L81_37_b; rw [if_neg (nle_cg rfl rfl c39), if_neg (nle_cg m49 rfl c50)]).trans (congr (congr (congr (congr (congr (congr (congr (congrArg (m_X6_sweepBehind_75 (m_X6_sweepBehind_L2_2 n2) (m_X6_sweepBehind_L30_7 (m_X6_sweepBehind_L2_2 n2) n7) (m_X6_sweepBehind_L81_37 (m_X6_sweepBehind_L2_2 n2) (m_X6_sweepBehind_L30_7 (m_X6_sweepBehind_L2_2 n2) n7) n37)) ((st_cg rfl (congrArg rl m47) m73).trans (AB_ast hF66 eF74).symm)) (Eq.refl ((nI q737) : Int32))) (Eq.refl (r33 : Int32))) (Eq.refl (r20 : Int32))) (Eq.refl ((nI ((j13 * 5) + 5)) : Int32))) (Eq.refl ((nI (j13 * 5)) : Int32))) (Eq.refl ((nI j13) : Int32))) (Eq.refl rc)))
                  have m78 : ((nI q737) + Int32.ofInt (1)) = (nI (q737 + 1)) := (congrArg (fun q : Int32 => q + Int32.ofInt (1)) rfl).trans (nI_add _ 1)
                  refine lv_iinc (v := (nI (q737 + 1))) (lv' := [(7, .int (nI (q737 + 1))), (6, .int r33), (5, .int r20), (4, .int (nI ((j13 * 5) + 5))), (3, .int (nI (j13 * 5))), (2, .int (nI j13)), (0, .ref (ad 33)), (1, .ref (ad rc))]) S.1 S.2.1 dX6_sweepBehind_127 hl37 (k := 0) rfl (nI_add _ 1) (by decide) rfl (fun ls77 hl77 => ?_)
                  refine lv_goto (tgt := 81) S.1 S.2.1 dX6_sweepBehind_130 (by decide) ?_
                  have hE79 : M = (m_X6_sweepBehind_L81_37 (m_X6_sweepBehind_L2_2 n2) (m_X6_sweepBehind_L30_7 (m_X6_sweepBehind_L2_2 n2) n7) n37) (AB ad F74) (nI (q737 + 1)) r33 r20 (nI ((j13 * 5) + 5)) (nI (j13 * 5)) (nI j13) rc := hE76.trans ((show m_X6_sweepBehind_75 (m_X6_sweepBehind_L2_2 n2) (m_X6_sweepBehind_L30_7 (m_X6_sweepBehind_L2_2 n2) n7) (m_X6_sweepBehind_L81_37 (m_X6_sweepBehind_L2_2 n2) (m_X6_sweepBehind_L30_7 (m_X6_sweepBehind_L2_2 n2) n7) n37) (AB ad F74) (nI q737) r33 r20 (nI ((j13 * 5) + 5)) (nI (j13 * 5)) (nI j13) rc = (m_X6_sweepBehind_L81_37 (m_X6_sweepBehind_L2_2 n2) (m_X6_sweepBehind_L30_7 (m_X6_sweepBehind_L2_2 n2) n7) n37) (AB ad F74) ((nI q737) + Int32.ofInt (1)) r33 r20 (nI ((j13 * 5) + 5)) (nI (j13 * 5)) (nI j13) rc from rfl).trans (congr (congr (congr (congr (congr (congr (congr (congrArg ((m_X6_sweepBehind_L81_37 (m_X6_sweepBehind_L2_2 n2) (m_X6_sweepBehind_L30_7 (m_X6_sweepBehind_L2_2 n2) n7) n37)) (rfl : AB ad F74 = AB ad F74)) m78) (Eq.refl (r33 : Int32))) (Eq.refl (r20 : Int32))) (Eq.refl ((nI ((j13 * 5) + 5)) : Int32))) (Eq.refl ((nI (j13 * 5)) : Int32))) (Eq.refl ((nI j13) : Int32))) (Eq.refl rc)))
                  exact ih37 (q737 + 1) F74 H74 locs74 (by omega) (by omega) hW74 hFr74 hP74 hS74 hE79 ls77 (lv_sub hl77 [0, 1, 2, 3, 4, 5, 6, 7] rfl)
              have hE80 : M = m_X6_sweepBehind_L81_37 (m_X6_sweepBehind_L2_2 n2) (m_X6_sweepBehind_L30_7 (m_X6_sweepBehind_L2_2 n2) n7) 2000 (AB ad Fl7) (nI 0) r33 r20 (nI ((j13 * 5) + 5)) (nI (j13 * 5)) (nI j13) rc := hE8.trans ((show m_X6_sweepBehind_L30_7_b (m_X6_sweepBehind_L2_2 n2) (m_X6_sweepBehind_L30_7 (m_X6_sweepBehind_L2_2 n2) n7) (AB ad Fl7) (nI j13) rc = m_X6_sweepBehind_L81_37 (m_X6_sweepBehind_L2_2 n2) (m_X6_sweepBehind_L30_7 (m_X6_sweepBehind_L2_2 n2) n7) 2000 (AB ad Fl7) (nI 0) (m_X6_entriesTo (AB ad Fl7) ((AB ad Fl7) 38 (rl (((nI j13) * (nI 5)) + (nI 5))))) (m_X6_staysIn (AB ad Fl7) rc (nI j13) ((-1) : Int32)) (((nI j13) * (nI 5)) + (nI 5)) ((nI j13) * (nI 5)) (nI j13) rc from by unfold m_X6_sweepBehind_L30_7_b; rw [if_neg (nlt_cg rfl rfl c9), if_pos (eq_cg m26 rfl c27)]).trans (congr (congr (congr (congr (congr (congr (congr (congrArg (m_X6_sweepBehind_L81_37 (m_X6_sweepBehind_L2_2 n2) (m_X6_sweepBehind_L30_7 (m_X6_sweepBehind_L2_2 n2) n7) 2000) (rfl : AB ad Fl7 = AB ad Fl7)) (Eq.refl ((nI 0) : Int32))) m34) m22) m18) m15) (Eq.refl ((nI j13) : Int32))) (Eq.refl rc)))
              exact lp37 2000 (0) Fl7 Hl7 lol7 (by omega) (by omega) hWl7 hFl7 hPl7 hSl7 hE80 ls36 (lv_sub hl36 [0, 1, 2, 3, 4, 5, 6, 7] rfl)
            have k81 := ci_ne (nI_toInt (n := b25) (Nat.lt_of_le_of_lt hb25 (by decide))) z_ti c27
            refine lv_iconst (v := (nI 0)) S.1 S.2.1 dX6_sweepBehind_61 (by decide +kernel) ?_
            refine lv_goto (tgt := 76) S.1 S.2.1 dX6_sweepBehind_62 (by decide) ?_
            refine lv_istore (lv' := [(6, .int (nI 0)), (5, .int r20), (4, .int (nI ((j13 * 5) + 5))), (3, .int (nI (j13 * 5))), (2, .int (nI j13)), (0, .ref (ad 33)), (1, .ref (ad rc))]) S.1 S.2.1 dX6_sweepBehind_76 hl23 (by decide) rfl (fun ls82 hl82 => ?_)
            refine lv_iconst (v := (nI 0)) S.1 S.2.1 dX6_sweepBehind_78 (by decide +kernel) ?_
            refine lv_istore (lv' := [(7, .int (nI 0)), (6, .int (nI 0)), (5, .int r20), (4, .int (nI ((j13 * 5) + 5))), (3, .int (nI (j13 * 5))), (2, .int (nI j13)), (0, .ref (ad 33)), (1, .ref (ad rc))]) S.1 S.2.1 dX6_sweepBehind_79 hl82 (by decide) rfl (fun ls83 hl83 => ?_)
            have lp84 : ∀ (n84 : Nat) (q784 : Nat), ∀ (Fl84 : Nat → va_E) (Hl84 : Heap) (lol84 : List Loc), q784 ≤ 5 → 5 - q784 < n84 → WT cA ad Fl84 → rFr [38] F Fl84 → va_P D vwCl (rW ad Fl84) Hl84 → va_S (rA ad) s.heap Hl84 lol84 → M = m_X6_sweepBehind_L81_84 (m_X6_sweepBehind_L2_2 n2) (m_X6_sweepBehind_L30_7 (m_X6_sweepBehind_L2_2 n2) n7) n84 (AB ad Fl84) (nI q784) r20 (nI ((j13 * 5) + 5)) (nI (j13 * 5)) (nI j13) rc → ∀ (ls : Array Slot), lv_has ls 8 [(7, .int (nI q784)), (6, .int (nI 0)), (5, .int r20), (4, .int (nI ((j13 * 5) + 5))), (3, .int (nI (j13 * 5))), (2, .int (nI j13)), (0, .ref (ad 33)), (1, .ref (ad rc))] → W p l e { frames := 3, cells := 0, slots := 0, locals := 68 } s m args below meth c Hl84 lol84 0 0 Q (F0 m 81 ls []) := by
              intro n84
              induction n84 with
              | zero =>
                intro q784 Fl84 Hl84 lol84 iv84_0 hm84 hWl84 hFl84 hPl84 hSl84 hEl84 ls84 hl84
                exact absurd hm84 (Nat.not_lt_zero _)
              | succ n84 ih84 =>
                intro q784 Fl84 Hl84 lol84 iv84_0 hm84 hWl84 hFl84 hPl84 hSl84 hEl84 ls84 hl84
                have hE85 : M = m_X6_sweepBehind_L81_84_b (m_X6_sweepBehind_L2_2 n2) (m_X6_sweepBehind_L30_7 (m_X6_sweepBehind_L2_2 n2) n7) (m_X6_sweepBehind_L81_84 (m_X6_sweepBehind_L2_2 n2) (m_X6_sweepBehind_L30_7 (m_X6_sweepBehind_L2_2 n2) n7) n84) (AB ad Fl84) (nI q784) r20 (nI ((j13 * 5) + 5)) (nI (j13 * 5)) (nI j13) rc := hEl84
                refine lv_iload S.1 S.2.1 dX6_sweepBehind_81 (lv_at hl84 0 rfl) ?_
                refine lv_iconst (v := (nI 5)) S.1 S.2.1 dX6_sweepBehind_83 (by decide +kernel) ?_
                refine lv_icmp_ge (tgt := 133) S.1 S.2.1 dX6_sweepBehind_84 (by decide) (fun c86 => ?_) (fun c86 => ?_)
                · skip
                  have k87 := ci_le (nI_toInt (n := 5) (by decide)) (nI_toInt (n := q784) (by omega)) c86
                  obtain ⟨v88, e88⟩ : ∃ y : Int32, y = (nI j13) + Int32.ofInt (-1) := ⟨_, rfl⟩
                  have kd88 : v88.toInt = ((j13 : Nat) : Int) - 1 := by rw [e88]; exact nI_dec (by omega)
                  have m89 : ((nI j13) + Int32.ofInt (-1)) = v88 := (congrArg (fun q : Int32 => q + Int32.ofInt (-1)) rfl).trans e88.symm
                  refine lv_iinc (v := v88) (lv' := [(2, .int v88), (7, .int (nI q784)), (6, .int (nI 0)), (5, .int r20), (4, .int (nI ((j13 * 5) + 5))), (3, .int (nI (j13 * 5))), (0, .ref (ad 33)), (1, .ref (ad rc))]) S.1 S.2.1 dX6_sweepBehind_133 hl84 (k := 5) rfl e88.symm (by decide) rfl (fun ls88 hl88 => ?_)
                  refine lv_goto (tgt := 30) S.1 S.2.1 dX6_sweepBehind_136 (by decide) ?_
                  have hE90 : M = (m_X6_sweepBehind_L30_7 (m_X6_sweepBehind_L2_2 n2) n7) (AB ad Fl84) v88 rc := hE85.trans ((show m_X6_sweepBehind_L81_84_b (m_X6_sweepBehind_L2_2 n2) (m_X6_sweepBehind_L30_7 (m_X6_sweepBehind_L2_2 n2) n7) (m_X6_sweepBehind_L81_84 (m_X6_sweepBehind_L2_2 n2) (m_X6_sweepBehind_L30_7 (m_X6_sweepBehind_L2_2 n2) n7) n84) (AB ad Fl84) (nI q784) r20 (nI ((j13 * 5) + 5)) (nI (j13 * 5)) (nI j13) rc = (m_X6_sweepBehind_L30_7 (m_X6_sweepBehind_L2_2 n2) n7) (AB ad Fl84) ((nI j13) + Int32.ofInt (-1)) rc from by unfold m_X6_sweepBehind_L81_84_b; rw [if_pos (le_cg rfl rfl c86)]).trans (congr (congr (congrArg ((m_X6_sweepBehind_L30_7 (m_X6_sweepBehind_L2_2 n2) n7)) (rfl : AB ad Fl84 = AB ad Fl84)) m89) (Eq.refl rc)))
                  exact ih7 (v88) Fl84 Hl84 lol84 (by omega) (by omega) (by omega) hWl84 hFl84 hPl84 hSl84 hE90 ls88 (lv_sub hl88 [0, 6, 7] rfl)
                have k91 := ci_nle (nI_toInt (n := 5) (by decide)) (nI_toInt (n := q784) (by omega)) c86
                refine lv_aload_n S.1 S.2.1 dX6_sweepBehind_87 rfl (lv_at hl84 6 rfl) ?_
                obtain ⟨k92, hF92, hk92⟩ := wt_ways hWl84
                refine r_get S hK hPl84 33 (by decide) hF92 (C := RX6) (T := TX6) (N := 6) hiX6 rfl 5 (by decide) (am_at in_wsX6_sweepBehind_0 0 rfl) (v := .ref (ad 38)) rfl dX6_sweepBehind_88 ?_
                refine lv_iload_n S.1 S.2.1 dX6_sweepBehind_91 rfl (lv_at hl84 4 rfl) ?_
                refine lv_iload S.1 S.2.1 dX6_sweepBehind_92 (lv_at hl84 0 rfl) ?_
                refine lv_iadd S.1 S.2.1 dX6_sweepBehind_94 ?_
                refine lv_topi (fun v93 e93 => ?_)
                obtain rfl : v93 = nI ((j13 * 5) + q784) := e93.trans (nI_add _ _)
                have m94 : ((nI (j13 * 5)) + (nI q784)) = (nI ((j13 * 5) + q784)) := cg2 (fun (x : Int32) (y : Int32) => x + y) (Eq.refl ((nI (j13 * 5)) : Int32)) (Eq.refl ((nI q784) : Int32)) e93
                refine lv_iload S.1 S.2.1 dX6_sweepBehind_95 (lv_at hl84 1 rfl) ?_
                refine lv_iload S.1 S.2.1 dX6_sweepBehind_97 (lv_at hl84 0 rfl) ?_
                refine lv_aload_n S.1 S.2.1 dX6_sweepBehind_99 rfl (lv_at hl84 7 rfl) ?_
                obtain ⟨sl95, fm95, tn95, rn95, bn95, hF95, hb95_1, hb95_2, hb95_3⟩ := wt_C hWl84 hrc
                refine r_get S hK hPl84 rc (lt_C hrc) hF95 (C := RX0) (T := TX0) (N := 10) hiX0 rfl 0 (by decide) (am_at in_wsX6_sweepBehind_0 1 rfl) (v := .int (nI sl95)) rfl dX6_sweepBehind_100 ?_
                have m96 : ((AB ad Fl84) rc 0) = (nI sl95) := (congrArg (fun q => AB ad Fl84 q 0) rfl).trans (AB_f hF95 rfl)
                refine lv_icmp_ge (tgt := 124) S.1 S.2.1 dX6_sweepBehind_103 (by decide) (fun c97 => ?_) (fun c97 => ?_)
                · skip
                  have k98 := ci_le (nI_toInt (n := sl95) (by omega)) (nI_toInt (n := q784) (by omega)) c97
                  refine lv_iconst (v := (nI 0)) S.1 S.2.1 dX6_sweepBehind_124 (by decide +kernel) ?_
                  refine lv_ior S.1 S.2.1 dX6_sweepBehind_125 ?_
                  refine lv_topi (fun v99 e99 => ?_)
                  have m100 : ((nI 0) ||| (nI 0)) = v99 := cg2 (fun (x : Int32) (y : Int32) => x ||| y) (Eq.refl ((nI 0) : Int32)) (Eq.refl ((nI 0) : Int32)) e99
                  obtain ⟨g101, hF101, hg101⟩ := wt_I hWl84 (show (38, 245) ∈ rLI by decide)
                  refine r_iast S hI hK hPl84 hSl84 38 (by decide) hF101 (vp_in_nI (show (j13 * 5) + q784 < 245 by omega) (by omega)) dX6_sweepBehind_126 (fun F102 H102 locs102 eF102 hP102 hS102 => ?_)
                  have hW102 := hWl84.up eF102 (ok_I (show (38, 245) ∈ rLI by decide) (okI_up hg101 (pr_of (by decide))))
                  have hFr102 := hFl84.up eF102 (by simp <;> first | omega | (simp only [isC, isJ] at *; omega))
                  have hE104 : M = m_X6_sweepBehind_103 (m_X6_sweepBehind_L2_2 n2) (m_X6_sweepBehind_L30_7 (m_X6_sweepBehind_L2_2 n2) n7) (m_X6_sweepBehind_L81_84 (m_X6_sweepBehind_L2_2 n2) (m_X6_sweepBehind_L30_7 (m_X6_sweepBehind_L2_2 n2) n7) n84) (AB ad F102) (nI q784) r20 (nI ((j13 * 5) + 5)) (nI (j13 * 5)) (nI j13) rc := hE85.trans ((show m_X6_sweepBehind_L81_84_b (m_X6_sweepBehind_L2_2 n2) (m_X6_sweepBehind_L30_7 (m_X6_sweepBehind_L2_2 n2) n7) (m_X6_sweepBehind_L81_84 (m_X6_sweepBehind_L2_2 n2) (m_X6_sweepBehind_L30_7 (m_X6_sweepBehind_L2_2 n2) n7) n84) (AB ad Fl84) (nI q784) r20 (nI ((j13 * 5) + 5)) (nI (j13 * 5)) (nI j13) rc = m_X6_sweepBehind_103 (m_X6_sweepBehind_L2_2 n2) (m_X6_sweepBehind_L30_7 (m_X6_sweepBehind_L2_2 n2) n7) (m_X6_sweepBehind_L81_84 (m_X6_sweepBehind_L2_2 n2) (m_X6_sweepBehind_L30_7 (m_X6_sweepBehind_L2_2 n2) n7) n84) (st (AB ad Fl84) 38 (rl ((nI (j13 * 5)) + (nI q784))) ((nI 0) ||| (nI 0))) (nI q784) r20 (nI ((j13 * 5) + 5)) (nI (j13 * 5)) (nI j13) rc from by unfold m_X6_sweepBehind_L81_84_b; rw [if_neg (nle_cg rfl rfl c86), if_pos (le_cg m96 rfl c97)]).trans (congr (congr (congr (congr (congr (congr (congrArg (m_X6_sweepBehind_103 (m_X6_sweepBehind_L2_2 n2) (m_X6_sweepBehind_L30_7 (m_X6_sweepBehind_L2_2 n2) n7) (m_X6_sweepBehind_L81_84 (m_X6_sweepBehind_L2_2 n2) (m_X6_sweepBehind_L30_7 (m_X6_sweepBehind_L2_2 n2) n7) n84)) ((st_cg rfl (congrArg rl m94) m100).trans (AB_ast hF101 eF102).symm)) (Eq.refl ((nI q784) : Int32))) (Eq.refl (r20 : Int32))) (Eq.refl ((nI ((j13 * 5) + 5)) : Int32))) (Eq.refl ((nI (j13 * 5)) : Int32))) (Eq.refl ((nI j13) : Int32))) (Eq.refl rc)))
                  have m106 : ((nI q784) + Int32.ofInt (1)) = (nI (q784 + 1)) := (congrArg (fun q : Int32 => q + Int32.ofInt (1)) rfl).trans (nI_add _ 1)
                  refine lv_iinc (v := (nI (q784 + 1))) (lv' := [(7, .int (nI (q784 + 1))), (6, .int (nI 0)), (5, .int r20), (4, .int (nI ((j13 * 5) + 5))), (3, .int (nI (j13 * 5))), (2, .int (nI j13)), (0, .ref (ad 33)), (1, .ref (ad rc))]) S.1 S.2.1 dX6_sweepBehind_127 hl84 (k := 0) rfl (nI_add _ 1) (by decide) rfl (fun ls105 hl105 => ?_)
                  refine lv_goto (tgt := 81) S.1 S.2.1 dX6_sweepBehind_130 (by decide) ?_
                  have hE107 : M = (m_X6_sweepBehind_L81_84 (m_X6_sweepBehind_L2_2 n2) (m_X6_sweepBehind_L30_7 (m_X6_sweepBehind_L2_2 n2) n7) n84) (AB ad F102) (nI (q784 + 1)) r20 (nI ((j13 * 5) + 5)) (nI (j13 * 5)) (nI j13) rc := hE104.trans ((show m_X6_sweepBehind_103 (m_X6_sweepBehind_L2_2 n2) (m_X6_sweepBehind_L30_7 (m_X6_sweepBehind_L2_2 n2) n7) (m_X6_sweepBehind_L81_84 (m_X6_sweepBehind_L2_2 n2) (m_X6_sweepBehind_L30_7 (m_X6_sweepBehind_L2_2 n2) n7) n84) (AB ad F102) (nI q784) r20 (nI ((j13 * 5) + 5)) (nI (j13 * 5)) (nI j13) rc = (m_X6_sweepBehind_L81_84 (m_X6_sweepBehind_L2_2 n2) (m_X6_sweepBehind_L30_7 (m_X6_sweepBehind_L2_2 n2) n7) n84) (AB ad F102) ((nI q784) + Int32.ofInt (1)) r20 (nI ((j13 * 5) + 5)) (nI (j13 * 5)) (nI j13) rc from rfl).trans (congr (congr (congr (congr (congr (congr (congrArg ((m_X6_sweepBehind_L81_84 (m_X6_sweepBehind_L2_2 n2) (m_X6_sweepBehind_L30_7 (m_X6_sweepBehind_L2_2 n2) n7) n84)) (rfl : AB ad F102 = AB ad F102)) m106) (Eq.refl (r20 : Int32))) (Eq.refl ((nI ((j13 * 5) + 5)) : Int32))) (Eq.refl ((nI (j13 * 5)) : Int32))) (Eq.refl ((nI j13) : Int32))) (Eq.refl rc)))
                  exact ih84 (q784 + 1) F102 H102 locs102 (by omega) (by omega) hW102 hFr102 hP102 hS102 hE107 ls105 (lv_sub hl105 [0, 1, 2, 3, 4, 5, 6, 7] rfl)
                have k108 := ci_nle (nI_toInt (n := sl95) (by omega)) (nI_toInt (n := q784) (by omega)) c97
                refine lv_aload_n S.1 S.2.1 dX6_sweepBehind_106 rfl (lv_at hl84 6 rfl) ?_
                refine r_get S hK hPl84 33 (by decide) hF92 (C := RX6) (T := TX6) (N := 6) hiX6 rfl 5 (by decide) (am_at in_wsX6_sweepBehind_0 0 rfl) (v := .ref (ad 38)) rfl dX6_sweepBehind_107 ?_
                refine lv_iload S.1 S.2.1 dX6_sweepBehind_110 (lv_at hl84 3 rfl) ?_
                refine lv_iload S.1 S.2.1 dX6_sweepBehind_112 (lv_at hl84 0 rfl) ?_
                refine lv_iadd S.1 S.2.1 dX6_sweepBehind_114 ?_
                refine lv_topi (fun v109 e109 => ?_)
                obtain rfl : v109 = nI (((j13 * 5) + 5) + q784) := e109.trans (nI_add _ _)
                have m110 : ((nI ((j13 * 5) + 5)) + (nI q784)) = (nI (((j13 * 5) + 5) + q784)) := cg2 (fun (x : Int32) (y : Int32) => x + y) (Eq.refl ((nI ((j13 * 5) + 5)) : Int32)) (Eq.refl ((nI q784) : Int32)) e109
                refine lv_iconst (v := (nI 1)) S.1 S.2.1 dX6_sweepBehind_115 (by decide +kernel) ?_
                refine lv_iadd S.1 S.2.1 dX6_sweepBehind_116 ?_
                refine lv_topi (fun v111 e111 => ?_)
                obtain rfl : v111 = nI ((((j13 * 5) + 5) + q784) + 1) := e111.trans (nI_add _ _)
                have m112 : (((nI ((j13 * 5) + 5)) + (nI q784)) + (nI 1)) = (nI ((((j13 * 5) + 5) + q784) + 1)) := cg2 (fun (x : Int32) (y : Int32) => x + y) m110 (Eq.refl ((nI 1) : Int32)) e111
                obtain ⟨g113, hF113, hg113⟩ := wt_I hWl84 (show (38, 245) ∈ rLI by decide)
                refine r_iald S hK hPl84 38 (by decide) hF113 (vp_in_nI (show (((j13 * 5) + 5) + q784) + 1 < 245 by omega) (by omega)) dX6_sweepBehind_117 ?_
                refine lv_topi (fun v115 e115 => ?_)
                have m116 : ((AB ad Fl84) 38 (rl (((nI ((j13 * 5) + 5)) + (nI q784)) + (nI 1)))) = v115 := (ab_cg rfl m112).trans ((AB_g hF113).trans e115.symm)
                refine lv_iload S.1 S.2.1 dX6_sweepBehind_118 (lv_at hl84 2 rfl) ?_
                refine lv_iand S.1 S.2.1 dX6_sweepBehind_120 ?_
                refine lv_topi (fun v117 e117 => ?_)
                have m118 : (((AB ad Fl84) 38 (rl (((nI ((j13 * 5) + 5)) + (nI q784)) + (nI 1)))) &&& r20) = v117 := cg2 (fun (x : Int32) (y : Int32) => x &&& y) m116 (Eq.refl (r20 : Int32)) e117
                refine lv_goto (tgt := 125) S.1 S.2.1 dX6_sweepBehind_121 (by decide) ?_
                refine lv_ior S.1 S.2.1 dX6_sweepBehind_125 ?_
                refine lv_topi (fun v119 e119 => ?_)
                have m120 : ((nI 0) ||| (((AB ad Fl84) 38 (rl (((nI ((j13 * 5) + 5)) + (nI q784)) + (nI 1)))) &&& r20)) = v119 := cg2 (fun (x : Int32) (y : Int32) => x ||| y) (Eq.refl ((nI 0) : Int32)) m118 e119
                refine r_iast S hI hK hPl84 hSl84 38 (by decide) hF113 (vp_in_nI (show (j13 * 5) + q784 < 245 by omega) (by omega)) dX6_sweepBehind_126 (fun F121 H121 locs121 eF121 hP121 hS121 => ?_)
                have hW121 := hWl84.up eF121 (ok_I (show (38, 245) ∈ rLI by decide) (okI_up hg113 (pr_of (by decide))))
                have hFr121 := hFl84.up eF121 (by simp <;> first | omega | (simp only [isC, isJ] at *; omega))
                have hE123 : M = m_X6_sweepBehind_122 (m_X6_sweepBehind_L2_2 n2) (m_X6_sweepBehind_L30_7 (m_X6_sweepBehind_L2_2 n2) n7) (m_X6_sweepBehind_L81_84 (m_X6_sweepBehind_L2_2 n2) (m_X6_sweepBehind_L30_7 (m_X6_sweepBehind_L2_2 n2) n7) n84) (AB ad F121) (nI q784) r20 (nI ((j13 * 5) + 5)) (nI (j13 * 5)) (nI j13) rc := hE85.trans ((show m_X6_sweepBehind_L81_84_b (m_X6_sweepBehind_L2_2 n2) (m_X6_sweepBehind_L30_7 (m_X6_sweepBehind_L2_2 n2) n7) (m_X6_sweepBehind_L81_84 (m_X6_sweepBehind_L2_2 n2) (m_X6_sweepBehind_L30_7 (m_X6_sweepBehind_L2_2 n2) n7) n84) (AB ad Fl84) (nI q784) r20 (nI ((j13 * 5) + 5)) (nI (j13 * 5)) (nI j13) rc = m_X6_sweepBehind_122 (m_X6_sweepBehind_L2_2 n2) (m_X6_sweepBehind_L30_7 (m_X6_sweepBehind_L2_2 n2) n7) (m_X6_sweepBehind_L81_84 (m_X6_sweepBehind_L2_2 n2) (m_X6_sweepBehind_L30_7 (m_X6_sweepBehind_L2_2 n2) n7) n84) (st (AB ad Fl84) 38 (rl ((nI (j13 * 5)) + (nI q784))) ((nI 0) ||| (((AB ad Fl84) 38 (rl (((nI ((j13 * 5) + 5)) + (nI q784)) + (nI 1)))) &&& r20))) (nI q784) r20 (nI ((j13 * 5) + 5)) (nI (j13 * 5)) (nI j13) rc from by unfold m_X6_sweepBehind_L81_84_b; rw [if_neg (nle_cg rfl rfl c86), if_neg (nle_cg m96 rfl c97)]).trans (congr (congr (congr (congr (congr (congr (congrArg (m_X6_sweepBehind_122 (m_X6_sweepBehind_L2_2 n2) (m_X6_sweepBehind_L30_7 (m_X6_sweepBehind_L2_2 n2) n7) (m_X6_sweepBehind_L81_84 (m_X6_sweepBehind_L2_2 n2) (m_X6_sweepBehind_L30_7 (m_X6_sweepBehind_L2_2 n2) n7) n84)) ((st_cg rfl (congrArg rl m94) m120).trans (AB_ast hF113 eF121).symm)) (Eq.refl ((nI q784) : Int32))) (Eq.refl (r20 : Int32))) (Eq.refl ((nI ((j13 * 5) + 5)) : Int32))) (Eq.refl ((nI (j13 * 5)) : Int32))) (Eq.refl ((nI j13) : Int32))) (Eq.refl rc)))
                have m125 : ((nI q784) + Int32.ofInt (1)) = (nI (q784 + 1)) := (congrArg (fun q : Int32 => q + Int32.ofInt (1)) rfl).trans (nI_add _ 1)
                refine lv_iinc (v := (nI (q784 + 1))) (lv' := [(7, .int (nI (q784 + 1))), (6, .int (nI 0)), (5, .int r20), (4, .int (nI ((j13 * 5) + 5))), (3, .int (nI (j13 * 5))), (2, .int (nI j13)), (0, .ref (ad 33)), (1, .ref (ad rc))]) S.1 S.2.1 dX6_sweepBehind_127 hl84 (k := 0) rfl (nI_add _ 1) (by decide) rfl (fun ls124 hl124 => ?_)
                refine lv_goto (tgt := 81) S.1 S.2.1 dX6_sweepBehind_130 (by decide) ?_
                have hE126 : M = (m_X6_sweepBehind_L81_84 (m_X6_sweepBehind_L2_2 n2) (m_X6_sweepBehind_L30_7 (m_X6_sweepBehind_L2_2 n2) n7) n84) (AB ad F121) (nI (q784 + 1)) r20 (nI ((j13 * 5) + 5)) (nI (j13 * 5)) (nI j13) rc := hE123.trans ((show m_X6_sweepBehind_122 (m_X6_sweepBehind_L2_2 n2) (m_X6_sweepBehind_L30_7 (m_X6_sweepBehind_L2_2 n2) n7) (m_X6_sweepBehind_L81_84 (m_X6_sweepBehind_L2_2 n2) (m_X6_sweepBehind_L30_7 (m_X6_sweepBehind_L2_2 n2) n7) n84) (AB ad F121) (nI q784) r20 (nI ((j13 * 5) + 5)) (nI (j13 * 5)) (nI j13) rc = (m_X6_sweepBehind_L81_84 (m_X6_sweepBehind_L2_2 n2) (m_X6_sweepBehind_L30_7 (m_X6_sweepBehind_L2_2 n2) n7) n84) (AB ad F121) ((nI q784) + Int32.ofInt (1)) r20 (nI ((j13 * 5) + 5)) (nI (j13 * 5)) (nI j13) rc from rfl).trans (congr (congr (congr (congr (congr (congr (congrArg ((m_X6_sweepBehind_L81_84 (m_X6_sweepBehind_L2_2 n2) (m_X6_sweepBehind_L30_7 (m_X6_sweepBehind_L2_2 n2) n7) n84)) (rfl : AB ad F121 = AB ad F121)) m125) (Eq.refl (r20 : Int32))) (Eq.refl ((nI ((j13 * 5) + 5)) : Int32))) (Eq.refl ((nI (j13 * 5)) : Int32))) (Eq.refl ((nI j13) : Int32))) (Eq.refl rc)))
                exact ih84 (q784 + 1) F121 H121 locs121 (by omega) (by omega) hW121 hFr121 hP121 hS121 hE126 ls124 (lv_sub hl124 [0, 1, 2, 3, 4, 5, 6, 7] rfl)
            have hE127 : M = m_X6_sweepBehind_L81_84 (m_X6_sweepBehind_L2_2 n2) (m_X6_sweepBehind_L30_7 (m_X6_sweepBehind_L2_2 n2) n7) 2000 (AB ad Fl7) (nI 0) r20 (nI ((j13 * 5) + 5)) (nI (j13 * 5)) (nI j13) rc := hE8.trans ((show m_X6_sweepBehind_L30_7_b (m_X6_sweepBehind_L2_2 n2) (m_X6_sweepBehind_L30_7 (m_X6_sweepBehind_L2_2 n2) n7) (AB ad Fl7) (nI j13) rc = m_X6_sweepBehind_L81_84 (m_X6_sweepBehind_L2_2 n2) (m_X6_sweepBehind_L30_7 (m_X6_sweepBehind_L2_2 n2) n7) 2000 (AB ad Fl7) (nI 0) (m_X6_staysIn (AB ad Fl7) rc (nI j13) ((-1) : Int32)) (((nI j13) * (nI 5)) + (nI 5)) ((nI j13) * (nI 5)) (nI j13) rc from by unfold m_X6_sweepBehind_L30_7_b; rw [if_neg (nlt_cg rfl rfl c9), if_neg (neq_cg m26 rfl c27)]).trans (congr (congr (congr (congr (congr (congr (congrArg (m_X6_sweepBehind_L81_84 (m_X6_sweepBehind_L2_2 n2) (m_X6_sweepBehind_L30_7 (m_X6_sweepBehind_L2_2 n2) n7) 2000) (rfl : AB ad Fl7 = AB ad Fl7)) (Eq.refl ((nI 0) : Int32))) m22) m18) m15) (Eq.refl ((nI j13) : Int32))) (Eq.refl rc)))
            exact lp84 2000 (0) Fl7 Hl7 lol7 (by omega) (by omega) hWl7 hFl7 hPl7 hSl7 hE127 ls83 (lv_sub hl83 [0, 1, 2, 3, 4, 5, 6, 7] rfl)
        have kt128 := nI_toInt (n := 47) (by decide)
        have hE129 : M = m_X6_sweepBehind_L30_7 (m_X6_sweepBehind_L2_2 n2) 2000 (AB ad Fl2) (nI 47) rc := hE3.trans ((show m_X6_sweepBehind_L2_2_b (m_X6_sweepBehind_L2_2 n2) (AB ad Fl2) (nI q22) rc = m_X6_sweepBehind_L30_7 (m_X6_sweepBehind_L2_2 n2) 2000 (AB ad Fl2) (nI 47) rc from by unfold m_X6_sweepBehind_L2_2_b; rw [if_pos (le_cg rfl rfl c4)]).trans (congr (congr (congrArg (m_X6_sweepBehind_L30_7 (m_X6_sweepBehind_L2_2 n2) 2000) (rfl : AB ad Fl2 = AB ad Fl2)) (Eq.refl ((nI 47) : Int32))) (Eq.refl rc)))
        exact lp7 2000 ((nI 47)) Fl2 Hl2 lol2 (by omega) (by omega) (by omega) hWl2 hFl2 hPl2 hSl2 hE129 ls6 (lv_sub hl6 [0, 1, 2] rfl)
      have k130 := ci_nle (nI_toInt (n := 5) (by decide)) (nI_toInt (n := q22) (by omega)) c4
      refine lv_aload_n S.1 S.2.1 dX6_sweepBehind_7 rfl (lv_at hl2 1 rfl) ?_
      obtain ⟨k131, hF131, hk131⟩ := wt_ways hWl2
      refine r_get S hK hPl2 33 (by decide) hF131 (C := RX6) (T := TX6) (N := 6) hiX6 rfl 5 (by decide) (am_at in_wsX6_sweepBehind_0 0 rfl) (v := .ref (ad 38)) rfl dX6_sweepBehind_8 ?_
      refine lv_sipush (v := (nI 240)) S.1 S.2.1 dX6_sweepBehind_11 (by decide +kernel) ?_
      refine lv_iload_n S.1 S.2.1 dX6_sweepBehind_14 rfl (lv_at hl2 0 rfl) ?_
      refine lv_iadd S.1 S.2.1 dX6_sweepBehind_15 ?_
      refine lv_topi (fun v132 e132 => ?_)
      obtain rfl : v132 = nI (240 + q22) := e132.trans (nI_add _ _)
      have m133 : ((nI 240) + (nI q22)) = (nI (240 + q22)) := cg2 (fun (x : Int32) (y : Int32) => x + y) (Eq.refl ((nI 240) : Int32)) (Eq.refl ((nI q22) : Int32)) e132
      refine lv_aload_n S.1 S.2.1 dX6_sweepBehind_16 rfl (lv_at hl2 2 rfl) ?_
      obtain ⟨sl135, fm135, tn135, rn135, bn135, hF135, hb135_1, hb135_2, hb135_3⟩ := wt_C hWl2 hrc
      refine r_cVp (As := []) (rest := [.int (nI (240 + q22)), .ref (ad 38)]) S hK hZ hPl2 hSl2 hl2.1 rc (lt_C hrc) hF135 (C := RX0) rfl (c_X0_allTowns l D cA ad t hI Fl2 hWl2 rc hrc) (cwV 0 S.2.2.2.2 gX6_sweepBehind_X0_allTowns rfl rfl rfl (by decide +kernel) ⟨Nat.le_of_ble_eq_true rfl, Nat.le_of_ble_eq_true rfl⟩) rfl rfl (Nat.le_of_ble_eq_true rfl) ⟨Nat.zero_le _, Nat.zero_le _⟩ dX6_sweepBehind_17 (fun r134 hr134 => ?_)
      obtain ⟨hr134, hm134⟩ := hr134
      obtain ⟨ka136, hka136, ea136⟩ := hr134
      have m137 : (m_X0_allTowns (AB ad Fl2) rc) = r134 := (congr (Eq.refl (m_X0_allTowns (AB ad Fl2))) (Eq.refl rc)).trans hm134
      obtain ⟨g138, hF138, hg138⟩ := wt_I hWl2 (show (38, 245) ∈ rLI by decide)
      refine r_iast S hI hK hPl2 hSl2 38 (by decide) hF138 (vp_in_nI (show 240 + q22 < 245 by omega) (by omega)) dX6_sweepBehind_20 (fun F139 H139 locs139 eF139 hP139 hS139 => ?_)
      have hW139 := hWl2.up eF139 (ok_I (show (38, 245) ∈ rLI by decide) (okI_up hg138 (pr_of (by decide))))
      have hFr139 := hFl2.up eF139 (by simp <;> first | omega | (simp only [isC, isJ] at *; omega))
      have hE141 : M = m_X6_sweepBehind_140 (m_X6_sweepBehind_L2_2 n2) (AB ad F139) (nI q22) rc := hE3.trans ((show m_X6_sweepBehind_L2_2_b (m_X6_sweepBehind_L2_2 n2) (AB ad Fl2) (nI q22) rc = m_X6_sweepBehind_140 (m_X6_sweepBehind_L2_2 n2) (st (AB ad Fl2) 38 (rl ((nI 240) + (nI q22))) (m_X0_allTowns (AB ad Fl2) rc)) (nI q22) rc from by unfold m_X6_sweepBehind_L2_2_b; rw [if_neg (nle_cg rfl rfl c4)]).trans (congr (congr (congrArg (m_X6_sweepBehind_140 (m_X6_sweepBehind_L2_2 n2)) ((st_cg rfl (congrArg rl m133) m137).trans (AB_ast hF138 eF139).symm)) (Eq.refl ((nI q22) : Int32))) (Eq.refl rc)))
      have m143 : ((nI q22) + Int32.ofInt (1)) = (nI (q22 + 1)) := (congrArg (fun q : Int32 => q + Int32.ofInt (1)) rfl).trans (nI_add _ 1)
      refine lv_iinc (v := (nI (q22 + 1))) (lv' := [(2, .int (nI (q22 + 1))), (0, .ref (ad 33)), (1, .ref (ad rc))]) S.1 S.2.1 dX6_sweepBehind_21 hl2 (k := 0) rfl (nI_add _ 1) (by decide) rfl (fun ls142 hl142 => ?_)
      refine lv_goto (tgt := 2) S.1 S.2.1 dX6_sweepBehind_24 (by decide) ?_
      have hE144 : M = (m_X6_sweepBehind_L2_2 n2) (AB ad F139) (nI (q22 + 1)) rc := hE141.trans ((show m_X6_sweepBehind_140 (m_X6_sweepBehind_L2_2 n2) (AB ad F139) (nI q22) rc = (m_X6_sweepBehind_L2_2 n2) (AB ad F139) ((nI q22) + Int32.ofInt (1)) rc from rfl).trans (congr (congr (congrArg ((m_X6_sweepBehind_L2_2 n2)) (rfl : AB ad F139 = AB ad F139)) m143) (Eq.refl rc)))
      exact ih2 (q22 + 1) F139 H139 locs139 (by omega) (by omega) hW139 hFr139 hP139 hS139 hE144 ls142 (lv_sub hl142 [0, 1, 2] rfl)
  have hE145 : M = m_X6_sweepBehind_L2_2 2000 (AB ad F) (nI 0) rc := hM.trans ((show m_X6_sweepBehind (AB ad F) rc = m_X6_sweepBehind_L2_2 2000 (AB ad F) (nI 0) rc from rfl).trans (congr (congr (congrArg (m_X6_sweepBehind_L2_2 2000) (rfl : AB ad F = AB ad F)) (Eq.refl ((nI 0) : Int32))) (Eq.refl rc)))
  exact lp2 2000 (0) F s.heap [] (by omega) (by omega) hW hFr hP hS hE145 ls1 (lv_sub hl1 [0, 1, 2] rfl)
noncomputable def m_X6_sweepBoth_7 (σ : SS) (a0 : Nat) : SS :=
  σ
noncomputable def m_X6_sweepBoth_3 (σ : SS) (a0 : Nat) : SS :=
  m_X6_sweepBoth_7 (m_X6_sweepBehind σ a0) a0
noncomputable def m_X6_sweepBoth (σ : SS) (a0 : Nat) : SS :=
  m_X6_sweepBoth_3 (m_X6_sweepAhead σ a0 ((-1) : Int32)) a0
set_option maxHeartbeats 4000000 in
set_option maxRecDepth 100000 in
theorem c_X6_sweepBoth (l : Launch) (D : va_G) (cA ad : Nat → Nat) (t : Nat) (hI : rI ad) (F : Nat → va_E) (hW : WT cA ad F) (rc : Nat) (hrc : isC rc) : MV l D cA ad t yX6_sweepBoth wsX6_sweepBoth { frames := 4, cells := 0, slots := 0, locals := 96 } [.ref (ad 33), .ref (ad rc)] F (fun F' => WT cA ad F' ∧ rFr [36, 37, 38] F F' ∧ ((True) ∧ m_X6_sweepBoth (AB ad F) rc = AB ad F')) := by
  refine en_V rfl (by decide +kernel) (Nat.le_of_ble_eq_true rfl) ?_
  intro p e s m args below meth c ls0 Q S hK hZ hP hS hl0 hret
  have hl0 : lv_has ls0 2 [(0, .ref (ad 33)), (1, .ref (ad rc))] := hl0
  have hFr : rFr [36, 37, 38] F F := rFr.rf
  obtain ⟨M, hM⟩ : ∃ M, M = m_X6_sweepBoth (AB ad F) rc := ⟨_, rfl⟩
  refine lv_aload_n S.1 S.2.1 dX6_sweepBoth_0 rfl (lv_at hl0 0 rfl) ?_
  refine lv_aload_n S.1 S.2.1 dX6_sweepBoth_1 rfl (lv_at hl0 1 rfl) ?_
  refine lv_iconst (v := (-1)) S.1 S.2.1 dX6_sweepBoth_2 (by decide +kernel) ?_
  obtain ⟨k2, hF2, hk2⟩ := wt_ways hW
  refine r_cVv (As := [.ref (ad rc), .int (-1)]) (rest := []) S hK hZ hP hS hl0.1 33 (by decide) hF2 (C := RX6) rfl (c_X6_sweepAhead l D cA ad t hI F hW rc hrc (-1)) (cwV 2 S.2.2.2.2 gX6_sweepBoth_X6_sweepAhead rfl rfl rfl (by decide +kernel) ⟨Nat.le_of_ble_eq_true rfl, Nat.le_of_ble_eq_true rfl⟩) rfl rfl (Nat.le_of_ble_eq_true rfl) ⟨Nat.zero_le _, Nat.zero_le _⟩ dX6_sweepBoth_3 (fun F1 H1 locs1 hr1 hP1 hS1 => ?_)
  obtain ⟨hW1, hFc1, hr1⟩ := hr1
  obtain ⟨hr1, hm1⟩ := hr1
  have hFr1 := hFr.tr hFc1 (by simp <;> first | omega | (simp only [isC, isJ] at *; omega))
  have hE4 : M = m_X6_sweepBoth_3 (AB ad F1) rc := hM.trans ((show m_X6_sweepBoth (AB ad F) rc = m_X6_sweepBoth_3 (m_X6_sweepAhead (AB ad F) rc ((-1) : Int32)) rc from rfl).trans (congr (congrArg (m_X6_sweepBoth_3) ((congr (congr (Eq.refl (m_X6_sweepAhead (AB ad F))) (Eq.refl rc)) (Eq.refl ((-1) : Int32))).trans hm1)) (Eq.refl rc)))
  refine lv_aload_n S.1 S.2.1 dX6_sweepBoth_6 rfl (lv_at hl0 0 rfl) ?_
  refine lv_aload_n S.1 S.2.1 dX6_sweepBoth_7 rfl (lv_at hl0 1 rfl) ?_
  have hF6 := (hFc1 33 (by decide)).trans hF2
  refine r_cVv (As := [.ref (ad rc)]) (rest := []) S hK hZ hP1 hS1 hl0.1 33 (by decide) hF6 (C := RX6) rfl (c_X6_sweepBehind l D cA ad t hI F1 hW1 rc hrc) (cwV 1 S.2.2.2.2 gX6_sweepBoth_X6_sweepBehind rfl rfl rfl (by decide +kernel) ⟨Nat.le_of_ble_eq_true rfl, Nat.le_of_ble_eq_true rfl⟩) rfl rfl (Nat.le_of_ble_eq_true rfl) ⟨Nat.zero_le _, Nat.zero_le _⟩ dX6_sweepBoth_8 (fun F5 H5 locs5 hr5 hP5 hS5 => ?_)
  obtain ⟨hW5, hFc5, hr5⟩ := hr5
  obtain ⟨hr5, hm5⟩ := hr5
  have hFr5 := hFr1.tr hFc5 (by simp <;> first | omega | (simp only [isC, isJ] at *; omega))
  have hE8 : M = m_X6_sweepBoth_7 (AB ad F5) rc := hE4.trans ((show m_X6_sweepBoth_3 (AB ad F1) rc = m_X6_sweepBoth_7 (m_X6_sweepBehind (AB ad F1) rc) rc from rfl).trans (congr (congrArg (m_X6_sweepBoth_7) ((congr (Eq.refl (m_X6_sweepBehind (AB ad F1))) (Eq.refl rc)).trans hm5)) (Eq.refl rc)))
  have hE9 : M = AB ad F5 := hE8.trans ((show m_X6_sweepBoth_7 (AB ad F5) rc = (AB ad F5) from rfl).trans rfl)
  exact hret 11 _ _ _ _ dX6_sweepBoth_11 hP5 hS5 ⟨hW5, hFr5, ⟨trivial, hM.symm.trans hE9⟩⟩
noncomputable def m_X6_someWay_3 (σ : SS) (a0 : Nat) (a1 : Int32) : Int32 × SS :=
  if (m_X6_union σ 37 (nI 48)) = (0 : Int32) then
    ((nI 0), σ)
  else
    ((nI 1), σ)
noncomputable def m_X6_someWay (σ : SS) (a0 : Nat) (a1 : Int32) : Int32 × SS :=
  m_X6_someWay_3 (m_X6_sweepAhead σ a0 a1) a0 a1
set_option maxHeartbeats 4000000 in
set_option maxRecDepth 100000 in
theorem c_X6_someWay (l : Launch) (D : va_G) (cA ad : Nat → Nat) (t : Nat) (hI : rI ad) (F : Nat → va_E) (hW : WT cA ad F) (rc : Nat) (hrc : isC rc) (p2 : Int32) : MI l D cA ad t yX6_someWay wsX6_someWay { frames := 4, cells := 0, slots := 0, locals := 96 } [.ref (ad 33), .ref (ad rc), .int p2] F (fun r F' => WT cA ad F' ∧ rFr [36, 37] F F' ∧ ((le32 1 r) ∧ m_X6_someWay (AB ad F) rc p2 = (r, AB ad F'))) := by
  refine en_I rfl (by decide +kernel) (Nat.le_of_ble_eq_true rfl) ?_
  intro p e s m args below meth c ls0 Q S hK hZ hP hS hl0 hret
  have hl0 : lv_has ls0 3 [(0, .ref (ad 33)), (1, .ref (ad rc)), (2, .int p2)] := hl0
  have hFr : rFr [36, 37] F F := rFr.rf
  have hiX6 : ∀ w ∈ u_ws RX6 TX6 6, w ∈ wsX6_someWay := in_wsX6_someWay_3
  obtain ⟨M, hM⟩ : ∃ M, M = m_X6_someWay (AB ad F) rc p2 := ⟨_, rfl⟩
  refine lv_aload_n S.1 S.2.1 dX6_someWay_0 rfl (lv_at hl0 0 rfl) ?_
  refine lv_aload_n S.1 S.2.1 dX6_someWay_1 rfl (lv_at hl0 1 rfl) ?_
  refine lv_iload_n S.1 S.2.1 dX6_someWay_2 rfl (lv_at hl0 2 rfl) ?_
  obtain ⟨k2, hF2, hk2⟩ := wt_ways hW
  refine r_cVv (As := [.ref (ad rc), .int p2]) (rest := []) S hK hZ hP hS hl0.1 33 (by decide) hF2 (C := RX6) rfl (c_X6_sweepAhead l D cA ad t hI F hW rc hrc p2) (cwV 2 S.2.2.2.2 gX6_someWay_X6_sweepAhead rfl rfl rfl (by decide +kernel) ⟨Nat.le_of_ble_eq_true rfl, Nat.le_of_ble_eq_true rfl⟩) rfl rfl (Nat.le_of_ble_eq_true rfl) ⟨Nat.zero_le _, Nat.zero_le _⟩ dX6_someWay_3 (fun F1 H1 locs1 hr1 hP1 hS1 => ?_)
  obtain ⟨hW1, hFc1, hr1⟩ := hr1
  obtain ⟨hr1, hm1⟩ := hr1
  have hFr1 := hFr.tr hFc1 (by simp <;> first | omega | (simp only [isC, isJ] at *; omega))
  have hE4 : M = m_X6_someWay_3 (AB ad F1) rc p2 := hM.trans ((show m_X6_someWay (AB ad F) rc p2 = m_X6_someWay_3 (m_X6_sweepAhead (AB ad F) rc p2) rc p2 from rfl).trans (congr (congr (congrArg (m_X6_someWay_3) ((congr (congr (Eq.refl (m_X6_sweepAhead (AB ad F))) (Eq.refl rc)) (Eq.refl (p2 : Int32))).trans hm1)) (Eq.refl rc)) (Eq.refl (p2 : Int32))))
  refine lv_aload_n S.1 S.2.1 dX6_someWay_6 rfl (lv_at hl0 0 rfl) ?_
  have hF5 := (hFc1 33 (by decide)).trans hF2
  refine r_get S hK hP1 33 (by decide) hF5 (C := RX6) (T := TX6) (N := 6) hiX6 rfl 4 (by decide) (am_at in_wsX6_someWay_0 0 rfl) (v := .ref (ad 37)) rfl dX6_someWay_7 ?_
  refine lv_bipush (v := (nI 48)) S.1 S.2.1 dX6_someWay_10 (by decide +kernel) ?_
  refine r_cSp (As := [.ref (ad 37), .int (nI 48)]) (rest := []) S hK hZ hP1 hS1 hl0.1 (c_X6_union l D cA ad t hI F1 hW1 37 (show (37, 245) ∈ rLI by decide) (by decide) (48) (by omega)) (va_cwS 2 S.2.2.2.2 gX6_someWay_X6_union rfl rfl rfl (by decide +kernel) ⟨Nat.le_of_ble_eq_true rfl, Nat.le_of_ble_eq_true rfl⟩) rfl rfl (Nat.le_of_ble_eq_true rfl) ⟨Nat.zero_le _, Nat.zero_le _⟩ dX6_someWay_12 (fun r6 hr6 => ?_)
  obtain ⟨hr6, hm6⟩ := hr6
  have m7 : (m_X6_union (AB ad F1) 37 (nI 48)) = r6 := (congr (congr (Eq.refl (m_X6_union (AB ad F1))) (Eq.refl 37)) (Eq.refl ((nI 48) : Int32))).trans hm6
  refine lv_if_eq (tgt := 22) S.1 S.2.1 dX6_someWay_15 (by decide) (fun c8 => ?_) (fun c8 => ?_)
  · skip
    have k9 := ci_eq rfl z_ti c8
    refine lv_iconst (v := (nI 0)) S.1 S.2.1 dX6_someWay_22 (by decide +kernel) ?_
    have hE10 : M = ((nI 0), AB ad F1) := hE4.trans ((show m_X6_someWay_3 (AB ad F1) rc p2 = ((nI 0), (AB ad F1)) from by unfold m_X6_someWay_3; rw [if_pos (eq_cg m7 rfl c8)]).trans (congrArg (fun q => (q, AB ad F1)) rfl))
    exact hret 23 _ _ _ _ _ dX6_someWay_23 rfl hP1 hS1 ⟨hW1, hFr1, ⟨⟨0, by omega, rfl⟩, hM.symm.trans hE10⟩⟩
  have k11 := ci_ne rfl z_ti c8
  refine lv_iconst (v := (nI 1)) S.1 S.2.1 dX6_someWay_18 (by decide +kernel) ?_
  refine lv_goto (tgt := 23) S.1 S.2.1 dX6_someWay_19 (by decide) ?_
  have hE12 : M = ((nI 1), AB ad F1) := hE4.trans ((show m_X6_someWay_3 (AB ad F1) rc p2 = ((nI 1), (AB ad F1)) from by unfold m_X6_someWay_3; rw [if_neg (neq_cg m7 rfl c8)]).trans (congrArg (fun q => (q, AB ad F1)) rfl))
  exact hret 23 _ _ _ _ _ dX6_someWay_23 rfl hP1 hS1 ⟨hW1, hFr1, ⟨⟨1, by omega, rfl⟩, hM.symm.trans hE12⟩⟩
noncomputable def m_X6_boughtSeals_22 (k0 : SS → Int32 → Int32 → Nat → Int32 × SS) (σ : SS) (a0 : Int32) (a1 : Int32) (a2 : Nat) (a3 : Int32) : Int32 × SS :=
  if a3 = (0 : Int32) then
    k0 σ (a0 + Int32.ofInt (1)) a1 a2
  else
    k0 σ (a0 + Int32.ofInt (1)) (a1 ||| ((nI 1) <<< (a0 &&& 31))) a2
noncomputable def m_X6_boughtSeals_L15_11_b (k0 : SS → Int32 → Int32 → Nat → Int32 × SS) (σ : SS) (a0 : Int32) (a1 : Int32) (a2 : Nat) : Int32 × SS :=
  if (σ 33 0) ≤ a0 then
    (a1, σ)
  else
    m_X6_boughtSeals_22 k0 ((m_X6_someWay σ a2 a0)).2 a0 a1 a2 ((m_X6_someWay σ a2 a0)).1
noncomputable def m_X6_boughtSeals_L15_11 : Nat → SS → Int32 → Int32 → Nat → Int32 × SS
  | 0 => fun σ _ _ _ => (0, σ)
  | n + 1 => m_X6_boughtSeals_L15_11_b (m_X6_boughtSeals_L15_11 n)
noncomputable def m_X6_boughtSeals_5 (σ : SS) (a0 : Nat) (a1 : Int32) : Int32 × SS :=
  if a1 = (0 : Int32) then
    m_X6_boughtSeals_L15_11 2000 σ (nI 0) (nI 0) a0
  else
    ((nI 0), σ)
noncomputable def m_X6_boughtSeals (σ : SS) (a0 : Nat) : Int32 × SS :=
  m_X6_boughtSeals_5 ((m_X6_someWay σ a0 ((-1) : Int32))).2 a0 ((m_X6_someWay σ a0 ((-1) : Int32))).1
set_option maxHeartbeats 4000000 in
set_option maxRecDepth 100000 in
theorem c_X6_boughtSeals (l : Launch) (D : va_G) (cA ad : Nat → Nat) (t : Nat) (hI : rI ad) (F : Nat → va_E) (hW : WT cA ad F) (rc : Nat) (hrc : isC rc) : MI l D cA ad t yX6_boughtSeals wsX6_boughtSeals { frames := 5, cells := 0, slots := 0, locals := 118 } [.ref (ad 33), .ref (ad rc)] F (fun r F' => WT cA ad F' ∧ rFr [36, 37] F F' ∧ ((True) ∧ m_X6_boughtSeals (AB ad F) rc = (r, AB ad F'))) := by
  refine en_I rfl (by decide +kernel) (Nat.le_of_ble_eq_true rfl) ?_
  intro p e s m args below meth c ls0 Q S hK hZ hP hS hl0 hret
  have hl0 : lv_has ls0 4 [(0, .ref (ad 33)), (1, .ref (ad rc))] := hl0
  have hFr : rFr [36, 37] F F := rFr.rf
  have hiX6 : ∀ w ∈ u_ws RX6 TX6 6, w ∈ wsX6_boughtSeals := in_wsX6_boughtSeals_3
  obtain ⟨M, hM⟩ : ∃ M, M = m_X6_boughtSeals (AB ad F) rc := ⟨_, rfl⟩
  refine lv_aload_n S.1 S.2.1 dX6_boughtSeals_0 rfl (lv_at hl0 0 rfl) ?_
  refine lv_aload_n S.1 S.2.1 dX6_boughtSeals_1 rfl (lv_at hl0 1 rfl) ?_
  refine lv_iconst (v := (-1)) S.1 S.2.1 dX6_boughtSeals_2 (by decide +kernel) ?_
  obtain ⟨k2, hF2, hk2⟩ := wt_ways hW
  refine r_cVi (As := [.ref (ad rc), .int (-1)]) (rest := []) S hK hZ hP hS hl0.1 33 (by decide) hF2 (C := RX6) rfl (c_X6_someWay l D cA ad t hI F hW rc hrc (-1)) (cwV 2 S.2.2.2.2 gX6_boughtSeals_X6_someWay rfl rfl rfl (by decide +kernel) ⟨Nat.le_of_ble_eq_true rfl, Nat.le_of_ble_eq_true rfl⟩) rfl rfl (Nat.le_of_ble_eq_true rfl) ⟨Nat.zero_le _, Nat.zero_le _⟩ dX6_boughtSeals_3 (fun r1 F1 H1 locs1 hr1 hP1 hS1 => ?_)
  obtain ⟨hW1, hFc1, hr1⟩ := hr1
  obtain ⟨hr1, hm1⟩ := hr1
  have hFr1 := hFr.tr hFc1 (by simp <;> first | omega | (simp only [isC, isJ] at *; omega))
  obtain ⟨b3, hb3, rfl⟩ := hr1
  have mc4 : (m_X6_someWay (AB ad F) rc ((-1) : Int32)) = ((nI b3), AB ad F1) := (congr (congr (Eq.refl (m_X6_someWay (AB ad F))) (Eq.refl rc)) (Eq.refl ((-1) : Int32))).trans hm1
  have hE6 : M = m_X6_boughtSeals_5 (AB ad F1) rc (nI b3) := hM.trans ((show m_X6_boughtSeals (AB ad F) rc = m_X6_boughtSeals_5 ((m_X6_someWay (AB ad F) rc ((-1) : Int32))).2 rc ((m_X6_someWay (AB ad F) rc ((-1) : Int32))).1 from rfl).trans (congr (congr (congrArg (m_X6_boughtSeals_5) (congrArg Prod.snd mc4)) (Eq.refl rc)) (congrArg Prod.fst mc4)))
  refine lv_if_eq (tgt := 11) S.1 S.2.1 dX6_boughtSeals_6 (by decide) (fun c7 => ?_) (fun c7 => ?_)
  · skip
    have k8 := ci_eq (nI_toInt (n := b3) (Nat.lt_of_le_of_lt hb3 (by decide))) z_ti c7
    refine lv_iconst (v := (nI 0)) S.1 S.2.1 dX6_boughtSeals_11 (by decide +kernel) ?_
    refine lv_istore_n (lv' := [(2, .int (nI 0)), (0, .ref (ad 33)), (1, .ref (ad rc))]) S.1 S.2.1 dX6_boughtSeals_12 rfl hl0 (by decide) rfl (fun ls9 hl9 => ?_)
    refine lv_iconst (v := (nI 0)) S.1 S.2.1 dX6_boughtSeals_13 (by decide +kernel) ?_
    refine lv_istore_n (lv' := [(3, .int (nI 0)), (2, .int (nI 0)), (0, .ref (ad 33)), (1, .ref (ad rc))]) S.1 S.2.1 dX6_boughtSeals_14 rfl hl9 (by decide) rfl (fun ls10 hl10 => ?_)
    have lp11 : ∀ (n11 : Nat) (q311 : Nat) (x11_2 : Int32), ∀ (Fl11 : Nat → va_E) (Hl11 : Heap) (lol11 : List Loc), q311 ≤ 8 → 8 - q311 < n11 → WT cA ad Fl11 → rFr [36, 37] F Fl11 → va_P D vwCl (rW ad Fl11) Hl11 → va_S (rA ad) s.heap Hl11 lol11 → M = m_X6_boughtSeals_L15_11 n11 (AB ad Fl11) (nI q311) x11_2 rc → ∀ (ls : Array Slot), lv_has ls 4 [(3, .int (nI q311)), (2, .int x11_2), (0, .ref (ad 33)), (1, .ref (ad rc))] → W p l e { frames := 5, cells := 0, slots := 0, locals := 118 } s m args below meth c Hl11 lol11 0 0 Q (F0 m 15 ls []) := by
      intro n11
      induction n11 with
      | zero =>
        intro q311 x11_2 Fl11 Hl11 lol11 iv11_0 hm11 hWl11 hFl11 hPl11 hSl11 hEl11 ls11 hl11
        exact absurd hm11 (Nat.not_lt_zero _)
      | succ n11 ih11 =>
        intro q311 x11_2 Fl11 Hl11 lol11 iv11_0 hm11 hWl11 hFl11 hPl11 hSl11 hEl11 ls11 hl11
        have hE12 : M = m_X6_boughtSeals_L15_11_b (m_X6_boughtSeals_L15_11 n11) (AB ad Fl11) (nI q311) x11_2 rc := hEl11
        refine lv_iload_n S.1 S.2.1 dX6_boughtSeals_15 rfl (lv_at hl11 0 rfl) ?_
        refine lv_aload_n S.1 S.2.1 dX6_boughtSeals_16 rfl (lv_at hl11 2 rfl) ?_
        obtain ⟨k13, hF13, hk13⟩ := wt_ways hWl11
        refine r_get S hK hPl11 33 (by decide) hF13 (C := RX6) (T := TX6) (N := 6) hiX6 rfl 0 (by decide) (am_at in_wsX6_boughtSeals_0 0 rfl) (v := .int (nI k13)) rfl dX6_boughtSeals_17 ?_
        have m14 : ((AB ad Fl11) 33 0) = (nI k13) := AB_f hF13 rfl
        refine lv_icmp_ge (tgt := 44) S.1 S.2.1 dX6_boughtSeals_20 (by decide) (fun c15 => ?_) (fun c15 => ?_)
        · skip
          have k16 := ci_le (nI_toInt (n := k13) (by omega)) (nI_toInt (n := q311) (by omega)) c15
          refine lv_iload_n S.1 S.2.1 dX6_boughtSeals_44 rfl (lv_at hl11 1 rfl) ?_
          have hE17 : M = (x11_2, AB ad Fl11) := hE12.trans ((show m_X6_boughtSeals_L15_11_b (m_X6_boughtSeals_L15_11 n11) (AB ad Fl11) (nI q311) x11_2 rc = (x11_2, (AB ad Fl11)) from by unfold m_X6_boughtSeals_L15_11_b; rw [if_pos (le_cg m14 rfl c15)]).trans (congrArg (fun q => (q, AB ad Fl11)) rfl))
          exact hret 45 _ _ _ _ _ dX6_boughtSeals_45 rfl hPl11 hSl11 ⟨hWl11, hFl11, ⟨trivial, hM.symm.trans hE17⟩⟩
        have k18 := ci_nle (nI_toInt (n := k13) (by omega)) (nI_toInt (n := q311) (by omega)) c15
        refine lv_aload_n S.1 S.2.1 dX6_boughtSeals_23 rfl (lv_at hl11 2 rfl) ?_
        refine lv_aload_n S.1 S.2.1 dX6_boughtSeals_24 rfl (lv_at hl11 3 rfl) ?_
        refine lv_iload_n S.1 S.2.1 dX6_boughtSeals_25 rfl (lv_at hl11 0 rfl) ?_
        refine r_cVi (As := [.ref (ad rc), .int (nI q311)]) (rest := []) S hK hZ hPl11 hSl11 hl11.1 33 (by decide) hF13 (C := RX6) rfl (c_X6_someWay l D cA ad t hI Fl11 hWl11 rc hrc (nI q311)) (cwV 2 S.2.2.2.2 gX6_boughtSeals_X6_someWay rfl rfl rfl (by decide +kernel) ⟨Nat.le_of_ble_eq_true rfl, Nat.le_of_ble_eq_true rfl⟩) rfl rfl (Nat.le_of_ble_eq_true rfl) ⟨Nat.zero_le _, Nat.zero_le _⟩ dX6_boughtSeals_26 (fun r19 F19 H19 locs19 hr19 hP19 hS19 => ?_)
        obtain ⟨hW19, hFc19, hr19⟩ := hr19
        obtain ⟨hr19, hm19⟩ := hr19
        have hFr19 := hFl11.tr hFc19 (by simp <;> first | omega | (simp only [isC, isJ] at *; omega))
        obtain ⟨b20, hb20, rfl⟩ := hr19
        have mc21 : (m_X6_someWay (AB ad Fl11) rc (nI q311)) = ((nI b20), AB ad F19) := (congr (congr (Eq.refl (m_X6_someWay (AB ad Fl11))) (Eq.refl rc)) (Eq.refl ((nI q311) : Int32))).trans hm19
        have hE23 : M = m_X6_boughtSeals_22 (m_X6_boughtSeals_L15_11 n11) (AB ad F19) (nI q311) x11_2 rc (nI b20) := hE12.trans ((show m_X6_boughtSeals_L15_11_b (m_X6_boughtSeals_L15_11 n11) (AB ad Fl11) (nI q311) x11_2 rc = m_X6_boughtSeals_22 (m_X6_boughtSeals_L15_11 n11) ((m_X6_someWay (AB ad Fl11) rc (nI q311))).2 (nI q311) x11_2 rc ((m_X6_someWay (AB ad Fl11) rc (nI q311))).1 from by unfold m_X6_boughtSeals_L15_11_b; rw [if_neg (nle_cg m14 rfl c15)]).trans (congr (congr (congr (congr (congrArg (m_X6_boughtSeals_22 (m_X6_boughtSeals_L15_11 n11)) (congrArg Prod.snd mc21)) (Eq.refl ((nI q311) : Int32))) (Eq.refl (x11_2 : Int32))) (Eq.refl rc)) (congrArg Prod.fst mc21)))
        refine lv_if_eq (tgt := 38) S.1 S.2.1 dX6_boughtSeals_29 (by decide) (fun c24 => ?_) (fun c24 => ?_)
        · skip
          have k25 := ci_eq (nI_toInt (n := b20) (Nat.lt_of_le_of_lt hb20 (by decide))) z_ti c24
          have m27 : ((nI q311) + Int32.ofInt (1)) = (nI (q311 + 1)) := (congrArg (fun q : Int32 => q + Int32.ofInt (1)) rfl).trans (nI_add _ 1)
          refine lv_iinc (v := (nI (q311 + 1))) (lv' := [(3, .int (nI (q311 + 1))), (2, .int x11_2), (0, .ref (ad 33)), (1, .ref (ad rc))]) S.1 S.2.1 dX6_boughtSeals_38 hl11 (k := 0) rfl (nI_add _ 1) (by decide) rfl (fun ls26 hl26 => ?_)
          refine lv_goto (tgt := 15) S.1 S.2.1 dX6_boughtSeals_41 (by decide) ?_
          have hE28 : M = (m_X6_boughtSeals_L15_11 n11) (AB ad F19) (nI (q311 + 1)) x11_2 rc := hE23.trans ((show m_X6_boughtSeals_22 (m_X6_boughtSeals_L15_11 n11) (AB ad F19) (nI q311) x11_2 rc (nI b20) = (m_X6_boughtSeals_L15_11 n11) (AB ad F19) ((nI q311) + Int32.ofInt (1)) x11_2 rc from by unfold m_X6_boughtSeals_22; rw [if_pos (eq_cg rfl rfl c24)]).trans (congr (congr (congr (congrArg ((m_X6_boughtSeals_L15_11 n11)) (rfl : AB ad F19 = AB ad F19)) m27) (Eq.refl (x11_2 : Int32))) (Eq.refl rc)))
          exact ih11 (q311 + 1) (x11_2) F19 H19 locs19 (by omega) (by omega) hW19 hFr19 hP19 hS19 hE28 ls26 (lv_sub hl26 [0, 1, 2, 3] rfl)
        have k29 := ci_ne (nI_toInt (n := b20) (Nat.lt_of_le_of_lt hb20 (by decide))) z_ti c24
        refine lv_iload_n S.1 S.2.1 dX6_boughtSeals_32 rfl (lv_at hl11 1 rfl) ?_
        refine lv_iconst (v := (nI 1)) S.1 S.2.1 dX6_boughtSeals_33 (by decide +kernel) ?_
        refine lv_iload_n S.1 S.2.1 dX6_boughtSeals_34 rfl (lv_at hl11 0 rfl) ?_
        refine lv_ishl S.1 S.2.1 dX6_boughtSeals_35 ?_
        refine lv_topi (fun v30 e30 => ?_)
        have m31 : ((nI 1) <<< ((nI q311) &&& 31)) = v30 := cg2 (fun (x : Int32) (y : Int32) => x <<< (y &&& 31)) (Eq.refl ((nI 1) : Int32)) (Eq.refl ((nI q311) : Int32)) e30
        refine lv_ior S.1 S.2.1 dX6_boughtSeals_36 ?_
        refine lv_topi (fun v32 e32 => ?_)
        have m33 : (x11_2 ||| ((nI 1) <<< ((nI q311) &&& 31))) = v32 := cg2 (fun (x : Int32) (y : Int32) => x ||| y) (Eq.refl (x11_2 : Int32)) m31 e32
        refine lv_istore_n (lv' := [(2, .int v32), (3, .int (nI q311)), (0, .ref (ad 33)), (1, .ref (ad rc))]) S.1 S.2.1 dX6_boughtSeals_37 rfl hl11 (by decide) rfl (fun ls34 hl34 => ?_)
        have m36 : ((nI q311) + Int32.ofInt (1)) = (nI (q311 + 1)) := (congrArg (fun q : Int32 => q + Int32.ofInt (1)) rfl).trans (nI_add _ 1)
        refine lv_iinc (v := (nI (q311 + 1))) (lv' := [(3, .int (nI (q311 + 1))), (2, .int v32), (0, .ref (ad 33)), (1, .ref (ad rc))]) S.1 S.2.1 dX6_boughtSeals_38 hl34 (k := 1) rfl (nI_add _ 1) (by decide) rfl (fun ls35 hl35 => ?_)
        refine lv_goto (tgt := 15) S.1 S.2.1 dX6_boughtSeals_41 (by decide) ?_
        have hE37 : M = (m_X6_boughtSeals_L15_11 n11) (AB ad F19) (nI (q311 + 1)) v32 rc := hE23.trans ((show m_X6_boughtSeals_22 (m_X6_boughtSeals_L15_11 n11) (AB ad F19) (nI q311) x11_2 rc (nI b20) = (m_X6_boughtSeals_L15_11 n11) (AB ad F19) ((nI q311) + Int32.ofInt (1)) (x11_2 ||| ((nI 1) <<< ((nI q311) &&& 31))) rc from by unfold m_X6_boughtSeals_22; rw [if_neg (neq_cg rfl rfl c24)]).trans (congr (congr (congr (congrArg ((m_X6_boughtSeals_L15_11 n11)) (rfl : AB ad F19 = AB ad F19)) m36) m33) (Eq.refl rc)))
        exact ih11 (q311 + 1) (v32) F19 H19 locs19 (by omega) (by omega) hW19 hFr19 hP19 hS19 hE37 ls35 (lv_sub hl35 [0, 1, 2, 3] rfl)
    have hE38 : M = m_X6_boughtSeals_L15_11 2000 (AB ad F1) (nI 0) (nI 0) rc := hE6.trans ((show m_X6_boughtSeals_5 (AB ad F1) rc (nI b3) = m_X6_boughtSeals_L15_11 2000 (AB ad F1) (nI 0) (nI 0) rc from by unfold m_X6_boughtSeals_5; rw [if_pos (eq_cg rfl rfl c7)]).trans (congr (congr (congr (congrArg (m_X6_boughtSeals_L15_11 2000) (rfl : AB ad F1 = AB ad F1)) (Eq.refl ((nI 0) : Int32))) (Eq.refl ((nI 0) : Int32))) (Eq.refl rc)))
    exact lp11 2000 (0) ((nI 0)) F1 H1 locs1 (by omega) (by omega) hW1 hFr1 hP1 hS1 hE38 ls10 (lv_sub hl10 [0, 1, 2, 3] rfl)
  have k39 := ci_ne (nI_toInt (n := b3) (Nat.lt_of_le_of_lt hb3 (by decide))) z_ti c7
  refine lv_iconst (v := (nI 0)) S.1 S.2.1 dX6_boughtSeals_9 (by decide +kernel) ?_
  have hE40 : M = ((nI 0), AB ad F1) := hE6.trans ((show m_X6_boughtSeals_5 (AB ad F1) rc (nI b3) = ((nI 0), (AB ad F1)) from by unfold m_X6_boughtSeals_5; rw [if_neg (neq_cg rfl rfl c7)]).trans (congrArg (fun q => (q, AB ad F1)) rfl))
  exact hret 10 _ _ _ _ _ dX6_boughtSeals_10 rfl hP1 hS1 ⟨hW1, hFr1, ⟨trivial, hM.symm.trans hE40⟩⟩
noncomputable def m_X6_widestMonth_L6_4_b (k0 : SS → Int32 → Int32 → Int32 → Int32) (σ : SS) (a0 : Int32) (a1 : Int32) (a2 : Int32) : Int32 :=
  if (nI 48) < a0 then
    a2
  else
    if (m_J6_bitCount_0f7a4 σ (m_X6_townsAt σ a0)) ≤ a1 then
      k0 σ (a0 + Int32.ofInt (1)) a1 a2
    else
      k0 σ (a0 + Int32.ofInt (1)) (m_J6_bitCount_0f7a4 σ (m_X6_townsAt σ a0)) a0
noncomputable def m_X6_widestMonth_L6_4 : Nat → SS → Int32 → Int32 → Int32 → Int32
  | 0 => fun σ _ _ _ => 0
  | n + 1 => m_X6_widestMonth_L6_4_b (m_X6_widestMonth_L6_4 n)
noncomputable def m_X6_widestMonth (σ : SS) : Int32 :=
  m_X6_widestMonth_L6_4 2000 σ (nI 1) (nI 1) ((-1) : Int32)
set_option maxHeartbeats 4000000 in
set_option maxRecDepth 100000 in
theorem c_X6_widestMonth (l : Launch) (D : va_G) (cA ad : Nat → Nat) (t : Nat) (hI : rI ad) (F : Nat → va_E) (hW : WT cA ad F) : MP l D cA ad t yX6_widestMonth wsX6_widestMonth { frames := 1, cells := 0, slots := 0, locals := 23 } [.ref (ad 33)] F (fun r => (True) ∧ m_X6_widestMonth (AB ad F) = r) := by
  refine en_P rfl (by decide +kernel) (Nat.le_of_ble_eq_true rfl) ?_
  intro p e s m args below meth c ls0 Q S hK hZ hP hS hl0 hret
  have hl0 : lv_has ls0 5 [(0, .ref (ad 33))] := hl0
  obtain ⟨M, hM⟩ : ∃ M, M = m_X6_widestMonth (AB ad F) := ⟨_, rfl⟩
  refine lv_iconst (v := (-1)) S.1 S.2.1 dX6_widestMonth_0 (by decide +kernel) ?_
  refine lv_istore_n (lv' := [(1, .int (-1)), (0, .ref (ad 33))]) S.1 S.2.1 dX6_widestMonth_1 rfl hl0 (by decide) rfl (fun ls1 hl1 => ?_)
  refine lv_iconst (v := (nI 1)) S.1 S.2.1 dX6_widestMonth_2 (by decide +kernel) ?_
  refine lv_istore_n (lv' := [(2, .int (nI 1)), (1, .int (-1)), (0, .ref (ad 33))]) S.1 S.2.1 dX6_widestMonth_3 rfl hl1 (by decide) rfl (fun ls2 hl2 => ?_)
  refine lv_iconst (v := (nI 1)) S.1 S.2.1 dX6_widestMonth_4 (by decide +kernel) ?_
  refine lv_istore_n (lv' := [(3, .int (nI 1)), (2, .int (nI 1)), (1, .int (-1)), (0, .ref (ad 33))]) S.1 S.2.1 dX6_widestMonth_5 rfl hl2 (by decide) rfl (fun ls3 hl3 => ?_)
  have lp4 : ∀ (n4 : Nat) (q34 : Nat) (x4_2 : Int32) (x4_1 : Int32), 1 ≤ q34 ∧ q34 ≤ 49 → 49 - q34 < n4 → M = m_X6_widestMonth_L6_4 n4 (AB ad F) (nI q34) x4_2 x4_1 → ∀ (ls : Array Slot), lv_has ls 5 [(3, .int (nI q34)), (2, .int x4_2), (1, .int x4_1), (0, .ref (ad 33))] → W p l e { frames := 1, cells := 0, slots := 0, locals := 23 } s m args below meth c s.heap [] 0 0 Q (F0 m 6 ls []) := by
    intro n4
    induction n4 with
    | zero =>
      intro q34 x4_2 x4_1 iv4_0 hm4 hEl4 ls4 hl4
      exact absurd hm4 (Nat.not_lt_zero _)
    | succ n4 ih4 =>
      intro q34 x4_2 x4_1 iv4_0 hm4 hEl4 ls4 hl4
      have hE5 : M = m_X6_widestMonth_L6_4_b (m_X6_widestMonth_L6_4 n4) (AB ad F) (nI q34) x4_2 x4_1 := hEl4
      refine lv_iload_n S.1 S.2.1 dX6_widestMonth_6 rfl (lv_at hl4 0 rfl) ?_
      refine lv_bipush (v := (nI 48)) S.1 S.2.1 dX6_widestMonth_7 (by decide +kernel) ?_
      refine lv_icmp_gt (tgt := 39) S.1 S.2.1 dX6_widestMonth_9 (by decide) (fun c6 => ?_) (fun c6 => ?_)
      · skip
        have k7 := ci_lt (nI_toInt (n := 48) (by decide)) (nI_toInt (n := q34) (by omega)) c6
        refine lv_iload_n S.1 S.2.1 dX6_widestMonth_39 rfl (lv_at hl4 2 rfl) ?_
        have hE8 : M = x4_1 := hE5.trans ((show m_X6_widestMonth_L6_4_b (m_X6_widestMonth_L6_4 n4) (AB ad F) (nI q34) x4_2 x4_1 = x4_1 from by unfold m_X6_widestMonth_L6_4_b; rw [if_pos (lt_cg rfl rfl c6)]).trans rfl)
        exact hret 40 _ _ dX6_widestMonth_40 rfl (⟨trivial, hM.symm.trans hE8⟩)
      have k9 := ci_nlt (nI_toInt (n := 48) (by decide)) (nI_toInt (n := q34) (by omega)) c6
      refine lv_aload_n S.1 S.2.1 dX6_widestMonth_12 rfl (lv_at hl4 3 rfl) ?_
      refine lv_iload_n S.1 S.2.1 dX6_widestMonth_13 rfl (lv_at hl4 0 rfl) ?_
      obtain ⟨k11, hF11, hk11⟩ := wt_ways hW
      refine r_cVp (As := [.int (nI q34)]) (rest := []) S hK hZ hP hS hl4.1 33 (by decide) hF11 (C := RX6) rfl (c_X6_townsAt l D cA ad t hI F hW (q34) (by omega)) (cwV 1 S.2.2.2.2 gX6_widestMonth_X6_townsAt rfl rfl rfl (by decide +kernel) ⟨Nat.le_of_ble_eq_true rfl, Nat.le_of_ble_eq_true rfl⟩) rfl rfl (Nat.le_of_ble_eq_true rfl) ⟨Nat.zero_le _, Nat.zero_le _⟩ dX6_widestMonth_14 (fun r10 hr10 => ?_)
      obtain ⟨hr10, hm10⟩ := hr10
      have m12 : (m_X6_townsAt (AB ad F) (nI q34)) = r10 := (congr (Eq.refl (m_X6_townsAt (AB ad F))) (Eq.refl ((nI q34) : Int32))).trans hm10
      refine r_cSp (As := [.int r10]) (rest := []) S hK hZ hP hS hl4.1 (c_J6_bitCount_0f7a4 l D cA ad t hI F hW r10) (va_cwS 1 S.2.2.2.2 gX6_widestMonth_J6_bitCount_0f7a4 rfl rfl rfl (by decide +kernel) ⟨Nat.le_of_ble_eq_true rfl, Nat.le_of_ble_eq_true rfl⟩) rfl rfl (Nat.le_of_ble_eq_true rfl) ⟨Nat.zero_le _, Nat.zero_le _⟩ dX6_widestMonth_17 (fun r13 hr13 => ?_)
      obtain ⟨hr13, hm13⟩ := hr13
      have m14 : (m_J6_bitCount_0f7a4 (AB ad F) (m_X6_townsAt (AB ad F) (nI q34))) = r13 := (congr (Eq.refl (m_J6_bitCount_0f7a4 (AB ad F))) m12).trans hm13
      refine lv_istore (lv' := [(4, .int r13), (3, .int (nI q34)), (2, .int x4_2), (1, .int x4_1), (0, .ref (ad 33))]) S.1 S.2.1 dX6_widestMonth_20 hl4 (by decide) rfl (fun ls15 hl15 => ?_)
      refine lv_iload S.1 S.2.1 dX6_widestMonth_22 (lv_at hl15 0 rfl) ?_
      refine lv_iload_n S.1 S.2.1 dX6_widestMonth_24 rfl (lv_at hl15 2 rfl) ?_
      refine lv_icmp_le (tgt := 33) S.1 S.2.1 dX6_widestMonth_25 (by decide) (fun c16 => ?_) (fun c16 => ?_)
      · skip
        have k17 := ci_le rfl rfl c16
        have m19 : ((nI q34) + Int32.ofInt (1)) = (nI (q34 + 1)) := (congrArg (fun q : Int32 => q + Int32.ofInt (1)) rfl).trans (nI_add _ 1)
        refine lv_iinc (v := (nI (q34 + 1))) (lv' := [(3, .int (nI (q34 + 1))), (4, .int r13), (2, .int x4_2), (1, .int x4_1), (0, .ref (ad 33))]) S.1 S.2.1 dX6_widestMonth_33 hl15 (k := 1) rfl (nI_add _ 1) (by decide) rfl (fun ls18 hl18 => ?_)
        refine lv_goto (tgt := 6) S.1 S.2.1 dX6_widestMonth_36 (by decide) ?_
        have hE20 : M = (m_X6_widestMonth_L6_4 n4) (AB ad F) (nI (q34 + 1)) x4_2 x4_1 := hE5.trans ((show m_X6_widestMonth_L6_4_b (m_X6_widestMonth_L6_4 n4) (AB ad F) (nI q34) x4_2 x4_1 = (m_X6_widestMonth_L6_4 n4) (AB ad F) ((nI q34) + Int32.ofInt (1)) x4_2 x4_1 from by unfold m_X6_widestMonth_L6_4_b; rw [if_neg (nlt_cg rfl rfl c6), if_pos (le_cg m14 rfl c16)]).trans (congr (congr (congr (congrArg ((m_X6_widestMonth_L6_4 n4)) (rfl : AB ad F = AB ad F)) m19) (Eq.refl (x4_2 : Int32))) (Eq.refl (x4_1 : Int32))))
        exact ih4 (q34 + 1) (x4_2) (x4_1) (by omega) (by omega) hE20 ls18 (lv_sub hl18 [0, 2, 3, 4] rfl)
      have k21 := ci_nle rfl rfl c16
      refine lv_iload S.1 S.2.1 dX6_widestMonth_28 (lv_at hl15 0 rfl) ?_
      refine lv_istore_n (lv' := [(2, .int r13), (4, .int r13), (3, .int (nI q34)), (1, .int x4_1), (0, .ref (ad 33))]) S.1 S.2.1 dX6_widestMonth_30 rfl hl15 (by decide) rfl (fun ls22 hl22 => ?_)
      refine lv_iload_n S.1 S.2.1 dX6_widestMonth_31 rfl (lv_at hl22 2 rfl) ?_
      refine lv_istore_n (lv' := [(1, .int (nI q34)), (2, .int r13), (4, .int r13), (3, .int (nI q34)), (0, .ref (ad 33))]) S.1 S.2.1 dX6_widestMonth_32 rfl hl22 (by decide) rfl (fun ls23 hl23 => ?_)
      have m25 : ((nI q34) + Int32.ofInt (1)) = (nI (q34 + 1)) := (congrArg (fun q : Int32 => q + Int32.ofInt (1)) rfl).trans (nI_add _ 1)
      refine lv_iinc (v := (nI (q34 + 1))) (lv' := [(3, .int (nI (q34 + 1))), (1, .int (nI q34)), (2, .int r13), (4, .int r13), (0, .ref (ad 33))]) S.1 S.2.1 dX6_widestMonth_33 hl23 (k := 3) rfl (nI_add _ 1) (by decide) rfl (fun ls24 hl24 => ?_)
      refine lv_goto (tgt := 6) S.1 S.2.1 dX6_widestMonth_36 (by decide) ?_
      have hE26 : M = (m_X6_widestMonth_L6_4 n4) (AB ad F) (nI (q34 + 1)) r13 (nI q34) := hE5.trans ((show m_X6_widestMonth_L6_4_b (m_X6_widestMonth_L6_4 n4) (AB ad F) (nI q34) x4_2 x4_1 = (m_X6_widestMonth_L6_4 n4) (AB ad F) ((nI q34) + Int32.ofInt (1)) (m_J6_bitCount_0f7a4 (AB ad F) (m_X6_townsAt (AB ad F) (nI q34))) (nI q34) from by unfold m_X6_widestMonth_L6_4_b; rw [if_neg (nlt_cg rfl rfl c6), if_neg (nle_cg m14 rfl c16)]).trans (congr (congr (congr (congrArg ((m_X6_widestMonth_L6_4 n4)) (rfl : AB ad F = AB ad F)) m25) m14) (Eq.refl ((nI q34) : Int32))))
      exact ih4 (q34 + 1) (r13) ((nI q34)) (by omega) (by omega) hE26 ls24 (lv_sub hl24 [0, 2, 1, 4] rfl)
  have hE27 : M = m_X6_widestMonth_L6_4 2000 (AB ad F) (nI 1) (nI 1) (-1) := hM.trans ((show m_X6_widestMonth (AB ad F) = m_X6_widestMonth_L6_4 2000 (AB ad F) (nI 1) (nI 1) ((-1) : Int32) from rfl).trans (congr (congr (congr (congrArg (m_X6_widestMonth_L6_4 2000) (rfl : AB ad F = AB ad F)) (Eq.refl ((nI 1) : Int32))) (Eq.refl ((nI 1) : Int32))) (Eq.refl ((-1) : Int32))))
  exact lp4 2000 (1) ((nI 1)) ((-1)) (by omega) (by omega) hE27 ls3 (lv_sub hl3 [0, 1, 2, 3] rfl)
