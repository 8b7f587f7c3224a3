/-! rows of longs by role beside the abstract state -/
abbrev S3 : Type := SS × (Nat → Nat → Int64)
def aLw (e : va_E) : Nat → Int64 := match e with
  | .inl (_, _, .inr (.inl g)) => g
  | _ => fun _ => 0
def AB3 (ad : Nat → Nat) (F : Nat → va_E) : S3 := (AB ad F, fun i => aLw (F i))
def stL (w : Nat → Nat → Int64) (i k : Nat) (v : Int64) : Nat → Nat → Int64 := fun i' k' => if i' = i ∧ k' = k then v else w i' k'
def lus (x : Int64) (y : Int32) : Int64 := (x.toUInt64 >>> (y.toInt64.toUInt64 &&& Int64.toUInt64 63)).toInt64
section AM
variable {ad : Nat → Nat} {F F' : Nat → va_E} {i : Nat}
theorem AM_g {a : ClassId} {n k : Nat} {g : Nat → Int64} (hF : F i = .inl (a, n, .inr (.inl g))) : (AB3 ad F).2 i k = g k := by
  show aLw (F i) k = g k
  rw [hF]; rfl
theorem AM_ast {a : ClassId} {n k : Nat} {g : Nat → Int64} {v : Int64} (hF : F i = .inl (a, n, .inr (.inl g))) (e : F' = va_up F i (.inl (a, n, .inr (.inl (vp_updL g k v))))) : ((AB3 ad F).1, stL (AB3 ad F).2 i k v) = AB3 ad F' := by
  refine Prod.ext ?_ ?_
  · funext j q
    show abE ad (F j) q = abE ad (F' j) q
    rw [e]
    by_cases h : j = i
    · subst h; rw [va_up_self, hF]; rfl
    · rw [va_up_ne _ _ h]
  · funext j q
    show (if j = i ∧ q = k then v else aLw (F j) q) = aLw (F' j) q
    rw [e]
    by_cases h : j = i
    · subst h; rw [va_up_self, hF]
      show (if j = j ∧ q = k then v else g q) = (if q = k then v else g q)
      by_cases h2 : q = k
      · rw [if_pos ⟨rfl, h2⟩, if_pos h2]
      · rw [if_neg (fun z => h2 z.2), if_neg h2]
    · rw [va_up_ne _ _ h, if_neg (fun z => h z.1)]
theorem AM_cg {σ : SS} {w : Nat → Nat → Int64} {i i' : Nat} {x x' : Int32} {v v' : Int64} {T : S3} (hi : i' = i) (hx : x' = x) (hv : v' = v) (h : (σ, stL w i (rl x) v) = T) : (σ, stL w i' (rl x') v') = T := by rw [hi, hx, hv]; exact h
theorem al_cg {w : Nat → Nat → Int64} {i i' : Nat} {x x' : Int32} (h : i' = i) (h2 : x' = x) : w i' (rl x') = w i (rl x) := by rw [h, h2]
theorem AM_put {ci ci' : Nat} {fs fs' : List Value} (hF : F i = .inr (ci, fs)) (e : F' = va_up F i (.inr (ci', fs'))) : (AB3 ad F').2 = (AB3 ad F).2 := by
  funext j
  show aLw (F' j) = aLw (F j)
  rw [e]
  by_cases h : j = i
  · subst h; rw [va_up_self, hF]; rfl
  · rw [va_up_ne _ _ h]
theorem AM_fr45 {cA : Nat → Nat} (h : WT cA ad F) (h' : WT cA ad F') (hf : rFr [45] F F') : (AB3 ad F').2 = (AB3 ad F).2 := by
  funext j
  show aLw (F' j) = aLw (F j)
  by_cases q : j = 45
  · subst q
    obtain ⟨g, e, _⟩ := wt_I h (show (45, 8) ∈ rLI by decide)
    obtain ⟨g', e', _⟩ := wt_I h' (show (45, 8) ∈ rLI by decide)
    rw [e, e']; rfl
  · rw [hf j (by simpa using q)]
theorem s3_cg {σ σ' : SS} {w w' : Nat → Nat → Int64} (h : σ = σ') (h2 : w = w') : (σ, w) = (σ', w') := by rw [h, h2]
end AM
noncomputable def m_X4_clear_10 (k0 : S3 → Int32 → Nat → S3) (σ : S3) (a0 : Int32) (a1 : Nat) : S3 :=
  k0 σ (a0 + Int32.ofInt (1)) a1
noncomputable def m_X4_clear_L2_2_b (k0 : S3 → Int32 → Nat → S3) (σ : S3) (a0 : Int32) (a1 : Nat) : S3 :=
  if (nI 160) ≤ a0 then
    σ
  else
    m_X4_clear_10 k0 (σ.1, stL (σ).2 a1 (rl a0) (0 : Int64)) a0 a1
noncomputable def m_X4_clear_L2_2 : Nat → S3 → Int32 → Nat → S3
  | 0 => fun σ _ _ => σ
  | n + 1 => m_X4_clear_L2_2_b (m_X4_clear_L2_2 n)
noncomputable def m_X4_clear (σ : S3) (a0 : Nat) : S3 :=
  m_X4_clear_L2_2 2000 σ (nI 0) a0
set_option maxHeartbeats 4000000 in
set_option maxRecDepth 100000 in
theorem cL_X4_clear (l : Launch) (D : va_G) (cA ad : Nat → Nat) (t : Nat) (hI : rI ad) (F : Nat → va_E) (hW : WT cA ad F) (ra : Nat) (hra : (ra, 160) ∈ rLL) : MV l D cA ad t yX4_clear wsX4_clear { frames := 0, cells := 0, slots := 0, locals := 0 } [.ref (ad ra)] F (fun F' => WT cA ad F' ∧ rFr [ra] F F' ∧ ((True) ∧ m_X4_clear (AB3 ad F) ra = AB3 ad F')) := by
  refine en_V rfl (by decide +kernel) (Nat.le_of_ble_eq_true rfl) ?_
  intro p e s m args below meth c ls0 Q S hK hZ hP hS hl0 hret
  have hl0 : lv_has ls0 2 [(0, .ref (ad ra))] := hl0
  have hFr : rFr [ra] F F := rFr.rf
  obtain ⟨M, hM⟩ : ∃ M, M = m_X4_clear (AB3 ad F) ra := ⟨_, rfl⟩
  refine lv_iconst (v := (nI 0)) S.1 S.2.1 dX4_clear_0 (by decide +kernel) ?_
  refine lv_istore_n (lv' := [(1, .int (nI 0)), (0, .ref (ad ra))]) S.1 S.2.1 dX4_clear_1 rfl hl0 (by decide) rfl (fun ls1 hl1 => ?_)
  have lp2 : ∀ (n2 : Nat) (q12 : Nat), ∀ (Fl2 : Nat → va_E) (Hl2 : Heap) (lol2 : List Loc), q12 ≤ 160 → 160 - q12 < n2 → WT cA ad Fl2 → rFr [ra] F Fl2 → va_P D vwCl (rW ad Fl2) Hl2 → va_S (rA ad) s.heap Hl2 lol2 → M = m_X4_clear_L2_2 n2 (AB3 ad Fl2) (nI q12) ra → ∀ (ls : Array Slot), lv_has ls 2 [(1, .int (nI q12)), (0, .ref (ad ra))] → W p l e { frames := 0, cells := 0, slots := 0, locals := 0 } s m args below meth c Hl2 lol2 0 0 Q (F0 m 2 ls []) := by
    intro n2
    induction n2 with
    | zero =>
      intro q12 Fl2 Hl2 lol2 iv2_0 hm2 hWl2 hFl2 hPl2 hSl2 hEl2 ls2 hl2
      exact absurd hm2 (Nat.not_lt_zero _)
    | succ n2 ih2 =>
      intro q12 Fl2 Hl2 lol2 iv2_0 hm2 hWl2 hFl2 hPl2 hSl2 hEl2 ls2 hl2
      have hE3 : M = m_X4_clear_L2_2_b (m_X4_clear_L2_2 n2) (AB3 ad Fl2) (nI q12) ra := hEl2
      refine lv_iload_n S.1 S.2.1 dX4_clear_2 rfl (lv_at hl2 0 rfl) ?_
      refine lv_aload_n S.1 S.2.1 dX4_clear_3 rfl (lv_at hl2 1 rfl) ?_
      obtain ⟨g4, hF4⟩ := wt_L hWl2 hra
      refine r_alen S hK hPl2 ra (lt_L hra) 2 hF4 rfl dX4_clear_4 ?_
      refine lv_icmp_ge (tgt := 18) S.1 S.2.1 dX4_clear_5 (by decide) (fun c5 => ?_) (fun c5 => ?_)
      · skip
        have k6 := ci_le (nI_toInt (n := 160) (by omega)) (nI_toInt (n := q12) (by omega)) c5
        have hE7 : M = AB3 ad Fl2 := hE3.trans ((show m_X4_clear_L2_2_b (m_X4_clear_L2_2 n2) (AB3 ad Fl2) (nI q12) ra = (AB3 ad Fl2) from by unfold m_X4_clear_L2_2_b; rw [if_pos (le_cg rfl rfl c5)]).trans rfl)
        exact hret 18 _ _ _ _ dX4_clear_18 hPl2 hSl2 ⟨hWl2, hFl2, ⟨trivial, hM.symm.trans hE7⟩⟩
      have k8 := ci_nle (nI_toInt (n := 160) (by omega)) (nI_toInt (n := q12) (by omega)) c5
      refine lv_aload_n S.1 S.2.1 dX4_clear_8 rfl (lv_at hl2 1 rfl) ?_
      refine lv_iload_n S.1 S.2.1 dX4_clear_9 rfl (lv_at hl2 0 rfl) ?_
      refine lv_lconst (v := 0) S.1 S.2.1 dX4_clear_10 (by decide +kernel) ?_
      refine r_last S hI hK hPl2 hSl2 ra (lt_L hra) hF4 (vp_in_nI (show q12 < 160 by omega) (by omega)) dX4_clear_11 (fun F9 H9 locs9 eF9 hP9 hS9 => ?_)
      have hW9 := hWl2.up eF9 (ok_L hra ⟨_, rfl⟩)
      have hFr9 := hFl2.up eF9 (by simp <;> first | omega | (simp only [isC, isJ] at *; omega))
      have hE11 : M = m_X4_clear_10 (m_X4_clear_L2_2 n2) (AB3 ad F9) (nI q12) ra := hE3.trans ((show m_X4_clear_L2_2_b (m_X4_clear_L2_2 n2) (AB3 ad Fl2) (nI q12) ra = m_X4_clear_10 (m_X4_clear_L2_2 n2) ((AB3 ad Fl2).1, stL ((AB3 ad Fl2)).2 ra (rl (nI q12)) (0 : Int64)) (nI q12) ra from by unfold m_X4_clear_L2_2_b; rw [if_neg (nle_cg rfl rfl c5)]).trans (congr (congr (congrArg (m_X4_clear_10 (m_X4_clear_L2_2 n2)) (AM_cg (Eq.refl ra) (Eq.refl ((nI q12) : Int32)) (Eq.refl (0 : Int64)) (AM_ast hF4 eF9))) (Eq.refl ((nI q12) : Int32))) (Eq.refl ra)))
      have m13 : ((nI q12) + Int32.ofInt (1)) = (nI (q12 + 1)) := (congrArg (fun q : Int32 => q + Int32.ofInt (1)) rfl).trans (nI_add _ 1)
      refine lv_iinc (v := (nI (q12 + 1))) (lv' := [(1, .int (nI (q12 + 1))), (0, .ref (ad ra))]) S.1 S.2.1 dX4_clear_12 hl2 (k := 0) rfl (nI_add _ 1) (by decide) rfl (fun ls12 hl12 => ?_)
      refine lv_goto (tgt := 2) S.1 S.2.1 dX4_clear_15 (by decide) ?_
      have hE14 : M = (m_X4_clear_L2_2 n2) (AB3 ad F9) (nI (q12 + 1)) ra := hE11.trans ((show m_X4_clear_10 (m_X4_clear_L2_2 n2) (AB3 ad F9) (nI q12) ra = (m_X4_clear_L2_2 n2) (AB3 ad F9) ((nI q12) + Int32.ofInt (1)) ra from rfl).trans (congr (congr (congrArg ((m_X4_clear_L2_2 n2)) (rfl : AB3 ad F9 = AB3 ad F9)) m13) (Eq.refl ra)))
      exact ih2 (q12 + 1) F9 H9 locs9 (by omega) (by omega) hW9 hFr9 hP9 hS9 hE14 ls12 (lv_sub hl12 [0, 1] rfl)
  have hE15 : M = m_X4_clear_L2_2 2000 (AB3 ad F) (nI 0) ra := hM.trans ((show m_X4_clear (AB3 ad F) ra = m_X4_clear_L2_2 2000 (AB3 ad F) (nI 0) ra from rfl).trans (congr (congr (congrArg (m_X4_clear_L2_2 2000) (rfl : AB3 ad F = AB3 ad F)) (Eq.refl ((nI 0) : Int32))) (Eq.refl ra)))
  exact lp2 2000 (0) F s.heap [] (by omega) (by omega) hW hFr hP hS hE15 ls1 (lv_sub hl1 [0, 1] rfl)
noncomputable def m_X4_isEmpty_L5_3_b (k0 : S3 → Int32 → Int64 → Int32 → Int32) (σ : S3) (a0 : Int32) (a1 : Int64) (a2 : Int32) : Int32 :=
  if (nI 4) ≤ a0 then
    if (lg_cmp a1 (0 : Int64)) = (0 : Int32) then
      (nI 1)
    else
      (nI 0)
  else
    k0 σ (a0 + Int32.ofInt (1)) (a1 ||| ((σ).2 (rl (σ.1 30 0)) (rl (a2 + a0)))) a2
noncomputable def m_X4_isEmpty_L5_3 : Nat → S3 → Int32 → Int64 → Int32 → Int32
  | 0 => fun σ _ _ _ => 0
  | n + 1 => m_X4_isEmpty_L5_3_b (m_X4_isEmpty_L5_3 n)
noncomputable def m_X4_isEmpty (σ : S3) (a0 : Int32) : Int32 :=
  m_X4_isEmpty_L5_3 2000 σ (nI 0) (0 : Int64) a0
set_option maxHeartbeats 4000000 in
set_option maxRecDepth 100000 in
theorem cL_X4_isEmpty (l : Launch) (D : va_G) (cA ad : Nat → Nat) (t : Nat) (hI : rI ad) (F : Nat → va_E) (hW : WT cA ad F) (a1 : Nat) (ha1 : a1 ≤ 156) : MP l D cA ad t yX4_isEmpty wsX4_isEmpty { frames := 0, cells := 0, slots := 0, locals := 0 } [.ref (ad 30), .int (nI a1)] F (fun r => (le32 1 r) ∧ m_X4_isEmpty (AB3 ad F) (nI a1) = r) := by
  refine en_P rfl (by decide +kernel) (Nat.le_of_ble_eq_true rfl) ?_
  intro p e s m args below meth c ls0 Q S hK hZ hP hS hl0 hret
  have hl0 : lv_has ls0 5 [(0, .ref (ad 30)), (1, .int (nI a1))] := hl0
  have hiX4 : ∀ w ∈ u_ws RX4 TX4 2, w ∈ wsX4_isEmpty := by decide +kernel
  obtain ⟨M, hM⟩ : ∃ M, M = m_X4_isEmpty (AB3 ad F) (nI a1) := ⟨_, rfl⟩
  refine lv_lconst (v := 0) S.1 S.2.1 dX4_isEmpty_0 (by decide +kernel) ?_
  refine lv_lstore_n (lv' := [(2, .long 0), (0, .ref (ad 30)), (1, .int (nI a1))]) S.1 S.2.1 dX4_isEmpty_1 rfl hl0 (by decide) rfl (fun ls1 hl1 => ?_)
  refine lv_iconst (v := (nI 0)) S.1 S.2.1 dX4_isEmpty_2 (by decide +kernel) ?_
  refine lv_istore (lv' := [(4, .int (nI 0)), (2, .long 0), (0, .ref (ad 30)), (1, .int (nI a1))]) S.1 S.2.1 dX4_isEmpty_3 hl1 (by decide) rfl (fun ls2 hl2 => ?_)
  have lp3 : ∀ (n3 : Nat) (q43 : Nat) (x3_2 : Int64), q43 ≤ 4 → 4 - q43 < n3 → M = m_X4_isEmpty_L5_3 n3 (AB3 ad F) (nI q43) x3_2 (nI a1) → ∀ (ls : Array Slot), lv_has ls 5 [(4, .int (nI q43)), (2, .long x3_2), (0, .ref (ad 30)), (1, .int (nI a1))] → W p l e { frames := 0, cells := 0, slots := 0, locals := 0 } s m args below meth c s.heap [] 0 0 Q (F0 m 5 ls []) := by
    intro n3
    induction n3 with
    | zero =>
      intro q43 x3_2 iv3_0 hm3 hEl3 ls3 hl3
      exact absurd hm3 (Nat.not_lt_zero _)
    | succ n3 ih3 =>
      intro q43 x3_2 iv3_0 hm3 hEl3 ls3 hl3
      have hE4 : M = m_X4_isEmpty_L5_3_b (m_X4_isEmpty_L5_3 n3) (AB3 ad F) (nI q43) x3_2 (nI a1) := hEl3
      refine lv_iload S.1 S.2.1 dX4_isEmpty_5 (lv_at hl3 0 rfl) ?_
      refine lv_iconst (v := (nI 4)) S.1 S.2.1 dX4_isEmpty_7 (by decide +kernel) ?_
      refine lv_icmp_ge (tgt := 29) S.1 S.2.1 dX4_isEmpty_8 (by decide) (fun c5 => ?_) (fun c5 => ?_)
      · skip
        have k6 := ci_le (nI_toInt (n := 4) (by omega)) (nI_toInt (n := q43) (by omega)) c5
        refine lv_lload_n S.1 S.2.1 dX4_isEmpty_29 rfl (lv_at hl3 1 rfl) ?_
        refine lv_lconst (v := 0) S.1 S.2.1 dX4_isEmpty_30 (by decide +kernel) ?_
        refine W.lcmp S.1 S.2.1 dX4_isEmpty_31 ?_
        refine lv_topi (fun v7 e7 => ?_)
        have m8 : (lg_cmp x3_2 (0 : Int64)) = v7 := cg2 (fun (x : Int64) (y : Int64) => lg_cmp x y) (Eq.refl (x3_2 : Int64)) (Eq.refl (0 : Int64)) e7
        refine lv_if_ne (tgt := 39) S.1 S.2.1 dX4_isEmpty_32 (by decide) (fun c9 => ?_) (fun c9 => ?_)
        · skip
          have k10 := ci_ne rfl z_ti c9
          refine lv_iconst (v := (nI 0)) S.1 S.2.1 dX4_isEmpty_39 (by decide +kernel) ?_
          have hE11 : M = (nI 0) := hE4.trans ((show m_X4_isEmpty_L5_3_b (m_X4_isEmpty_L5_3 n3) (AB3 ad F) (nI q43) x3_2 (nI a1) = (nI 0) from by unfold m_X4_isEmpty_L5_3_b; rw [if_pos (le_cg rfl rfl c5), if_neg (neq_cg m8 rfl c9)]).trans rfl)
          exact hret 40 _ _ dX4_isEmpty_40 rfl (⟨⟨0, by omega, rfl⟩, hM.symm.trans hE11⟩)
        have k12 := ci_eq rfl z_ti c9
        refine lv_iconst (v := (nI 1)) S.1 S.2.1 dX4_isEmpty_35 (by decide +kernel) ?_
        refine lv_goto (tgt := 40) S.1 S.2.1 dX4_isEmpty_36 (by decide) ?_
        have hE13 : M = (nI 1) := hE4.trans ((show m_X4_isEmpty_L5_3_b (m_X4_isEmpty_L5_3 n3) (AB3 ad F) (nI q43) x3_2 (nI a1) = (nI 1) from by unfold m_X4_isEmpty_L5_3_b; rw [if_pos (le_cg rfl rfl c5), if_pos (eq_cg m8 rfl c9)]).trans rfl)
        exact hret 40 _ _ dX4_isEmpty_40 rfl (⟨⟨1, by omega, rfl⟩, hM.symm.trans hE13⟩)
      have k14 := ci_nle (nI_toInt (n := 4) (by omega)) (nI_toInt (n := q43) (by omega)) c5
      refine lv_lload_n S.1 S.2.1 dX4_isEmpty_11 rfl (lv_at hl3 1 rfl) ?_
      refine lv_aload_n S.1 S.2.1 dX4_isEmpty_12 rfl (lv_at hl3 2 rfl) ?_
      obtain ⟨a15, b15, hF15, ha15, hb15⟩ := wt_search hW
      refine r_get S hK hP 30 (by decide) hF15 (C := RX4) (T := TX4) (N := 2) hiX4 rfl 0 (by decide) (by decide +kernel) (v := .ref (ad a15)) rfl dX4_isEmpty_13 ?_
      have m16 : (rl ((AB3 ad F).1 30 0)) = a15 := AB_r hI (lt_L (S_L ha15)) hF15 rfl
      refine lv_iload_n S.1 S.2.1 dX4_isEmpty_16 rfl (lv_at hl3 3 rfl) ?_
      refine lv_iload S.1 S.2.1 dX4_isEmpty_17 (lv_at hl3 0 rfl) ?_
      refine lv_iadd S.1 S.2.1 dX4_isEmpty_19 ?_
      refine lv_topi (fun v17 e17 => ?_)
      obtain rfl : v17 = nI (a1 + q43) := e17.trans (nI_add _ _)
      have m18 : ((nI a1) + (nI q43)) = (nI (a1 + q43)) := cg2 (fun (x : Int32) (y : Int32) => x + y) (Eq.refl ((nI a1) : Int32)) (Eq.refl ((nI q43) : Int32)) e17
      obtain ⟨g19, hF19⟩ := wt_L hW (S_L ha15)
      refine r_lald S hK hP a15 (lt_L (S_L ha15)) hF19 (vp_in_nI (show a1 + q43 < 160 by omega) (by omega)) dX4_isEmpty_20 ?_
      refine lv_topl (fun v21 e21 => ?_)
      have m22 : (((AB3 ad F)).2 (rl ((AB3 ad F).1 30 0)) (rl ((nI a1) + (nI q43)))) = v21 := (al_cg m16 m18).trans ((AM_g hF19).trans e21.symm)
      refine lv_lor S.1 S.2.1 dX4_isEmpty_21 ?_
      refine lv_topl (fun v23 e23 => ?_)
      have m24 : (x3_2 ||| (((AB3 ad F)).2 (rl ((AB3 ad F).1 30 0)) (rl ((nI a1) + (nI q43))))) = v23 := cg2 (fun (x : Int64) (y : Int64) => x ||| y) (Eq.refl (x3_2 : Int64)) m22 e23
      refine lv_lstore_n (lv' := [(2, .long v23), (4, .int (nI q43)), (0, .ref (ad 30)), (1, .int (nI a1))]) S.1 S.2.1 dX4_isEmpty_22 rfl hl3 (by decide) rfl (fun ls25 hl25 => ?_)
      have m27 : ((nI q43) + Int32.ofInt (1)) = (nI (q43 + 1)) := (congrArg (fun q : Int32 => q + Int32.ofInt (1)) rfl).trans (nI_add _ 1)
      refine lv_iinc (v := (nI (q43 + 1))) (lv' := [(4, .int (nI (q43 + 1))), (2, .long v23), (0, .ref (ad 30)), (1, .int (nI a1))]) S.1 S.2.1 dX4_isEmpty_23 hl25 (k := 1) rfl (nI_add _ 1) (by decide) rfl (fun ls26 hl26 => ?_)
      refine lv_goto (tgt := 5) S.1 S.2.1 dX4_isEmpty_26 (by decide) ?_
      have hE28 : M = (m_X4_isEmpty_L5_3 n3) (AB3 ad F) (nI (q43 + 1)) v23 (nI a1) := hE4.trans ((show m_X4_isEmpty_L5_3_b (m_X4_isEmpty_L5_3 n3) (AB3 ad F) (nI q43) x3_2 (nI a1) = (m_X4_isEmpty_L5_3 n3) (AB3 ad F) ((nI q43) + Int32.ofInt (1)) (x3_2 ||| (((AB3 ad F)).2 (rl ((AB3 ad F).1 30 0)) (rl ((nI a1) + (nI q43))))) (nI a1) from by unfold m_X4_isEmpty_L5_3_b; rw [if_neg (nle_cg rfl rfl c5)]).trans (congr (congr (congr (congrArg ((m_X4_isEmpty_L5_3 n3)) (rfl : AB3 ad F = AB3 ad F)) m27) m24) (Eq.refl ((nI a1) : Int32))))
      exact ih3 (q43 + 1) (v23) (by omega) (by omega) hE28 ls26 (lv_sub hl26 [0, 1, 2, 3] rfl)
  have hE29 : M = m_X4_isEmpty_L5_3 2000 (AB3 ad F) (nI 0) 0 (nI a1) := hM.trans ((show m_X4_isEmpty (AB3 ad F) (nI a1) = m_X4_isEmpty_L5_3 2000 (AB3 ad F) (nI 0) (0 : Int64) (nI a1) from rfl).trans (congr (congr (congr (congrArg (m_X4_isEmpty_L5_3 2000) (rfl : AB3 ad F = AB3 ad F)) (Eq.refl ((nI 0) : Int32))) (Eq.refl (0 : Int64))) (Eq.refl ((nI a1) : Int32))))
  exact lp3 2000 (0) (0) (by omega) (by omega) hE29 ls2 (lv_sub hl2 [0, 1, 2, 3] rfl)
noncomputable def m_X4_holds_L13_11_b (k0 : S3 → Int32 → Nat → Int32 → Int32) (k1 : S3 → Int32 → Int32 → Nat → Int32 → Int32) (σ : S3) (a0 : Int32) (a1 : Int32) (a2 : Nat) (a3 : Int32) : Int32 :=
  if (σ.1 a2 0) < a0 then
    k0 σ (a1 + Int32.ofInt (1)) a2 a3
  else
    if (lg_cmp ((lus ((σ).2 (rl (σ.1 30 0)) (rl ((m_X4_cell σ.1 a1 a0) + (a3 >>> ((nI 6) &&& 31))))) (a3 &&& (nI 63))) &&& (1 : Int64)) (0 : Int64)) = (0 : Int32) then
      k1 σ (a0 + Int32.ofInt (1)) a1 a2 a3
    else
      (nI 1)
noncomputable def m_X4_holds_L13_11 (k0 : S3 → Int32 → Nat → Int32 → Int32) : Nat → S3 → Int32 → Int32 → Nat → Int32 → Int32
  | 0 => fun σ _ _ _ _ => 0
  | n + 1 => m_X4_holds_L13_11_b k0 (m_X4_holds_L13_11 k0 n)
noncomputable def m_X4_holds_L2_2_b (k0 : S3 → Int32 → Nat → Int32 → Int32) (σ : S3) (a0 : Int32) (a1 : Nat) (a2 : Int32) : Int32 :=
  if (σ.1 a1 2) ≤ a0 then
    (nI 0)
  else
    m_X4_holds_L13_11 k0 2000 σ (nI 0) a0 a1 a2
noncomputable def m_X4_holds_L2_2 : Nat → S3 → Int32 → Nat → Int32 → Int32
  | 0 => fun σ _ _ _ => 0
  | n + 1 => m_X4_holds_L2_2_b (m_X4_holds_L2_2 n)
noncomputable def m_X4_holds (σ : S3) (a0 : Nat) (a1 : Int32) : Int32 :=
  m_X4_holds_L2_2 2000 σ (nI 0) a0 a1
set_option maxHeartbeats 4000000 in
set_option maxRecDepth 100000 in
theorem cL_X4_holds (l : Launch) (D : va_G) (cA ad : Nat → Nat) (t : Nat) (hI : rI ad) (F : Nat → va_E) (hW : WT cA ad F) (rc : Nat) (hrc : isC rc) (s2 : Nat) (hs2 : s2 ≤ 255) : MP l D cA ad t yX4_holds wsX4_holds { frames := 1, cells := 0, slots := 0, locals := 21 } [.ref (ad 30), .ref (ad rc), .int (nI s2)] F (fun r => (le32 1 r) ∧ m_X4_holds (AB3 ad F) rc (nI s2) = r) := by
  refine en_P rfl (by decide +kernel) (Nat.le_of_ble_eq_true rfl) ?_
  intro p e s m args below meth c ls0 Q S hK hZ hP hS hl0 hret
  have hl0 : lv_has ls0 5 [(0, .ref (ad 30)), (1, .ref (ad rc)), (2, .int (nI s2))] := hl0
  have hiX0 : ∀ w ∈ u_ws RX0 TX0 10, w ∈ wsX4_holds := by decide +kernel
  have hiX4 : ∀ w ∈ u_ws RX4 TX4 2, w ∈ wsX4_holds := by decide +kernel
  obtain ⟨M, hM⟩ : ∃ M, M = m_X4_holds (AB3 ad F) rc (nI s2) := ⟨_, rfl⟩
  refine lv_iconst (v := (nI 0)) S.1 S.2.1 dX4_holds_0 (by decide +kernel) ?_
  refine lv_istore_n (lv' := [(3, .int (nI 0)), (0, .ref (ad 30)), (1, .ref (ad rc)), (2, .int (nI s2))]) S.1 S.2.1 dX4_holds_1 rfl hl0 (by decide) rfl (fun ls1 hl1 => ?_)
  have lp2 : ∀ (n2 : Nat) (q32 : Nat), q32 ≤ 8 → 8 - q32 < n2 → M = m_X4_holds_L2_2 n2 (AB3 ad F) (nI q32) rc (nI s2) → ∀ (ls : Array Slot), lv_has ls 5 [(3, .int (nI q32)), (0, .ref (ad 30)), (1, .ref (ad rc)), (2, .int (nI s2))] → W p l e { frames := 1, cells := 0, slots := 0, locals := 21 } s m args below meth c s.heap [] 0 0 Q (F0 m 2 ls []) := by
    intro n2
    induction n2 with
    | zero =>
      intro q32 iv2_0 hm2 hEl2 ls2 hl2
      exact absurd hm2 (Nat.not_lt_zero _)
    | succ n2 ih2 =>
      intro q32 iv2_0 hm2 hEl2 ls2 hl2
      have hE3 : M = m_X4_holds_L2_2_b (m_X4_holds_L2_2 n2) (AB3 ad F) (nI q32) rc (nI s2) := hEl2
      refine lv_iload_n S.1 S.2.1 dX4_holds_2 rfl (lv_at hl2 0 rfl) ?_
      refine lv_aload_n S.1 S.2.1 dX4_holds_3 rfl (lv_at hl2 2 rfl) ?_
      obtain ⟨sl4, fm4, tn4, rn4, bn4, hF4, hb4_1, hb4_2, hb4_3⟩ := wt_C hW hrc
      refine r_get S hK hP rc (lt_C hrc) hF4 (C := RX0) (T := TX0) (N := 10) hiX0 rfl 2 (by decide) (by decide +kernel) (v := .int (nI tn4)) rfl dX4_holds_4 ?_
      have m5 : ((AB3 ad F).1 rc 2) = (nI tn4) := (congrArg (fun q => AB ad F q 2) rfl).trans (AB_f hF4 rfl)
      refine lv_icmp_ge (tgt := 64) S.1 S.2.1 dX4_holds_7 (by decide) (fun c6 => ?_) (fun c6 => ?_)
      · skip
        have k7 := ci_le (nI_toInt (n := tn4) (by omega)) (nI_toInt (n := q32) (by omega)) c6
        refine lv_iconst (v := (nI 0)) S.1 S.2.1 dX4_holds_64 (by decide +kernel) ?_
        have hE8 : M = (nI 0) := hE3.trans ((show m_X4_holds_L2_2_b (m_X4_holds_L2_2 n2) (AB3 ad F) (nI q32) rc (nI s2) = (nI 0) from by unfold m_X4_holds_L2_2_b; rw [if_pos (le_cg m5 rfl c6)]).trans rfl)
        exact hret 65 _ _ dX4_holds_65 rfl (⟨⟨0, by omega, rfl⟩, hM.symm.trans hE8⟩)
      have k9 := ci_nle (nI_toInt (n := tn4) (by omega)) (nI_toInt (n := q32) (by omega)) c6
      refine lv_iconst (v := (nI 0)) S.1 S.2.1 dX4_holds_10 (by decide +kernel) ?_
      refine lv_istore (lv' := [(4, .int (nI 0)), (3, .int (nI q32)), (0, .ref (ad 30)), (1, .ref (ad rc)), (2, .int (nI s2))]) S.1 S.2.1 dX4_holds_11 hl2 (by decide) rfl (fun ls10 hl10 => ?_)
      have lp11 : ∀ (n11 : Nat) (q411 : Nat), q411 ≤ 5 → 5 - q411 < n11 → M = m_X4_holds_L13_11 (m_X4_holds_L2_2 n2) n11 (AB3 ad F) (nI q411) (nI q32) rc (nI s2) → ∀ (ls : Array Slot), lv_has ls 5 [(4, .int (nI q411)), (3, .int (nI q32)), (0, .ref (ad 30)), (1, .ref (ad rc)), (2, .int (nI s2))] → W p l e { frames := 1, cells := 0, slots := 0, locals := 21 } s m args below meth c s.heap [] 0 0 Q (F0 m 13 ls []) := by
        intro n11
        induction n11 with
        | zero =>
          intro q411 iv11_0 hm11 hEl11 ls11 hl11
          exact absurd hm11 (Nat.not_lt_zero _)
        | succ n11 ih11 =>
          intro q411 iv11_0 hm11 hEl11 ls11 hl11
          have hE12 : M = m_X4_holds_L13_11_b (m_X4_holds_L2_2 n2) (m_X4_holds_L13_11 (m_X4_holds_L2_2 n2) n11) (AB3 ad F) (nI q411) (nI q32) rc (nI s2) := hEl11
          refine lv_iload S.1 S.2.1 dX4_holds_13 (lv_at hl11 0 rfl) ?_
          refine lv_aload_n S.1 S.2.1 dX4_holds_15 rfl (lv_at hl11 3 rfl) ?_
          refine r_get S hK hP rc (lt_C hrc) hF4 (C := RX0) (T := TX0) (N := 10) hiX0 rfl 0 (by decide) (by decide +kernel) (v := .int (nI sl4)) rfl dX4_holds_16 ?_
          have m13 : ((AB3 ad F).1 rc 0) = (nI sl4) := (congrArg (fun q => AB ad F q 0) rfl).trans (AB_f hF4 rfl)
          refine lv_icmp_gt (tgt := 58) S.1 S.2.1 dX4_holds_19 (by decide) (fun c14 => ?_) (fun c14 => ?_)
          · skip
            have k15 := ci_lt (nI_toInt (n := sl4) (by omega)) (nI_toInt (n := q411) (by omega)) c14
            have m17 : ((nI q32) + Int32.ofInt (1)) = (nI (q32 + 1)) := (congrArg (fun q : Int32 => q + Int32.ofInt (1)) rfl).trans (nI_add _ 1)
            refine lv_iinc (v := (nI (q32 + 1))) (lv' := [(3, .int (nI (q32 + 1))), (4, .int (nI q411)), (0, .ref (ad 30)), (1, .ref (ad rc)), (2, .int (nI s2))]) S.1 S.2.1 dX4_holds_58 hl11 (k := 1) rfl (nI_add _ 1) (by decide) rfl (fun ls16 hl16 => ?_)
            refine lv_goto (tgt := 2) S.1 S.2.1 dX4_holds_61 (by decide) ?_
            have hE18 : M = (m_X4_holds_L2_2 n2) (AB3 ad F) (nI (q32 + 1)) rc (nI s2) := hE12.trans ((show m_X4_holds_L13_11_b (m_X4_holds_L2_2 n2) (m_X4_holds_L13_11 (m_X4_holds_L2_2 n2) n11) (AB3 ad F) (nI q411) (nI q32) rc (nI s2) = (m_X4_holds_L2_2 n2) (AB3 ad F) ((nI q32) + Int32.ofInt (1)) rc (nI s2) from by unfold m_X4_holds_L13_11_b; rw [if_pos (lt_cg m13 rfl c14)]).trans (congr (congr (congr (congrArg ((m_X4_holds_L2_2 n2)) (rfl : AB3 ad F = AB3 ad F)) m17) (Eq.refl rc)) (Eq.refl ((nI s2) : Int32))))
            exact ih2 (q32 + 1) (by omega) (by omega) hE18 ls16 (lv_sub hl16 [0, 2, 3, 4] rfl)
          have k19 := ci_nlt (nI_toInt (n := sl4) (by omega)) (nI_toInt (n := q411) (by omega)) c14
          refine lv_aload_n S.1 S.2.1 dX4_holds_22 rfl (lv_at hl11 2 rfl) ?_
          obtain ⟨a20, b20, hF20, ha20, hb20⟩ := wt_search hW
          refine r_get S hK hP 30 (by decide) hF20 (C := RX4) (T := TX4) (N := 2) hiX4 rfl 0 (by decide) (by decide +kernel) (v := .ref (ad a20)) rfl dX4_holds_23 ?_
          have m21 : (rl ((AB3 ad F).1 30 0)) = a20 := AB_r hI (lt_L (S_L ha20)) hF20 rfl
          refine lv_iload_n S.1 S.2.1 dX4_holds_26 rfl (lv_at hl11 1 rfl) ?_
          refine lv_iload S.1 S.2.1 dX4_holds_27 (lv_at hl11 0 rfl) ?_
          refine r_cSp (As := [.int (nI q32), .int (nI q411)]) (rest := [.ref (ad a20)]) S hK hZ hP hS hl11.1 (c_X4_cell l D cA ad t hI F hW (nI q32) (nI q411)) (va_cwS 2 S.2.2.2.2 gX4_holds_X4_cell rfl rfl rfl (by decide +kernel) ⟨Nat.le_of_ble_eq_true rfl, Nat.le_of_ble_eq_true rfl⟩) rfl rfl (Nat.le_of_ble_eq_true rfl) ⟨Nat.zero_le _, Nat.zero_le _⟩ dX4_holds_29 (fun r22 hr22 => ?_)
          obtain ⟨hr22, hm22⟩ := hr22
          obtain rfl : r22 = nI ((q32 * 5 + q411) * 4) := hr22.trans (by rw [pk_mul, nI_add, pk_mul])
          have m23 : (m_X4_cell (AB3 ad F).1 (nI q32) (nI q411)) = (nI ((q32 * 5 + q411) * 4)) := (congr (congr (Eq.refl (m_X4_cell (AB ad F))) (Eq.refl ((nI q32) : Int32))) (Eq.refl ((nI q411) : Int32))).trans hm22
          refine lv_iload_n S.1 S.2.1 dX4_holds_32 rfl (lv_at hl11 4 rfl) ?_
          refine lv_bipush (v := (nI 6)) S.1 S.2.1 dX4_holds_33 (by decide +kernel) ?_
          refine lv_ishr S.1 S.2.1 dX4_holds_35 ?_
          refine lv_topi (fun v24 e24 => ?_)
          obtain rfl : v24 = nI (s2 / 64) := e24.trans (pk_shrN (by omega) _ 6 (by decide +kernel))
          have m25 : ((nI s2) >>> ((nI 6) &&& 31)) = (nI (s2 / 64)) := cg2 (fun (x : Int32) (y : Int32) => x >>> (y &&& 31)) (Eq.refl ((nI s2) : Int32)) (Eq.refl ((nI 6) : Int32)) e24
          refine lv_iadd S.1 S.2.1 dX4_holds_36 ?_
          refine lv_topi (fun v26 e26 => ?_)
          obtain rfl : v26 = nI (((q32 * 5 + q411) * 4) + (s2 / 64)) := e26.trans (nI_add _ _)
          have m27 : ((m_X4_cell (AB3 ad F).1 (nI q32) (nI q411)) + ((nI s2) >>> ((nI 6) &&& 31))) = (nI (((q32 * 5 + q411) * 4) + (s2 / 64))) := cg2 (fun (x : Int32) (y : Int32) => x + y) m23 m25 e26
          obtain ⟨g28, hF28⟩ := wt_L hW (S_L ha20)
          refine r_lald S hK hP a20 (lt_L (S_L ha20)) hF28 (vp_in_nI (show ((q32 * 5 + q411) * 4) + (s2 / 64) < 160 by omega) (by omega)) dX4_holds_37 ?_
          refine lv_topl (fun v30 e30 => ?_)
          have m31 : (((AB3 ad F)).2 (rl ((AB3 ad F).1 30 0)) (rl ((m_X4_cell (AB3 ad F).1 (nI q32) (nI q411)) + ((nI s2) >>> ((nI 6) &&& 31))))) = v30 := (al_cg m21 m27).trans ((AM_g hF28).trans e30.symm)
          refine lv_iload_n S.1 S.2.1 dX4_holds_38 rfl (lv_at hl11 4 rfl) ?_
          refine lv_bipush (v := (nI 63)) S.1 S.2.1 dX4_holds_39 (by decide +kernel) ?_
          refine lv_iand S.1 S.2.1 dX4_holds_41 ?_
          refine lv_topi (fun v32 e32 => ?_)
          have m33 : ((nI s2) &&& (nI 63)) = v32 := cg2 (fun (x : Int32) (y : Int32) => x &&& y) (Eq.refl ((nI s2) : Int32)) (Eq.refl ((nI 63) : Int32)) e32
          refine lv_lushr S.1 S.2.1 dX4_holds_42 rfl ?_
          refine lv_topl (fun v34 e34 => ?_)
          have m35 : (lus (((AB3 ad F)).2 (rl ((AB3 ad F).1 30 0)) (rl ((m_X4_cell (AB3 ad F).1 (nI q32) (nI q411)) + ((nI s2) >>> ((nI 6) &&& 31))))) ((nI s2) &&& (nI 63))) = v34 := cg2 (fun (x : Int64) (y : Int32) => lus x y) m31 m33 e34
          refine lv_lconst (v := 1) S.1 S.2.1 dX4_holds_43 (by decide +kernel) ?_
          refine lv_land S.1 S.2.1 dX4_holds_44 ?_
          refine lv_topl (fun v36 e36 => ?_)
          have m37 : ((lus (((AB3 ad F)).2 (rl ((AB3 ad F).1 30 0)) (rl ((m_X4_cell (AB3 ad F).1 (nI q32) (nI q411)) + ((nI s2) >>> ((nI 6) &&& 31))))) ((nI s2) &&& (nI 63))) &&& (1 : Int64)) = v36 := cg2 (fun (x : Int64) (y : Int64) => x &&& y) m35 (Eq.refl (1 : Int64)) e36
          refine lv_lconst (v := 0) S.1 S.2.1 dX4_holds_45 (by decide +kernel) ?_
          refine W.lcmp S.1 S.2.1 dX4_holds_46 ?_
          refine lv_topi (fun v38 e38 => ?_)
          have m39 : (lg_cmp ((lus (((AB3 ad F)).2 (rl ((AB3 ad F).1 30 0)) (rl ((m_X4_cell (AB3 ad F).1 (nI q32) (nI q411)) + ((nI s2) >>> ((nI 6) &&& 31))))) ((nI s2) &&& (nI 63))) &&& (1 : Int64)) (0 : Int64)) = v38 := cg2 (fun (x : Int64) (y : Int64) => lg_cmp x y) m37 (Eq.refl (0 : Int64)) e38
          refine lv_if_eq (tgt := 52) S.1 S.2.1 dX4_holds_47 (by decide) (fun c40 => ?_) (fun c40 => ?_)
          · skip
            have k41 := ci_eq rfl z_ti c40
            have m43 : ((nI q411) + Int32.ofInt (1)) = (nI (q411 + 1)) := (congrArg (fun q : Int32 => q + Int32.ofInt (1)) rfl).trans (nI_add _ 1)
            refine lv_iinc (v := (nI (q411 + 1))) (lv' := [(4, .int (nI (q411 + 1))), (3, .int (nI q32)), (0, .ref (ad 30)), (1, .ref (ad rc)), (2, .int (nI s2))]) S.1 S.2.1 dX4_holds_52 hl11 (k := 0) rfl (nI_add _ 1) (by decide) rfl (fun ls42 hl42 => ?_)
            refine lv_goto (tgt := 13) S.1 S.2.1 dX4_holds_55 (by decide) ?_
            have hE44 : M = (m_X4_holds_L13_11 (m_X4_holds_L2_2 n2) n11) (AB3 ad F) (nI (q411 + 1)) (nI q32) rc (nI s2) := hE12.trans ((show m_X4_holds_L13_11_b (m_X4_holds_L2_2 n2) (m_X4_holds_L13_11 (m_X4_holds_L2_2 n2) n11) (AB3 ad F) (nI q411) (nI q32) rc (nI s2) = (m_X4_holds_L13_11 (m_X4_holds_L2_2 n2) n11) (AB3 ad F) ((nI q411) + Int32.ofInt (1)) (nI q32) rc (nI s2) from by unfold m_X4_holds_L13_11_b; rw [if_neg (nlt_cg m13 rfl c14), if_pos (eq_cg m39 rfl c40)]).trans (congr (congr (congr (congr (congrArg ((m_X4_holds_L13_11 (m_X4_holds_L2_2 n2) n11)) (rfl : AB3 ad F = AB3 ad F)) m43) (Eq.refl ((nI q32) : Int32))) (Eq.refl rc)) (Eq.refl ((nI s2) : Int32))))
            exact ih11 (q411 + 1) (by omega) (by omega) hE44 ls42 (lv_sub hl42 [0, 1, 2, 3, 4] rfl)
          have k45 := ci_ne rfl z_ti c40
          refine lv_iconst (v := (nI 1)) S.1 S.2.1 dX4_holds_50 (by decide +kernel) ?_
          have hE46 : M = (nI 1) := hE12.trans ((show m_X4_holds_L13_11_b (m_X4_holds_L2_2 n2) (m_X4_holds_L13_11 (m_X4_holds_L2_2 n2) n11) (AB3 ad F) (nI q411) (nI q32) rc (nI s2) = (nI 1) from by unfold m_X4_holds_L13_11_b; rw [if_neg (nlt_cg m13 rfl c14), if_neg (neq_cg m39 rfl c40)]).trans rfl)
          exact hret 51 _ _ dX4_holds_51 rfl (⟨⟨1, by omega, rfl⟩, hM.symm.trans hE46⟩)
      have hE47 : M = m_X4_holds_L13_11 (m_X4_holds_L2_2 n2) 2000 (AB3 ad F) (nI 0) (nI q32) rc (nI s2) := hE3.trans ((show m_X4_holds_L2_2_b (m_X4_holds_L2_2 n2) (AB3 ad F) (nI q32) rc (nI s2) = m_X4_holds_L13_11 (m_X4_holds_L2_2 n2) 2000 (AB3 ad F) (nI 0) (nI q32) rc (nI s2) from by unfold m_X4_holds_L2_2_b; rw [if_neg (nle_cg m5 rfl c6)]).trans (congr (congr (congr (congr (congrArg (m_X4_holds_L13_11 (m_X4_holds_L2_2 n2) 2000) (rfl : AB3 ad F = AB3 ad F)) (Eq.refl ((nI 0) : Int32))) (Eq.refl ((nI q32) : Int32))) (Eq.refl rc)) (Eq.refl ((nI s2) : Int32))))
      exact lp11 2000 (0) (by omega) (by omega) hE47 ls10 (lv_sub hl10 [0, 1, 2, 3, 4] rfl)
  have hE48 : M = m_X4_holds_L2_2 2000 (AB3 ad F) (nI 0) rc (nI s2) := hM.trans ((show m_X4_holds (AB3 ad F) rc (nI s2) = m_X4_holds_L2_2 2000 (AB3 ad F) (nI 0) rc (nI s2) from rfl).trans (congr (congr (congr (congrArg (m_X4_holds_L2_2 2000) (rfl : AB3 ad F = AB3 ad F)) (Eq.refl ((nI 0) : Int32))) (Eq.refl rc)) (Eq.refl ((nI s2) : Int32))))
  exact lp2 2000 (0) (by omega) (by omega) hE48 ls1 (lv_sub hl1 [0, 1, 2, 3] rfl)
noncomputable def m_X4_moveAll_84 (k0 : S3 → Int32 → Int32 → Int32 → Int32 → S3) (σ : S3) (a0 : Int64) (a1 : Int32) (a2 : Int32) (a3 : Int32) (a4 : Int32) : S3 :=
  k0 σ (a1 + Int32.ofInt (1)) a2 a3 a4
noncomputable def m_X4_moveAll_68 (k0 : S3 → Int32 → Int32 → Int32 → Int32 → S3) (σ : S3) (a0 : Int64) (a1 : Int64) (a2 : Int32) (a3 : Int32) (a4 : Int32) (a5 : Int32) : S3 :=
  k0 σ (a2 + Int32.ofInt (1)) a3 a4 a5
noncomputable def m_X4_moveAll_38 (k0 : S3 → Int32 → Int32 → Int32 → Int32 → S3) (σ : S3) (a0 : Int64) (a1 : Int32) (a2 : Int32) (a3 : Int32) (a4 : Int32) : S3 :=
  k0 σ (a1 + Int32.ofInt (1)) a2 a3 a4
noncomputable def m_X4_moveAll_L3_2_b (k0 : S3 → Int32 → Int32 → Int32 → Int32 → S3) (σ : S3) (a0 : Int32) (a1 : Int32) (a2 : Int32) (a3 : Int32) : S3 :=
  if (nI 4) ≤ a0 then
    σ
  else
    if a3 = ((-1) : Int32) then
      m_X4_moveAll_84 k0 (σ.1, stL (σ).2 (rl (σ.1 30 1)) (rl (a2 + a0)) (((σ).2 (rl (σ.1 30 1)) (rl (a2 + a0))) ||| ((σ).2 (rl (σ.1 30 0)) (rl (a1 + a0))))) ((σ).2 (rl (σ.1 30 0)) (rl (a1 + a0))) a0 a1 a2 a3
    else
      if (nI 6) ≤ a3 then
        m_X4_moveAll_38 k0 (σ.1, stL (σ).2 (rl (σ.1 30 1)) (rl (a2 + (a0 ||| ((nI 1) <<< ((a3 - (nI 6)) &&& 31))))) (((σ).2 (rl (σ.1 30 1)) (rl (a2 + (a0 ||| ((nI 1) <<< ((a3 - (nI 6)) &&& 31)))))) ||| ((σ).2 (rl (σ.1 30 0)) (rl (a1 + a0))))) ((σ).2 (rl (σ.1 30 0)) (rl (a1 + a0))) a0 a1 a2 a3
      else
        m_X4_moveAll_68 k0 (σ.1, stL (σ).2 (rl (σ.1 30 1)) (rl (a2 + a0)) (((σ).2 (rl (σ.1 30 1)) (rl (a2 + a0))) ||| ((((σ).2 (rl (σ.1 30 0)) (rl (a1 + a0))) ^^^ (((σ).2 (rl (σ.1 30 0)) (rl (a1 + a0))) &&& (wfN (rl a3)))) ||| ((((σ).2 (rl (σ.1 30 0)) (rl (a1 + a0))) &&& (wfN (rl a3))) <<< (((nI 1) <<< (a3 &&& 31)).toInt64 &&& 63))))) (((σ).2 (rl (σ.1 30 0)) (rl (a1 + a0))) &&& (wfN (rl a3))) ((σ).2 (rl (σ.1 30 0)) (rl (a1 + a0))) a0 a1 a2 a3
noncomputable def m_X4_moveAll_L3_2 : Nat → S3 → Int32 → Int32 → Int32 → Int32 → S3
  | 0 => fun σ _ _ _ _ => σ
  | n + 1 => m_X4_moveAll_L3_2_b (m_X4_moveAll_L3_2 n)
noncomputable def m_X4_moveAll (σ : S3) (a0 : Int32) (a1 : Int32) (a2 : Int32) : S3 :=
  m_X4_moveAll_L3_2 2000 σ (nI 0) a0 a1 a2
set_option maxHeartbeats 4000000 in
set_option maxRecDepth 100000 in
theorem cL_X4_moveAll (l : Launch) (D : va_G) (cA ad : Nat → Nat) (t : Nat) (hI : rI ad) (F : Nat → va_E) (hW : WT cA ad F) (a1 : Nat) (ha1 : a1 ≤ 156) (b2 : Nat) (hb2 : b2 ≤ 156) (p3 : Int32) (hseal : -1 ≤ p3.toInt ∧ p3.toInt ≤ 7) : MV l D cA ad t yX4_moveAll wsX4_moveAll { frames := 0, cells := 0, slots := 0, locals := 0 } [.ref (ad 30), .int (nI a1), .int (nI b2), .int p3] F (fun F' => WT cA ad F' ∧ rFr [30, 31, 32] F F' ∧ ((True) ∧ m_X4_moveAll (AB3 ad F) (nI a1) (nI b2) p3 = AB3 ad F')) := by
  refine en_V rfl (by decide +kernel) (Nat.le_of_ble_eq_true rfl) ?_
  intro p e s m args below meth c ls0 Q S hK hZ hP hS hl0 hret
  have hl0 : lv_has ls0 9 [(0, .ref (ad 30)), (1, .int (nI a1)), (2, .int (nI b2)), (3, .int p3)] := hl0
  have hFr : rFr [30, 31, 32] F F := rFr.rf
  have hiX4 : ∀ w ∈ u_ws RX4 TX4 2, w ∈ wsX4_moveAll := by decide +kernel
  obtain ⟨M, hM⟩ : ∃ M, M = m_X4_moveAll (AB3 ad F) (nI a1) (nI b2) p3 := ⟨_, rfl⟩
  refine lv_iconst (v := (nI 0)) S.1 S.2.1 dX4_moveAll_0 (by decide +kernel) ?_
  refine lv_istore (lv' := [(4, .int (nI 0)), (0, .ref (ad 30)), (1, .int (nI a1)), (2, .int (nI b2)), (3, .int p3)]) S.1 S.2.1 dX4_moveAll_1 hl0 (by decide) rfl (fun ls1 hl1 => ?_)
  have lp2 : ∀ (n2 : Nat) (q42 : Nat), ∀ (Fl2 : Nat → va_E) (Hl2 : Heap) (lol2 : List Loc), q42 ≤ 4 → 4 - q42 < n2 → WT cA ad Fl2 → rFr [30, 31, 32] F Fl2 → va_P D vwCl (rW ad Fl2) Hl2 → va_S (rA ad) s.heap Hl2 lol2 → M = m_X4_moveAll_L3_2 n2 (AB3 ad Fl2) (nI q42) (nI a1) (nI b2) p3 → ∀ (ls : Array Slot), lv_has ls 9 [(4, .int (nI q42)), (0, .ref (ad 30)), (1, .int (nI a1)), (2, .int (nI b2)), (3, .int p3)] → W p l e { frames := 0, cells := 0, slots := 0, locals := 0 } s m args below meth c Hl2 lol2 0 0 Q (F0 m 3 ls []) := by
    intro n2
    induction n2 with
    | zero =>
      intro q42 Fl2 Hl2 lol2 iv2_0 hm2 hWl2 hFl2 hPl2 hSl2 hEl2 ls2 hl2
      exact absurd hm2 (Nat.not_lt_zero _)
    | succ n2 ih2 =>
      intro q42 Fl2 Hl2 lol2 iv2_0 hm2 hWl2 hFl2 hPl2 hSl2 hEl2 ls2 hl2
      have hE3 : M = m_X4_moveAll_L3_2_b (m_X4_moveAll_L3_2 n2) (AB3 ad Fl2) (nI q42) (nI a1) (nI b2) p3 := hEl2
      refine lv_iload S.1 S.2.1 dX4_moveAll_3 (lv_at hl2 0 rfl) ?_
      refine lv_iconst (v := (nI 4)) S.1 S.2.1 dX4_moveAll_5 (by decide +kernel) ?_
      refine lv_icmp_ge (tgt := 112) S.1 S.2.1 dX4_moveAll_6 (by decide) (fun c4 => ?_) (fun c4 => ?_)
      · skip
        have k5 := ci_le (nI_toInt (n := 4) (by omega)) (nI_toInt (n := q42) (by omega)) c4
        have hE6 : M = AB3 ad Fl2 := hE3.trans ((show m_X4_moveAll_L3_2_b (m_X4_moveAll_L3_2 n2) (AB3 ad Fl2) (nI q42) (nI a1) (nI b2) p3 = (AB3 ad Fl2) from by unfold m_X4_moveAll_L3_2_b; rw [if_pos (le_cg rfl rfl c4)]).trans rfl)
        exact hret 112 _ _ _ _ dX4_moveAll_112 hPl2 hSl2 ⟨hWl2, hFl2, ⟨trivial, hM.symm.trans hE6⟩⟩
      have k7 := ci_nle (nI_toInt (n := 4) (by omega)) (nI_toInt (n := q42) (by omega)) c4
      refine lv_aload_n S.1 S.2.1 dX4_moveAll_9 rfl (lv_at hl2 1 rfl) ?_
      obtain ⟨a8, b8, hF8, ha8, hb8⟩ := wt_search hWl2
      refine r_get S hK hPl2 30 (by decide) hF8 (C := RX4) (T := TX4) (N := 2) hiX4 rfl 0 (by decide) (by decide +kernel) (v := .ref (ad a8)) rfl dX4_moveAll_10 ?_
      have m9 : (rl ((AB3 ad Fl2).1 30 0)) = a8 := AB_r hI (lt_L (S_L ha8)) hF8 rfl
      refine lv_iload_n S.1 S.2.1 dX4_moveAll_13 rfl (lv_at hl2 2 rfl) ?_
      refine lv_iload S.1 S.2.1 dX4_moveAll_14 (lv_at hl2 0 rfl) ?_
      refine lv_iadd S.1 S.2.1 dX4_moveAll_16 ?_
      refine lv_topi (fun v10 e10 => ?_)
      obtain rfl : v10 = nI (a1 + q42) := e10.trans (nI_add _ _)
      have m11 : ((nI a1) + (nI q42)) = (nI (a1 + q42)) := cg2 (fun (x : Int32) (y : Int32) => x + y) (Eq.refl ((nI a1) : Int32)) (Eq.refl ((nI q42) : Int32)) e10
      obtain ⟨g12, hF12⟩ := wt_L hWl2 (S_L ha8)
      refine r_lald S hK hPl2 a8 (lt_L (S_L ha8)) hF12 (vp_in_nI (show a1 + q42 < 160 by omega) (by omega)) dX4_moveAll_17 ?_
      refine lv_topl (fun v14 e14 => ?_)
      have m15 : (((AB3 ad Fl2)).2 (rl ((AB3 ad Fl2).1 30 0)) (rl ((nI a1) + (nI q42)))) = v14 := (al_cg m9 m11).trans ((AM_g hF12).trans e14.symm)
      refine lv_lstore (lv' := [(5, .long v14), (4, .int (nI q42)), (0, .ref (ad 30)), (1, .int (nI a1)), (2, .int (nI b2)), (3, .int p3)]) S.1 S.2.1 dX4_moveAll_18 hl2 (by decide) rfl (fun ls16 hl16 => ?_)
      refine lv_iload_n S.1 S.2.1 dX4_moveAll_20 rfl (lv_at hl16 5 rfl) ?_
      refine lv_iconst (v := (-1)) S.1 S.2.1 dX4_moveAll_21 (by decide +kernel) ?_
      refine lv_icmp_ne (tgt := 42) S.1 S.2.1 dX4_moveAll_22 (by decide) (fun c17 => ?_) (fun c17 => ?_)
      · skip
        have k18 := ci_ne rfl (show ((-1) : Int32).toInt = -1 by decide +kernel) c17
        refine lv_iload_n S.1 S.2.1 dX4_moveAll_42 rfl (lv_at hl16 5 rfl) ?_
        refine lv_bipush (v := (nI 6)) S.1 S.2.1 dX4_moveAll_43 (by decide +kernel) ?_
        refine lv_icmp_ge (tgt := 85) S.1 S.2.1 dX4_moveAll_45 (by decide) (fun c19 => ?_) (fun c19 => ?_)
        · skip
          have k20 := ci_le (nI_toInt (n := 6) (by omega)) rfl c19
          refine lv_aload_n S.1 S.2.1 dX4_moveAll_85 rfl (lv_at hl16 2 rfl) ?_
          refine r_get S hK hPl2 30 (by decide) hF8 (C := RX4) (T := TX4) (N := 2) hiX4 rfl 1 (by decide) (by decide +kernel) (v := .ref (ad b8)) rfl dX4_moveAll_86 ?_
          have m21 : (rl ((AB3 ad Fl2).1 30 1)) = b8 := AB_r hI (lt_L (S_L hb8)) hF8 rfl
          refine lv_iload_n S.1 S.2.1 dX4_moveAll_89 rfl (lv_at hl16 4 rfl) ?_
          refine lv_iload S.1 S.2.1 dX4_moveAll_90 (lv_at hl16 1 rfl) ?_
          refine lv_iconst (v := (nI 1)) S.1 S.2.1 dX4_moveAll_92 (by decide +kernel) ?_
          refine lv_iload_n S.1 S.2.1 dX4_moveAll_93 rfl (lv_at hl16 5 rfl) ?_
          refine lv_bipush (v := (nI 6)) S.1 S.2.1 dX4_moveAll_94 (by decide +kernel) ?_
          refine lv_isub S.1 S.2.1 dX4_moveAll_96 ?_
          refine lv_topi (fun v22 e22 => ?_)
          have m23 : (p3 - (nI 6)) = v22 := cg2 (fun (x : Int32) (y : Int32) => x - y) (Eq.refl (p3 : Int32)) (Eq.refl ((nI 6) : Int32)) e22
          refine lv_ishl S.1 S.2.1 dX4_moveAll_97 ?_
          refine lv_topi (fun v24 e24 => ?_)
          have m25 : ((nI 1) <<< ((p3 - (nI 6)) &&& 31)) = v24 := cg2 (fun (x : Int32) (y : Int32) => x <<< (y &&& 31)) (Eq.refl ((nI 1) : Int32)) m23 e24
          refine lv_ior S.1 S.2.1 dX4_moveAll_98 ?_
          refine lv_topi (fun v26 e26 => ?_)
          have m27 : ((nI q42) ||| ((nI 1) <<< ((p3 - (nI 6)) &&& 31))) = v26 := cg2 (fun (x : Int32) (y : Int32) => x ||| y) (Eq.refl ((nI q42) : Int32)) m25 e26
          obtain ⟨w28, hw28, ew28⟩ := or_w (w := q42) (q := p3) (by omega) (by omega) (by omega)
          obtain rfl : v26 = nI w28 := by rw [e26, e24, e22]; exact ew28
          refine lv_iadd S.1 S.2.1 dX4_moveAll_99 ?_
          refine lv_topi (fun v29 e29 => ?_)
          obtain rfl : v29 = nI (b2 + w28) := e29.trans (nI_add _ _)
          have m30 : ((nI b2) + ((nI q42) ||| ((nI 1) <<< ((p3 - (nI 6)) &&& 31)))) = (nI (b2 + w28)) := cg2 (fun (x : Int32) (y : Int32) => x + y) (Eq.refl ((nI b2) : Int32)) m27 e29
          refine lv_dup2_11 S.1 S.2.1 dX4_moveAll_100 rfl rfl ?_
          obtain ⟨g31, hF31⟩ := wt_L hWl2 (S_L hb8)
          refine r_lald S hK hPl2 b8 (lt_L (S_L hb8)) hF31 (vp_in_nI (show b2 + w28 < 160 by omega) (by omega)) dX4_moveAll_101 ?_
          refine lv_topl (fun v33 e33 => ?_)
          have m34 : (((AB3 ad Fl2)).2 (rl ((AB3 ad Fl2).1 30 1)) (rl ((nI b2) + ((nI q42) ||| ((nI 1) <<< ((p3 - (nI 6)) &&& 31)))))) = v33 := (al_cg m21 m30).trans ((AM_g hF31).trans e33.symm)
          refine lv_lload S.1 S.2.1 dX4_moveAll_102 (lv_at hl16 0 rfl) ?_
          refine lv_lor S.1 S.2.1 dX4_moveAll_104 ?_
          refine lv_topl (fun v35 e35 => ?_)
          have m36 : ((((AB3 ad Fl2)).2 (rl ((AB3 ad Fl2).1 30 1)) (rl ((nI b2) + ((nI q42) ||| ((nI 1) <<< ((p3 - (nI 6)) &&& 31)))))) ||| (((AB3 ad Fl2)).2 (rl ((AB3 ad Fl2).1 30 0)) (rl ((nI a1) + (nI q42))))) = v35 := cg2 (fun (x : Int64) (y : Int64) => x ||| y) m34 m15 e35
          refine r_last S hI hK hPl2 hSl2 b8 (lt_L (S_L hb8)) hF31 (vp_in_nI (show b2 + w28 < 160 by omega) (by omega)) dX4_moveAll_105 (fun F37 H37 locs37 eF37 hP37 hS37 => ?_)
          have hW37 := hWl2.up eF37 (ok_L (S_L hb8) ⟨_, rfl⟩)
          have hFr37 := hFl2.up eF37 (by simp <;> first | omega | (simp only [isC, isJ] at *; omega))
          have hE39 : M = m_X4_moveAll_38 (m_X4_moveAll_L3_2 n2) (AB3 ad F37) v14 (nI q42) (nI a1) (nI b2) p3 := hE3.trans ((show m_X4_moveAll_L3_2_b (m_X4_moveAll_L3_2 n2) (AB3 ad Fl2) (nI q42) (nI a1) (nI b2) p3 = m_X4_moveAll_38 (m_X4_moveAll_L3_2 n2) ((AB3 ad Fl2).1, stL ((AB3 ad Fl2)).2 (rl ((AB3 ad Fl2).1 30 1)) (rl ((nI b2) + ((nI q42) ||| ((nI 1) <<< ((p3 - (nI 6)) &&& 31))))) ((((AB3 ad Fl2)).2 (rl ((AB3 ad Fl2).1 30 1)) (rl ((nI b2) + ((nI q42) ||| ((nI 1) <<< ((p3 - (nI 6)) &&& 31)))))) ||| (((AB3 ad Fl2)).2 (rl ((AB3 ad Fl2).1 30 0)) (rl ((nI a1) + (nI q42)))))) (((AB3 ad Fl2)).2 (rl ((AB3 ad Fl2).1 30 0)) (rl ((nI a1) + (nI q42)))) (nI q42) (nI a1) (nI b2) p3 from by unfold m_X4_moveAll_L3_2_b; rw [if_neg (nle_cg rfl rfl c4), if_neg (neq_cg rfl rfl c17), if_pos (le_cg rfl rfl c19)]).trans (congr (congr (congr (congr (congr (congrArg (m_X4_moveAll_38 (m_X4_moveAll_L3_2 n2)) (AM_cg m21 m30 m36 (AM_ast hF31 eF37))) m15) (Eq.refl ((nI q42) : Int32))) (Eq.refl ((nI a1) : Int32))) (Eq.refl ((nI b2) : Int32))) (Eq.refl (p3 : Int32))))
          have m41 : ((nI q42) + Int32.ofInt (1)) = (nI (q42 + 1)) := (congrArg (fun q : Int32 => q + Int32.ofInt (1)) rfl).trans (nI_add _ 1)
          refine lv_iinc (v := (nI (q42 + 1))) (lv' := [(4, .int (nI (q42 + 1))), (5, .long v14), (0, .ref (ad 30)), (1, .int (nI a1)), (2, .int (nI b2)), (3, .int p3)]) S.1 S.2.1 dX4_moveAll_106 hl16 (k := 1) rfl (nI_add _ 1) (by decide) rfl (fun ls40 hl40 => ?_)
          refine lv_goto (tgt := 3) S.1 S.2.1 dX4_moveAll_109 (by decide) ?_
          have hE42 : M = (m_X4_moveAll_L3_2 n2) (AB3 ad F37) (nI (q42 + 1)) (nI a1) (nI b2) p3 := hE39.trans ((show m_X4_moveAll_38 (m_X4_moveAll_L3_2 n2) (AB3 ad F37) v14 (nI q42) (nI a1) (nI b2) p3 = (m_X4_moveAll_L3_2 n2) (AB3 ad F37) ((nI q42) + Int32.ofInt (1)) (nI a1) (nI b2) p3 from rfl).trans (congr (congr (congr (congr (congrArg ((m_X4_moveAll_L3_2 n2)) (rfl : AB3 ad F37 = AB3 ad F37)) m41) (Eq.refl ((nI a1) : Int32))) (Eq.refl ((nI b2) : Int32))) (Eq.refl (p3 : Int32))))
          exact ih2 (q42 + 1) F37 H37 locs37 (by omega) (by omega) hW37 hFr37 hP37 hS37 hE42 ls40 (lv_sub hl40 [0, 2, 3, 4, 5] rfl)
        have k43 := ci_nle (nI_toInt (n := 6) (by omega)) rfl c19
        refine lv_lload S.1 S.2.1 dX4_moveAll_48 (lv_at hl16 0 rfl) ?_
        refine va_gets S.1 S.2.1 hZ.1 hSl2 S.2.2.2.1 (S.2.2.2.2 (.fieldLink RX4 73 "JourneyRoads$SealSearch" "WITHOUT" "[J") (by decide +kernel)) (fun _ h => h) dX4_moveAll_50 ?_
        refine lv_iload_n S.1 S.2.1 dX4_moveAll_53 rfl (lv_at hl16 5 rfl) ?_
        have hT44 := hZ.2.1
        refine va_tl S.1 S.2.1 hT44 hSl2 (in_of (n := 6) (a := p3.toInt) rfl (by omega) (by omega)) rfl dX4_moveAll_54 ?_
        refine lv_topl (fun v45 e45 => ?_)
        have m46 : (wfN (rl p3)) = v45 := (congrArg (fun q : Int32 => wfN (rl q)) (Eq.refl (p3 : Int32))).trans e45.symm
        refine lv_land S.1 S.2.1 dX4_moveAll_55 ?_
        refine lv_topl (fun v47 e47 => ?_)
        have m48 : ((((AB3 ad Fl2)).2 (rl ((AB3 ad Fl2).1 30 0)) (rl ((nI a1) + (nI q42)))) &&& (wfN (rl p3))) = v47 := cg2 (fun (x : Int64) (y : Int64) => x &&& y) m15 m46 e47
        refine lv_lstore (lv' := [(7, .long v47), (5, .long v14), (4, .int (nI q42)), (0, .ref (ad 30)), (1, .int (nI a1)), (2, .int (nI b2)), (3, .int p3)]) S.1 S.2.1 dX4_moveAll_56 hl16 (by decide) rfl (fun ls49 hl49 => ?_)
        refine lv_aload_n S.1 S.2.1 dX4_moveAll_58 rfl (lv_at hl49 3 rfl) ?_
        refine r_get S hK hPl2 30 (by decide) hF8 (C := RX4) (T := TX4) (N := 2) hiX4 rfl 1 (by decide) (by decide +kernel) (v := .ref (ad b8)) rfl dX4_moveAll_59 ?_
        have m50 : (rl ((AB3 ad Fl2).1 30 1)) = b8 := AB_r hI (lt_L (S_L hb8)) hF8 rfl
        refine lv_iload_n S.1 S.2.1 dX4_moveAll_62 rfl (lv_at hl49 5 rfl) ?_
        refine lv_iload S.1 S.2.1 dX4_moveAll_63 (lv_at hl49 2 rfl) ?_
        refine lv_iadd S.1 S.2.1 dX4_moveAll_65 ?_
        refine lv_topi (fun v51 e51 => ?_)
        obtain rfl : v51 = nI (b2 + q42) := e51.trans (nI_add _ _)
        have m52 : ((nI b2) + (nI q42)) = (nI (b2 + q42)) := cg2 (fun (x : Int32) (y : Int32) => x + y) (Eq.refl ((nI b2) : Int32)) (Eq.refl ((nI q42) : Int32)) e51
        refine lv_dup2_11 S.1 S.2.1 dX4_moveAll_66 rfl rfl ?_
        obtain ⟨g53, hF53⟩ := wt_L hWl2 (S_L hb8)
        refine r_lald S hK hPl2 b8 (lt_L (S_L hb8)) hF53 (vp_in_nI (show b2 + q42 < 160 by omega) (by omega)) dX4_moveAll_67 ?_
        refine lv_topl (fun v55 e55 => ?_)
        have m56 : (((AB3 ad Fl2)).2 (rl ((AB3 ad Fl2).1 30 1)) (rl ((nI b2) + (nI q42)))) = v55 := (al_cg m50 m52).trans ((AM_g hF53).trans e55.symm)
        refine lv_lload S.1 S.2.1 dX4_moveAll_68 (lv_at hl49 1 rfl) ?_
        refine lv_lload S.1 S.2.1 dX4_moveAll_70 (lv_at hl49 0 rfl) ?_
        refine lv_lxor S.1 S.2.1 dX4_moveAll_72 ?_
        refine lv_topl (fun v57 e57 => ?_)
        have m58 : ((((AB3 ad Fl2)).2 (rl ((AB3 ad Fl2).1 30 0)) (rl ((nI a1) + (nI q42)))) ^^^ ((((AB3 ad Fl2)).2 (rl ((AB3 ad Fl2).1 30 0)) (rl ((nI a1) + (nI q42)))) &&& (wfN (rl p3)))) = v57 := cg2 (fun (x : Int64) (y : Int64) => x ^^^ y) m15 m48 e57
        refine lv_lload S.1 S.2.1 dX4_moveAll_73 (lv_at hl49 0 rfl) ?_
        refine lv_iconst (v := (nI 1)) S.1 S.2.1 dX4_moveAll_75 (by decide +kernel) ?_
        refine lv_iload_n S.1 S.2.1 dX4_moveAll_76 rfl (lv_at hl49 6 rfl) ?_
        refine lv_ishl S.1 S.2.1 dX4_moveAll_77 ?_
        refine lv_topi (fun v59 e59 => ?_)
        have m60 : ((nI 1) <<< (p3 &&& 31)) = v59 := cg2 (fun (x : Int32) (y : Int32) => x <<< (y &&& 31)) (Eq.refl ((nI 1) : Int32)) (Eq.refl (p3 : Int32)) e59
        refine lv_lshl S.1 S.2.1 dX4_moveAll_78 rfl ?_
        refine lv_topl (fun v61 e61 => ?_)
        have m62 : (((((AB3 ad Fl2)).2 (rl ((AB3 ad Fl2).1 30 0)) (rl ((nI a1) + (nI q42)))) &&& (wfN (rl p3))) <<< (((nI 1) <<< (p3 &&& 31)).toInt64 &&& 63)) = v61 := cg2 (fun (x : Int64) (y : Int32) => x <<< (y.toInt64 &&& 63)) m48 m60 e61
        refine lv_lor S.1 S.2.1 dX4_moveAll_79 ?_
        refine lv_topl (fun v63 e63 => ?_)
        have m64 : (((((AB3 ad Fl2)).2 (rl ((AB3 ad Fl2).1 30 0)) (rl ((nI a1) + (nI q42)))) ^^^ ((((AB3 ad Fl2)).2 (rl ((AB3 ad Fl2).1 30 0)) (rl ((nI a1) + (nI q42)))) &&& (wfN (rl p3)))) ||| (((((AB3 ad Fl2)).2 (rl ((AB3 ad Fl2).1 30 0)) (rl ((nI a1) + (nI q42)))) &&& (wfN (rl p3))) <<< (((nI 1) <<< (p3 &&& 31)).toInt64 &&& 63))) = v63 := cg2 (fun (x : Int64) (y : Int64) => x ||| y) m58 m62 e63
        refine lv_lor S.1 S.2.1 dX4_moveAll_80 ?_
        refine lv_topl (fun v65 e65 => ?_)
        have m66 : ((((AB3 ad Fl2)).2 (rl ((AB3 ad Fl2).1 30 1)) (rl ((nI b2) + (nI q42)))) ||| (((((AB3 ad Fl2)).2 (rl ((AB3 ad Fl2).1 30 0)) (rl ((nI a1) + (nI q42)))) ^^^ ((((AB3 ad Fl2)).2 (rl ((AB3 ad Fl2).1 30 0)) (rl ((nI a1) + (nI q42)))) &&& (wfN (rl p3)))) ||| (((((AB3 ad Fl2)).2 (rl ((AB3 ad Fl2).1 30 0)) (rl ((nI a1) + (nI q42)))) &&& (wfN (rl p3))) <<< (((nI 1) <<< (p3 &&& 31)).toInt64 &&& 63)))) = v65 := cg2 (fun (x : Int64) (y : Int64) => x ||| y) m56 m64 e65
        refine r_last S hI hK hPl2 hSl2 b8 (lt_L (S_L hb8)) hF53 (vp_in_nI (show b2 + q42 < 160 by omega) (by omega)) dX4_moveAll_81 (fun F67 H67 locs67 eF67 hP67 hS67 => ?_)
        have hW67 := hWl2.up eF67 (ok_L (S_L hb8) ⟨_, rfl⟩)
        have hFr67 := hFl2.up eF67 (by simp <;> first | omega | (simp only [isC, isJ] at *; omega))
        have hE69 : M = m_X4_moveAll_68 (m_X4_moveAll_L3_2 n2) (AB3 ad F67) v47 v14 (nI q42) (nI a1) (nI b2) p3 := hE3.trans ((show m_X4_moveAll_L3_2_b (m_X4_moveAll_L3_2 n2) (AB3 ad Fl2) (nI q42) (nI a1) (nI b2) p3 = m_X4_moveAll_68 (m_X4_moveAll_L3_2 n2) ((AB3 ad Fl2).1, stL ((AB3 ad Fl2)).2 (rl ((AB3 ad Fl2).1 30 1)) (rl ((nI b2) + (nI q42))) ((((AB3 ad Fl2)).2 (rl ((AB3 ad Fl2).1 30 1)) (rl ((nI b2) + (nI q42)))) ||| (((((AB3 ad Fl2)).2 (rl ((AB3 ad Fl2).1 30 0)) (rl ((nI a1) + (nI q42)))) ^^^ ((((AB3 ad Fl2)).2 (rl ((AB3 ad Fl2).1 30 0)) (rl ((nI a1) + (nI q42)))) &&& (wfN (rl p3)))) ||| (((((AB3 ad Fl2)).2 (rl ((AB3 ad Fl2).1 30 0)) (rl ((nI a1) + (nI q42)))) &&& (wfN (rl p3))) <<< (((nI 1) <<< (p3 &&& 31)).toInt64 &&& 63))))) ((((AB3 ad Fl2)).2 (rl ((AB3 ad Fl2).1 30 0)) (rl ((nI a1) + (nI q42)))) &&& (wfN (rl p3))) (((AB3 ad Fl2)).2 (rl ((AB3 ad Fl2).1 30 0)) (rl ((nI a1) + (nI q42)))) (nI q42) (nI a1) (nI b2) p3 from by unfold m_X4_moveAll_L3_2_b; rw [if_neg (nle_cg rfl rfl c4), if_neg (neq_cg rfl rfl c17), if_neg (nle_cg rfl rfl c19)]).trans (congr (congr (congr (congr (congr (congr (congrArg (m_X4_moveAll_68 (m_X4_moveAll_L3_2 n2)) (AM_cg m50 m52 m66 (AM_ast hF53 eF67))) m48) m15) (Eq.refl ((nI q42) : Int32))) (Eq.refl ((nI a1) : Int32))) (Eq.refl ((nI b2) : Int32))) (Eq.refl (p3 : Int32))))
        refine lv_goto (tgt := 106) S.1 S.2.1 dX4_moveAll_82 (by decide) ?_
        have m71 : ((nI q42) + Int32.ofInt (1)) = (nI (q42 + 1)) := (congrArg (fun q : Int32 => q + Int32.ofInt (1)) rfl).trans (nI_add _ 1)
        refine lv_iinc (v := (nI (q42 + 1))) (lv' := [(4, .int (nI (q42 + 1))), (7, .long v47), (5, .long v14), (0, .ref (ad 30)), (1, .int (nI a1)), (2, .int (nI b2)), (3, .int p3)]) S.1 S.2.1 dX4_moveAll_106 hl49 (k := 2) rfl (nI_add _ 1) (by decide) rfl (fun ls70 hl70 => ?_)
        refine lv_goto (tgt := 3) S.1 S.2.1 dX4_moveAll_109 (by decide) ?_
        have hE72 : M = (m_X4_moveAll_L3_2 n2) (AB3 ad F67) (nI (q42 + 1)) (nI a1) (nI b2) p3 := hE69.trans ((show m_X4_moveAll_68 (m_X4_moveAll_L3_2 n2) (AB3 ad F67) v47 v14 (nI q42) (nI a1) (nI b2) p3 = (m_X4_moveAll_L3_2 n2) (AB3 ad F67) ((nI q42) + Int32.ofInt (1)) (nI a1) (nI b2) p3 from rfl).trans (congr (congr (congr (congr (congrArg ((m_X4_moveAll_L3_2 n2)) (rfl : AB3 ad F67 = AB3 ad F67)) m71) (Eq.refl ((nI a1) : Int32))) (Eq.refl ((nI b2) : Int32))) (Eq.refl (p3 : Int32))))
        exact ih2 (q42 + 1) F67 H67 locs67 (by omega) (by omega) hW67 hFr67 hP67 hS67 hE72 ls70 (lv_sub hl70 [0, 3, 4, 5, 6] rfl)
      have k73 := ci_eq rfl (show ((-1) : Int32).toInt = -1 by decide +kernel) c17
      refine lv_aload_n S.1 S.2.1 dX4_moveAll_25 rfl (lv_at hl16 2 rfl) ?_
      refine r_get S hK hPl2 30 (by decide) hF8 (C := RX4) (T := TX4) (N := 2) hiX4 rfl 1 (by decide) (by decide +kernel) (v := .ref (ad b8)) rfl dX4_moveAll_26 ?_
      have m74 : (rl ((AB3 ad Fl2).1 30 1)) = b8 := AB_r hI (lt_L (S_L hb8)) hF8 rfl
      refine lv_iload_n S.1 S.2.1 dX4_moveAll_29 rfl (lv_at hl16 4 rfl) ?_
      refine lv_iload S.1 S.2.1 dX4_moveAll_30 (lv_at hl16 1 rfl) ?_
      refine lv_iadd S.1 S.2.1 dX4_moveAll_32 ?_
      refine lv_topi (fun v75 e75 => ?_)
      obtain rfl : v75 = nI (b2 + q42) := e75.trans (nI_add _ _)
      have m76 : ((nI b2) + (nI q42)) = (nI (b2 + q42)) := cg2 (fun (x : Int32) (y : Int32) => x + y) (Eq.refl ((nI b2) : Int32)) (Eq.refl ((nI q42) : Int32)) e75
      refine lv_dup2_11 S.1 S.2.1 dX4_moveAll_33 rfl rfl ?_
      obtain ⟨g77, hF77⟩ := wt_L hWl2 (S_L hb8)
      refine r_lald S hK hPl2 b8 (lt_L (S_L hb8)) hF77 (vp_in_nI (show b2 + q42 < 160 by omega) (by omega)) dX4_moveAll_34 ?_
      refine lv_topl (fun v79 e79 => ?_)
      have m80 : (((AB3 ad Fl2)).2 (rl ((AB3 ad Fl2).1 30 1)) (rl ((nI b2) + (nI q42)))) = v79 := (al_cg m74 m76).trans ((AM_g hF77).trans e79.symm)
      refine lv_lload S.1 S.2.1 dX4_moveAll_35 (lv_at hl16 0 rfl) ?_
      refine lv_lor S.1 S.2.1 dX4_moveAll_37 ?_
      refine lv_topl (fun v81 e81 => ?_)
      have m82 : ((((AB3 ad Fl2)).2 (rl ((AB3 ad Fl2).1 30 1)) (rl ((nI b2) + (nI q42)))) ||| (((AB3 ad Fl2)).2 (rl ((AB3 ad Fl2).1 30 0)) (rl ((nI a1) + (nI q42))))) = v81 := cg2 (fun (x : Int64) (y : Int64) => x ||| y) m80 m15 e81
      refine r_last S hI hK hPl2 hSl2 b8 (lt_L (S_L hb8)) hF77 (vp_in_nI (show b2 + q42 < 160 by omega) (by omega)) dX4_moveAll_38 (fun F83 H83 locs83 eF83 hP83 hS83 => ?_)
      have hW83 := hWl2.up eF83 (ok_L (S_L hb8) ⟨_, rfl⟩)
      have hFr83 := hFl2.up eF83 (by simp <;> first | omega | (simp only [isC, isJ] at *; omega))
      have hE85 : M = m_X4_moveAll_84 (m_X4_moveAll_L3_2 n2) (AB3 ad F83) v14 (nI q42) (nI a1) (nI b2) p3 := hE3.trans ((show m_X4_moveAll_L3_2_b (m_X4_moveAll_L3_2 n2) (AB3 ad Fl2) (nI q42) (nI a1) (nI b2) p3 = m_X4_moveAll_84 (m_X4_moveAll_L3_2 n2) ((AB3 ad Fl2).1, stL ((AB3 ad Fl2)).2 (rl ((AB3 ad Fl2).1 30 1)) (rl ((nI b2) + (nI q42))) ((((AB3 ad Fl2)).2 (rl ((AB3 ad Fl2).1 30 1)) (rl ((nI b2) + (nI q42)))) ||| (((AB3 ad Fl2)).2 (rl ((AB3 ad Fl2).1 30 0)) (rl ((nI a1) + (nI q42)))))) (((AB3 ad Fl2)).2 (rl ((AB3 ad Fl2).1 30 0)) (rl ((nI a1) + (nI q42)))) (nI q42) (nI a1) (nI b2) p3 from by unfold m_X4_moveAll_L3_2_b; rw [if_neg (nle_cg rfl rfl c4), if_pos (eq_cg rfl rfl c17)]).trans (congr (congr (congr (congr (congr (congrArg (m_X4_moveAll_84 (m_X4_moveAll_L3_2 n2)) (AM_cg m74 m76 m82 (AM_ast hF77 eF83))) m15) (Eq.refl ((nI q42) : Int32))) (Eq.refl ((nI a1) : Int32))) (Eq.refl ((nI b2) : Int32))) (Eq.refl (p3 : Int32))))
      refine lv_goto (tgt := 106) S.1 S.2.1 dX4_moveAll_39 (by decide) ?_
      have m87 : ((nI q42) + Int32.ofInt (1)) = (nI (q42 + 1)) := (congrArg (fun q : Int32 => q + Int32.ofInt (1)) rfl).trans (nI_add _ 1)
      refine lv_iinc (v := (nI (q42 + 1))) (lv' := [(4, .int (nI (q42 + 1))), (5, .long v14), (0, .ref (ad 30)), (1, .int (nI a1)), (2, .int (nI b2)), (3, .int p3)]) S.1 S.2.1 dX4_moveAll_106 hl16 (k := 1) rfl (nI_add _ 1) (by decide) rfl (fun ls86 hl86 => ?_)
      refine lv_goto (tgt := 3) S.1 S.2.1 dX4_moveAll_109 (by decide) ?_
      have hE88 : M = (m_X4_moveAll_L3_2 n2) (AB3 ad F83) (nI (q42 + 1)) (nI a1) (nI b2) p3 := hE85.trans ((show m_X4_moveAll_84 (m_X4_moveAll_L3_2 n2) (AB3 ad F83) v14 (nI q42) (nI a1) (nI b2) p3 = (m_X4_moveAll_L3_2 n2) (AB3 ad F83) ((nI q42) + Int32.ofInt (1)) (nI a1) (nI b2) p3 from rfl).trans (congr (congr (congr (congr (congrArg ((m_X4_moveAll_L3_2 n2)) (rfl : AB3 ad F83 = AB3 ad F83)) m87) (Eq.refl ((nI a1) : Int32))) (Eq.refl ((nI b2) : Int32))) (Eq.refl (p3 : Int32))))
      exact ih2 (q42 + 1) F83 H83 locs83 (by omega) (by omega) hW83 hFr83 hP83 hS83 hE88 ls86 (lv_sub hl86 [0, 2, 3, 4, 5] rfl)
  have hE89 : M = m_X4_moveAll_L3_2 2000 (AB3 ad F) (nI 0) (nI a1) (nI b2) p3 := hM.trans ((show m_X4_moveAll (AB3 ad F) (nI a1) (nI b2) p3 = m_X4_moveAll_L3_2 2000 (AB3 ad F) (nI 0) (nI a1) (nI b2) p3 from rfl).trans (congr (congr (congr (congr (congrArg (m_X4_moveAll_L3_2 2000) (rfl : AB3 ad F = AB3 ad F)) (Eq.refl ((nI 0) : Int32))) (Eq.refl ((nI a1) : Int32))) (Eq.refl ((nI b2) : Int32))) (Eq.refl (p3 : Int32))))
  exact lp2 2000 (0) F s.heap [] (by omega) (by omega) hW hFr hP hS hE89 ls1 (lv_sub hl1 [0, 1, 2, 3, 4] rfl)
noncomputable def m_X4_walkAll_24 (k0 : S3 → Int32 → Nat → Int32 → Int32 → S3) (σ : S3) (a0 : Int32) (a1 : Nat) (a2 : Int32) (a3 : Int32) : S3 :=
  k0 σ (a0 + Int32.ofInt (1)) a1 a2 a3
noncomputable def m_X4_walkAll_L3_2_b (k0 : S3 → Int32 → Nat → Int32 → Int32 → S3) (σ : S3) (a0 : Int32) (a1 : Nat) (a2 : Int32) (a3 : Int32) : S3 :=
  if (σ.1 a1 2) ≤ a0 then
    σ
  else
    if ((a3 >>> (a0 &&& 31)) &&& (nI 1)) = (0 : Int32) then
      k0 σ (a0 + Int32.ofInt (1)) a1 a2 a3
    else
      m_X4_walkAll_24 k0 (m_X4_moveAll σ a2 (m_X4_cell σ.1 a0 (nI 0)) ((-1) : Int32)) a0 a1 a2 a3
noncomputable def m_X4_walkAll_L3_2 : Nat → S3 → Int32 → Nat → Int32 → Int32 → S3
  | 0 => fun σ _ _ _ _ => σ
  | n + 1 => m_X4_walkAll_L3_2_b (m_X4_walkAll_L3_2 n)
noncomputable def m_X4_walkAll (σ : S3) (a0 : Nat) (a1 : Int32) (a2 : Int32) : S3 :=
  m_X4_walkAll_L3_2 2000 σ (nI 0) a0 a1 a2
set_option maxHeartbeats 4000000 in
set_option maxRecDepth 100000 in
theorem cL_X4_walkAll (l : Launch) (D : va_G) (cA ad : Nat → Nat) (t : Nat) (hI : rI ad) (F : Nat → va_E) (hW : WT cA ad F) (rc : Nat) (hrc : isC rc) (a2 : Nat) (ha2 : a2 ≤ 156) (p3 : Int32) : MV l D cA ad t yX4_walkAll wsX4_walkAll { frames := 1, cells := 0, slots := 0, locals := 28 } [.ref (ad 30), .ref (ad rc), .int (nI a2), .int p3] F (fun F' => WT cA ad F' ∧ rFr [30, 31, 32] F F' ∧ ((True) ∧ m_X4_walkAll (AB3 ad F) rc (nI a2) p3 = AB3 ad F')) := by
  refine en_V rfl (by decide +kernel) (Nat.le_of_ble_eq_true rfl) ?_
  intro p e s m args below meth c ls0 Q S hK hZ hP hS hl0 hret
  have hl0 : lv_has ls0 5 [(0, .ref (ad 30)), (1, .ref (ad rc)), (2, .int (nI a2)), (3, .int p3)] := hl0
  have hFr : rFr [30, 31, 32] F F := rFr.rf
  have hiX0 : ∀ w ∈ u_ws RX0 TX0 10, w ∈ wsX4_walkAll := by decide +kernel
  obtain ⟨M, hM⟩ : ∃ M, M = m_X4_walkAll (AB3 ad F) rc (nI a2) p3 := ⟨_, rfl⟩
  refine lv_iconst (v := (nI 0)) S.1 S.2.1 dX4_walkAll_0 (by decide +kernel) ?_
  refine lv_istore (lv' := [(4, .int (nI 0)), (0, .ref (ad 30)), (1, .ref (ad rc)), (2, .int (nI a2)), (3, .int p3)]) S.1 S.2.1 dX4_walkAll_1 hl0 (by decide) rfl (fun ls1 hl1 => ?_)
  have lp2 : ∀ (n2 : Nat) (q42 : Nat), ∀ (Fl2 : Nat → va_E) (Hl2 : Heap) (lol2 : List Loc), q42 ≤ 8 → 8 - q42 < n2 → WT cA ad Fl2 → rFr [30, 31, 32] F Fl2 → va_P D vwCl (rW ad Fl2) Hl2 → va_S (rA ad) s.heap Hl2 lol2 → M = m_X4_walkAll_L3_2 n2 (AB3 ad Fl2) (nI q42) rc (nI a2) p3 → ∀ (ls : Array Slot), lv_has ls 5 [(4, .int (nI q42)), (0, .ref (ad 30)), (1, .ref (ad rc)), (2, .int (nI a2)), (3, .int p3)] → W p l e { frames := 1, cells := 0, slots := 0, locals := 28 } s m args below meth c Hl2 lol2 0 0 Q (F0 m 3 ls []) := by
    intro n2
    induction n2 with
    | zero =>
      intro q42 Fl2 Hl2 lol2 iv2_0 hm2 hWl2 hFl2 hPl2 hSl2 hEl2 ls2 hl2
      exact absurd hm2 (Nat.not_lt_zero _)
    | succ n2 ih2 =>
      intro q42 Fl2 Hl2 lol2 iv2_0 hm2 hWl2 hFl2 hPl2 hSl2 hEl2 ls2 hl2
      have hE3 : M = m_X4_walkAll_L3_2_b (m_X4_walkAll_L3_2 n2) (AB3 ad Fl2) (nI q42) rc (nI a2) p3 := hEl2
      refine lv_iload S.1 S.2.1 dX4_walkAll_3 (lv_at hl2 0 rfl) ?_
      refine lv_aload_n S.1 S.2.1 dX4_walkAll_5 rfl (lv_at hl2 2 rfl) ?_
      obtain ⟨sl4, fm4, tn4, rn4, bn4, hF4, hb4_1, hb4_2, hb4_3⟩ := wt_C hWl2 hrc
      refine r_get S hK hPl2 rc (lt_C hrc) hF4 (C := RX0) (T := TX0) (N := 10) hiX0 rfl 2 (by decide) (by decide +kernel) (v := .int (nI tn4)) rfl dX4_walkAll_6 ?_
      have m5 : ((AB3 ad Fl2).1 rc 2) = (nI tn4) := (congrArg (fun q => AB ad Fl2 q 2) rfl).trans (AB_f hF4 rfl)
      refine lv_icmp_ge (tgt := 39) S.1 S.2.1 dX4_walkAll_9 (by decide) (fun c6 => ?_) (fun c6 => ?_)
      · skip
        have k7 := ci_le (nI_toInt (n := tn4) (by omega)) (nI_toInt (n := q42) (by omega)) c6
        have hE8 : M = AB3 ad Fl2 := hE3.trans ((show m_X4_walkAll_L3_2_b (m_X4_walkAll_L3_2 n2) (AB3 ad Fl2) (nI q42) rc (nI a2) p3 = (AB3 ad Fl2) from by unfold m_X4_walkAll_L3_2_b; rw [if_pos (le_cg m5 rfl c6)]).trans rfl)
        exact hret 39 _ _ _ _ dX4_walkAll_39 hPl2 hSl2 ⟨hWl2, hFl2, ⟨trivial, hM.symm.trans hE8⟩⟩
      have k9 := ci_nle (nI_toInt (n := tn4) (by omega)) (nI_toInt (n := q42) (by omega)) c6
      refine lv_iload_n S.1 S.2.1 dX4_walkAll_12 rfl (lv_at hl2 4 rfl) ?_
      refine lv_iload S.1 S.2.1 dX4_walkAll_13 (lv_at hl2 0 rfl) ?_
      refine lv_ishr S.1 S.2.1 dX4_walkAll_15 ?_
      refine lv_topi (fun v10 e10 => ?_)
      have m11 : (p3 >>> ((nI q42) &&& 31)) = v10 := cg2 (fun (x : Int32) (y : Int32) => x >>> (y &&& 31)) (Eq.refl (p3 : Int32)) (Eq.refl ((nI q42) : Int32)) e10
      refine lv_iconst (v := (nI 1)) S.1 S.2.1 dX4_walkAll_16 (by decide +kernel) ?_
      refine lv_iand S.1 S.2.1 dX4_walkAll_17 ?_
      refine lv_topi (fun v12 e12 => ?_)
      have m13 : ((p3 >>> ((nI q42) &&& 31)) &&& (nI 1)) = v12 := cg2 (fun (x : Int32) (y : Int32) => x &&& y) m11 (Eq.refl ((nI 1) : Int32)) e12
      refine lv_if_eq (tgt := 33) S.1 S.2.1 dX4_walkAll_18 (by decide) (fun c14 => ?_) (fun c14 => ?_)
      · skip
        have k15 := ci_eq rfl z_ti c14
        have m17 : ((nI q42) + Int32.ofInt (1)) = (nI (q42 + 1)) := (congrArg (fun q : Int32 => q + Int32.ofInt (1)) rfl).trans (nI_add _ 1)
        refine lv_iinc (v := (nI (q42 + 1))) (lv' := [(4, .int (nI (q42 + 1))), (0, .ref (ad 30)), (1, .ref (ad rc)), (2, .int (nI a2)), (3, .int p3)]) S.1 S.2.1 dX4_walkAll_33 hl2 (k := 0) rfl (nI_add _ 1) (by decide) rfl (fun ls16 hl16 => ?_)
        refine lv_goto (tgt := 3) S.1 S.2.1 dX4_walkAll_36 (by decide) ?_
        have hE18 : M = (m_X4_walkAll_L3_2 n2) (AB3 ad Fl2) (nI (q42 + 1)) rc (nI a2) p3 := hE3.trans ((show m_X4_walkAll_L3_2_b (m_X4_walkAll_L3_2 n2) (AB3 ad Fl2) (nI q42) rc (nI a2) p3 = (m_X4_walkAll_L3_2 n2) (AB3 ad Fl2) ((nI q42) + Int32.ofInt (1)) rc (nI a2) p3 from by unfold m_X4_walkAll_L3_2_b; rw [if_neg (nle_cg m5 rfl c6), if_pos (eq_cg m13 rfl c14)]).trans (congr (congr (congr (congr (congrArg ((m_X4_walkAll_L3_2 n2)) (rfl : AB3 ad Fl2 = AB3 ad Fl2)) m17) (Eq.refl rc)) (Eq.refl ((nI a2) : Int32))) (Eq.refl (p3 : Int32))))
        exact ih2 (q42 + 1) Fl2 Hl2 lol2 (by omega) (by omega) hWl2 hFl2 hPl2 hSl2 hE18 ls16 (lv_sub hl16 [0, 1, 2, 3, 4] rfl)
      have k19 := ci_ne rfl z_ti c14
      refine lv_aload_n S.1 S.2.1 dX4_walkAll_21 rfl (lv_at hl2 1 rfl) ?_
      refine lv_iload_n S.1 S.2.1 dX4_walkAll_22 rfl (lv_at hl2 3 rfl) ?_
      refine lv_iload S.1 S.2.1 dX4_walkAll_23 (lv_at hl2 0 rfl) ?_
      refine lv_iconst (v := (nI 0)) S.1 S.2.1 dX4_walkAll_25 (by decide +kernel) ?_
      refine r_cSp (As := [.int (nI q42), .int (nI 0)]) (rest := [.int (nI a2), .ref (ad 30)]) S hK hZ hPl2 hSl2 hl2.1 (c_X4_cell l D cA ad t hI Fl2 hWl2 (nI q42) (nI 0)) (va_cwS 2 S.2.2.2.2 gX4_walkAll_X4_cell rfl rfl rfl (by decide +kernel) ⟨Nat.le_of_ble_eq_true rfl, Nat.le_of_ble_eq_true rfl⟩) rfl rfl (Nat.le_of_ble_eq_true rfl) ⟨Nat.zero_le _, Nat.zero_le _⟩ dX4_walkAll_26 (fun r20 hr20 => ?_)
      obtain ⟨hr20, hm20⟩ := hr20
      obtain rfl : r20 = nI ((q42 * 5 + 0) * 4) := hr20.trans (by rw [pk_mul, nI_add, pk_mul])
      have m21 : (m_X4_cell (AB3 ad Fl2).1 (nI q42) (nI 0)) = (nI ((q42 * 5 + 0) * 4)) := (congr (congr (Eq.refl (m_X4_cell (AB ad Fl2))) (Eq.refl ((nI q42) : Int32))) (Eq.refl ((nI 0) : Int32))).trans hm20
      refine lv_iconst (v := (-1)) S.1 S.2.1 dX4_walkAll_29 (by decide +kernel) ?_
      obtain ⟨a23, b23, hF23, ha23, hb23⟩ := wt_search hWl2
      refine r_cVv (As := [.int (nI a2), .int (nI ((q42 * 5 + 0) * 4)), .int (-1)]) (rest := []) S hK hZ hPl2 hSl2 hl2.1 30 (by decide) hF23 (C := RX4) rfl (cL_X4_moveAll l D cA ad t hI Fl2 hWl2 (a2) (by omega) ((q42 * 5 + 0) * 4) (by omega) (-1) (by decide +kernel)) (cwV 3 S.2.2.2.2 gX4_walkAll_X4_moveAll rfl rfl rfl (by decide +kernel) ⟨Nat.le_of_ble_eq_true rfl, Nat.le_of_ble_eq_true rfl⟩) rfl rfl (Nat.le_of_ble_eq_true rfl) ⟨Nat.zero_le _, Nat.zero_le _⟩ dX4_walkAll_30 (fun F22 H22 locs22 hr22 hP22 hS22 => ?_)
      obtain ⟨hW22, hFc22, hr22⟩ := hr22
      obtain ⟨hr22, hm22⟩ := hr22
      have hFr22 := hFl2.tr hFc22 (by simp <;> first | omega | (simp only [isC, isJ] at *; omega))
      have hE25 : M = m_X4_walkAll_24 (m_X4_walkAll_L3_2 n2) (AB3 ad F22) (nI q42) rc (nI a2) p3 := hE3.trans ((show m_X4_walkAll_L3_2_b (m_X4_walkAll_L3_2 n2) (AB3 ad Fl2) (nI q42) rc (nI a2) p3 = m_X4_walkAll_24 (m_X4_walkAll_L3_2 n2) (m_X4_moveAll (AB3 ad Fl2) (nI a2) (m_X4_cell (AB3 ad Fl2).1 (nI q42) (nI 0)) ((-1) : Int32)) (nI q42) rc (nI a2) p3 from by unfold m_X4_walkAll_L3_2_b; rw [if_neg (nle_cg m5 rfl c6), if_neg (neq_cg m13 rfl c14)]).trans (congr (congr (congr (congr (congrArg (m_X4_walkAll_24 (m_X4_walkAll_L3_2 n2)) ((congr (congr (congr (Eq.refl (m_X4_moveAll (AB3 ad Fl2))) (Eq.refl ((nI a2) : Int32))) m21) (Eq.refl ((-1) : Int32))).trans hm22)) (Eq.refl ((nI q42) : Int32))) (Eq.refl rc)) (Eq.refl ((nI a2) : Int32))) (Eq.refl (p3 : Int32))))
      have m27 : ((nI q42) + Int32.ofInt (1)) = (nI (q42 + 1)) := (congrArg (fun q : Int32 => q + Int32.ofInt (1)) rfl).trans (nI_add _ 1)
      refine lv_iinc (v := (nI (q42 + 1))) (lv' := [(4, .int (nI (q42 + 1))), (0, .ref (ad 30)), (1, .ref (ad rc)), (2, .int (nI a2)), (3, .int p3)]) S.1 S.2.1 dX4_walkAll_33 hl2 (k := 0) rfl (nI_add _ 1) (by decide) rfl (fun ls26 hl26 => ?_)
      refine lv_goto (tgt := 3) S.1 S.2.1 dX4_walkAll_36 (by decide) ?_
      have hE28 : M = (m_X4_walkAll_L3_2 n2) (AB3 ad F22) (nI (q42 + 1)) rc (nI a2) p3 := hE25.trans ((show m_X4_walkAll_24 (m_X4_walkAll_L3_2 n2) (AB3 ad F22) (nI q42) rc (nI a2) p3 = (m_X4_walkAll_L3_2 n2) (AB3 ad F22) ((nI q42) + Int32.ofInt (1)) rc (nI a2) p3 from rfl).trans (congr (congr (congr (congr (congrArg ((m_X4_walkAll_L3_2 n2)) (rfl : AB3 ad F22 = AB3 ad F22)) m27) (Eq.refl rc)) (Eq.refl ((nI a2) : Int32))) (Eq.refl (p3 : Int32))))
      exact ih2 (q42 + 1) F22 H22 locs22 (by omega) (by omega) hW22 hFr22 hP22 hS22 hE28 ls26 (lv_sub hl26 [0, 1, 2, 3, 4] rfl)
  have hE29 : M = m_X4_walkAll_L3_2 2000 (AB3 ad F) (nI 0) rc (nI a2) p3 := hM.trans ((show m_X4_walkAll (AB3 ad F) rc (nI a2) p3 = m_X4_walkAll_L3_2 2000 (AB3 ad F) (nI 0) rc (nI a2) p3 from rfl).trans (congr (congr (congr (congr (congrArg (m_X4_walkAll_L3_2 2000) (rfl : AB3 ad F = AB3 ad F)) (Eq.refl ((nI 0) : Int32))) (Eq.refl rc)) (Eq.refl ((nI a2) : Int32))) (Eq.refl (p3 : Int32))))
  exact lp2 2000 (0) F s.heap [] (by omega) (by omega) hW hFr hP hS hE29 ls1 (lv_sub hl1 [0, 1, 2, 3, 4] rfl)
noncomputable def m_X4_spendMonth_199 (k0 : S3 → Int32 → Nat → Nat → Int32 → Int32 → S3) (k1 : S3 → Int32 → Int32 → Nat → Nat → Int32 → Int32 → S3) (σ : S3) (a0 : Int32) (a1 : Int32) (a2 : Nat) (a3 : Nat) (a4 : Int32) (a5 : Int32) : S3 :=
  k1 σ (a0 + Int32.ofInt (1)) a1 a2 a3 a4 a5
noncomputable def m_X4_spendMonth_179 (k0 : S3 → Int32 → Nat → Nat → Int32 → Int32 → S3) (k1 : S3 → Int32 → Int32 → Nat → Nat → Int32 → Int32 → S3) (σ : S3) (a0 : Int32) (a1 : Int32) (a2 : Nat) (a3 : Nat) (a4 : Int32) (a5 : Int32) : S3 :=
  if (σ.1 a2 0) ≤ a0 then
    k1 σ (a0 + Int32.ofInt (1)) a1 a2 a3 a4 a5
  else
    m_X4_spendMonth_199 k0 k1 (m_X4_moveAll σ (m_X4_cell σ.1 a1 a0) (m_X4_cell σ.1 a1 (a0 + (nI 1))) a1) a0 a1 a2 a3 a4 a5
noncomputable def m_X4_spendMonth_L49_154_b (k0 : S3 → Int32 → Nat → Nat → Int32 → Int32 → S3) (k1 : S3 → Int32 → Int32 → Nat → Nat → Int32 → Int32 → S3) (σ : S3) (a0 : Int32) (a1 : Int32) (a2 : Nat) (a3 : Nat) (a4 : Int32) (a5 : Int32) : S3 :=
  if (σ.1 a2 0) < a0 then
    k0 σ (a1 + Int32.ofInt (1)) a2 a3 a4 a5
  else
    if (m_X4_isEmpty σ (m_X4_cell σ.1 a1 a0)) = (0 : Int32) then
      m_X4_spendMonth_179 k0 k1 (m_X4_walkAll σ a2 (m_X4_cell σ.1 a1 a0) (σ.1 a3 (rl a1))) a0 a1 a2 a3 a4 a5
    else
      k1 σ (a0 + Int32.ofInt (1)) a1 a2 a3 a4 a5
noncomputable def m_X4_spendMonth_L49_154 (k0 : S3 → Int32 → Nat → Nat → Int32 → Int32 → S3) : Nat → S3 → Int32 → Int32 → Nat → Nat → Int32 → Int32 → S3
  | 0 => fun σ _ _ _ _ _ _ => σ
  | n + 1 => m_X4_spendMonth_L49_154_b k0 (m_X4_spendMonth_L49_154 k0 n)
noncomputable def m_X4_spendMonth_141 (k0 : S3 → Int32 → Nat → Nat → Int32 → Int32 → S3) (k1 : S3 → Int32 → Int32 → Nat → Nat → Int32 → Int32 → S3) (σ : S3) (a0 : Int32) (a1 : Int32) (a2 : Nat) (a3 : Nat) (a4 : Int32) (a5 : Int32) : S3 :=
  k1 σ (a0 + Int32.ofInt (1)) a1 a2 a3 a4 a5
noncomputable def m_X4_spendMonth_121 (k0 : S3 → Int32 → Nat → Nat → Int32 → Int32 → S3) (k1 : S3 → Int32 → Int32 → Nat → Nat → Int32 → Int32 → S3) (σ : S3) (a0 : Int32) (a1 : Int32) (a2 : Nat) (a3 : Nat) (a4 : Int32) (a5 : Int32) : S3 :=
  if (σ.1 a2 0) ≤ a0 then
    k1 σ (a0 + Int32.ofInt (1)) a1 a2 a3 a4 a5
  else
    m_X4_spendMonth_141 k0 k1 (m_X4_moveAll σ (m_X4_cell σ.1 a1 a0) (m_X4_cell σ.1 a1 (a0 + (nI 1))) ((-1) : Int32)) a0 a1 a2 a3 a4 a5
noncomputable def m_X4_spendMonth_L49_96_b (k0 : S3 → Int32 → Nat → Nat → Int32 → Int32 → S3) (k1 : S3 → Int32 → Int32 → Nat → Nat → Int32 → Int32 → S3) (σ : S3) (a0 : Int32) (a1 : Int32) (a2 : Nat) (a3 : Nat) (a4 : Int32) (a5 : Int32) : S3 :=
  if (σ.1 a2 0) < a0 then
    k0 σ (a1 + Int32.ofInt (1)) a2 a3 a4 a5
  else
    if (m_X4_isEmpty σ (m_X4_cell σ.1 a1 a0)) = (0 : Int32) then
      m_X4_spendMonth_121 k0 k1 (m_X4_walkAll σ a2 (m_X4_cell σ.1 a1 a0) (σ.1 a3 (rl a1))) a0 a1 a2 a3 a4 a5
    else
      k1 σ (a0 + Int32.ofInt (1)) a1 a2 a3 a4 a5
noncomputable def m_X4_spendMonth_L49_96 (k0 : S3 → Int32 → Nat → Nat → Int32 → Int32 → S3) : Nat → S3 → Int32 → Int32 → Nat → Nat → Int32 → Int32 → S3
  | 0 => fun σ _ _ _ _ _ _ => σ
  | n + 1 => m_X4_spendMonth_L49_96_b k0 (m_X4_spendMonth_L49_96 k0 n)
noncomputable def m_X4_spendMonth_78 (k0 : S3 → Int32 → Nat → Nat → Int32 → Int32 → S3) (k1 : S3 → Int32 → Int32 → Nat → Nat → Int32 → Int32 → S3) (σ : S3) (a0 : Int32) (a1 : Int32) (a2 : Nat) (a3 : Nat) (a4 : Int32) (a5 : Int32) : S3 :=
  k1 σ (a0 + Int32.ofInt (1)) a1 a2 a3 a4 a5
noncomputable def m_X4_spendMonth_58 (k0 : S3 → Int32 → Nat → Nat → Int32 → Int32 → S3) (k1 : S3 → Int32 → Int32 → Nat → Nat → Int32 → Int32 → S3) (σ : S3) (a0 : Int32) (a1 : Int32) (a2 : Nat) (a3 : Nat) (a4 : Int32) (a5 : Int32) : S3 :=
  if (σ.1 a2 0) ≤ a0 then
    k1 σ (a0 + Int32.ofInt (1)) a1 a2 a3 a4 a5
  else
    m_X4_spendMonth_78 k0 k1 (m_X4_moveAll σ (m_X4_cell σ.1 a1 a0) (m_X4_cell σ.1 a1 (a0 + (nI 1))) ((-1) : Int32)) a0 a1 a2 a3 a4 a5
noncomputable def m_X4_spendMonth_L49_33_b (k0 : S3 → Int32 → Nat → Nat → Int32 → Int32 → S3) (k1 : S3 → Int32 → Int32 → Nat → Nat → Int32 → Int32 → S3) (σ : S3) (a0 : Int32) (a1 : Int32) (a2 : Nat) (a3 : Nat) (a4 : Int32) (a5 : Int32) : S3 :=
  if (σ.1 a2 0) < a0 then
    k0 σ (a1 + Int32.ofInt (1)) a2 a3 a4 a5
  else
    if (m_X4_isEmpty σ (m_X4_cell σ.1 a1 a0)) = (0 : Int32) then
      m_X4_spendMonth_58 k0 k1 (m_X4_walkAll σ a2 (m_X4_cell σ.1 a1 a0) (σ.1 a3 (rl a1))) a0 a1 a2 a3 a4 a5
    else
      k1 σ (a0 + Int32.ofInt (1)) a1 a2 a3 a4 a5
noncomputable def m_X4_spendMonth_L49_33 (k0 : S3 → Int32 → Nat → Nat → Int32 → Int32 → S3) : Nat → S3 → Int32 → Int32 → Nat → Nat → Int32 → Int32 → S3
  | 0 => fun σ _ _ _ _ _ _ => σ
  | n + 1 => m_X4_spendMonth_L49_33_b k0 (m_X4_spendMonth_L49_33 k0 n)
noncomputable def m_X4_spendMonth_21 (k0 : S3 → Int32 → Nat → Nat → Int32 → Int32 → S3) (σ : S3) (a0 : Nat) (a1 : Nat) (a2 : Nat) (a3 : Int32) (a4 : Int32) : S3 :=
  σ
noncomputable def m_X4_spendMonth_18 (k0 : S3 → Int32 → Nat → Nat → Int32 → Int32 → S3) (σ : S3) (a0 : Nat) (a1 : Nat) (a2 : Nat) (a3 : Int32) (a4 : Int32) : S3 :=
  m_X4_spendMonth_21 k0 ((st σ.1 30 1 (nI a0)), (σ).2) a0 a1 a2 a3 a4
noncomputable def m_X4_spendMonth_L10_7_b (k0 : S3 → Int32 → Nat → Nat → Int32 → Int32 → S3) (σ : S3) (a0 : Int32) (a1 : Nat) (a2 : Nat) (a3 : Int32) (a4 : Int32) : S3 :=
  if (σ.1 a1 2) ≤ a0 then
    m_X4_spendMonth_18 k0 ((st σ.1 30 0 (nI (rl (σ.1 30 1)))), (σ).2) (rl (σ.1 30 0)) a1 a2 a3 a4
  else
    if ((a4 >>> (a0 &&& 31)) &&& (nI 1)) = (0 : Int32) then
      m_X4_spendMonth_L49_33 k0 2000 σ (nI 0) a0 a1 a2 a3 a4
    else
      if (m_X0_worksIn σ.1 a1 a0 a3) = (0 : Int32) then
        m_X4_spendMonth_L49_96 k0 2000 σ (nI 0) a0 a1 a2 a3 a4
      else
        m_X4_spendMonth_L49_154 k0 2000 σ (nI 0) a0 a1 a2 a3 a4
noncomputable def m_X4_spendMonth_L10_7 : Nat → S3 → Int32 → Nat → Nat → Int32 → Int32 → S3
  | 0 => fun σ _ _ _ _ _ => σ
  | n + 1 => m_X4_spendMonth_L10_7_b (m_X4_spendMonth_L10_7 n)
noncomputable def m_X4_spendMonth_4 (σ : S3) (a0 : Nat) (a1 : Nat) (a2 : Int32) (a3 : Int32) : S3 :=
  m_X4_spendMonth_L10_7 2000 σ (nI 0) a0 a1 a2 a3
noncomputable def m_X4_spendMonth (σ : S3) (a0 : Nat) (a1 : Nat) (a2 : Int32) (a3 : Int32) : S3 :=
  m_X4_spendMonth_4 (m_X4_clear σ (rl (σ.1 30 1))) a0 a1 a2 a3
set_option maxHeartbeats 4000000 in
set_option maxRecDepth 100000 in
theorem cL_X4_spendMonth (l : Launch) (D : va_G) (cA ad : Nat → Nat) (t : Nat) (hI : rI ad) (F : Nat → va_E) (hW : WT cA ad F) (rc : Nat) (hrc : isC rc) (ra : Nat) (hra : (ra, 8) ∈ rLI) (hura : ra ∉ [60, 61, 62, 63, 64, 66]) (p3 : Int32) (s4 : Nat) (hs4 : s4 ≤ 255) : MV l D cA ad t yX4_spendMonth wsX4_spendMonth { frames := 2, cells := 0, slots := 0, locals := 52 } [.ref (ad 30), .ref (ad rc), .ref (ad ra), .int p3, .int (nI s4)] F (fun F' => WT cA ad F' ∧ rFr [30, 31, 32] F F' ∧ ((True) ∧ m_X4_spendMonth (AB3 ad F) rc ra p3 (nI s4) = AB3 ad F')) := by
  refine en_V rfl (by decide +kernel) (Nat.le_of_ble_eq_true rfl) ?_
  intro p e s m args below meth c ls0 Q S hK hZ hP hS hl0 hret
  have hl0 : lv_has ls0 8 [(0, .ref (ad 30)), (1, .ref (ad rc)), (2, .ref (ad ra)), (3, .int p3), (4, .int (nI s4))] := hl0
  have hFr : rFr [30, 31, 32] F F := rFr.rf
  have hiX0 : ∀ w ∈ u_ws RX0 TX0 10, w ∈ wsX4_spendMonth := by decide +kernel
  have hiX4 : ∀ w ∈ u_ws RX4 TX4 2, w ∈ wsX4_spendMonth := by decide +kernel
  obtain ⟨M, hM⟩ : ∃ M, M = m_X4_spendMonth (AB3 ad F) rc ra p3 (nI s4) := ⟨_, rfl⟩
  refine lv_aload_n S.1 S.2.1 dX4_spendMonth_0 rfl (lv_at hl0 0 rfl) ?_
  obtain ⟨a1, b1, hF1, ha1, hb1⟩ := wt_search hW
  refine r_get S hK hP 30 (by decide) hF1 (C := RX4) (T := TX4) (N := 2) hiX4 rfl 1 (by decide) (by decide +kernel) (v := .ref (ad b1)) rfl dX4_spendMonth_1 ?_
  have m2 : (rl ((AB3 ad F).1 30 1)) = b1 := AB_r hI (lt_L (S_L hb1)) hF1 rfl
  refine r_cSv (As := [.ref (ad b1)]) (rest := []) S hK hZ hP hS hl0.1 (cL_X4_clear l D cA ad t hI F hW b1 (S_L hb1)) (va_cwS 1 S.2.2.2.2 gX4_spendMonth_X4_clear rfl rfl rfl (by decide +kernel) ⟨Nat.le_of_ble_eq_true rfl, Nat.le_of_ble_eq_true rfl⟩) rfl rfl (Nat.le_of_ble_eq_true rfl) ⟨Nat.zero_le _, Nat.zero_le _⟩ dX4_spendMonth_4 (fun F3 H3 locs3 hr3 hP3 hS3 => ?_)
  obtain ⟨hW3, hFc3, hr3⟩ := hr3
  obtain ⟨hr3, hm3⟩ := hr3
  have hFr3 := hFr.tr hFc3 (by simp <;> first | omega | (simp only [isC, isJ] at *; omega))
  have hE5 : M = m_X4_spendMonth_4 (AB3 ad F3) rc ra p3 (nI s4) := hM.trans ((show m_X4_spendMonth (AB3 ad F) rc ra p3 (nI s4) = m_X4_spendMonth_4 (m_X4_clear (AB3 ad F) (rl ((AB3 ad F).1 30 1))) rc ra p3 (nI s4) from rfl).trans (congr (congr (congr (congr (congrArg (m_X4_spendMonth_4) ((congr (Eq.refl (m_X4_clear (AB3 ad F))) m2).trans hm3)) (Eq.refl rc)) (Eq.refl ra)) (Eq.refl (p3 : Int32))) (Eq.refl ((nI s4) : Int32))))
  refine lv_iconst (v := (nI 0)) S.1 S.2.1 dX4_spendMonth_7 (by decide +kernel) ?_
  refine lv_istore (lv' := [(5, .int (nI 0)), (0, .ref (ad 30)), (1, .ref (ad rc)), (2, .ref (ad ra)), (3, .int p3), (4, .int (nI s4))]) S.1 S.2.1 dX4_spendMonth_8 hl0 (by decide) rfl (fun ls6 hl6 => ?_)
  have lp7 : ∀ (n7 : Nat) (q57 : Nat), ∀ (Fl7 : Nat → va_E) (Hl7 : Heap) (lol7 : List Loc), q57 ≤ 8 → 8 - q57 < n7 → WT cA ad Fl7 → rFr [30, 31, 32] F Fl7 → va_P D vwCl (rW ad Fl7) Hl7 → va_S (rA ad) s.heap Hl7 lol7 → M = m_X4_spendMonth_L10_7 n7 (AB3 ad Fl7) (nI q57) rc ra p3 (nI s4) → ∀ (ls : Array Slot), lv_has ls 8 [(5, .int (nI q57)), (0, .ref (ad 30)), (1, .ref (ad rc)), (2, .ref (ad ra)), (3, .int p3), (4, .int (nI s4))] → W p l e { frames := 2, cells := 0, slots := 0, locals := 52 } s m args below meth c Hl7 lol7 0 0 Q (F0 m 10 ls []) := by
    intro n7
    induction n7 with
    | zero =>
      intro q57 Fl7 Hl7 lol7 iv7_0 hm7 hWl7 hFl7 hPl7 hSl7 hEl7 ls7 hl7
      exact absurd hm7 (Nat.not_lt_zero _)
    | succ n7 ih7 =>
      intro q57 Fl7 Hl7 lol7 iv7_0 hm7 hWl7 hFl7 hPl7 hSl7 hEl7 ls7 hl7
      have hE8 : M = m_X4_spendMonth_L10_7_b (m_X4_spendMonth_L10_7 n7) (AB3 ad Fl7) (nI q57) rc ra p3 (nI s4) := hEl7
      refine lv_iload S.1 S.2.1 dX4_spendMonth_10 (lv_at hl7 0 rfl) ?_
      refine lv_aload_n S.1 S.2.1 dX4_spendMonth_12 rfl (lv_at hl7 2 rfl) ?_
      obtain ⟨sl9, fm9, tn9, rn9, bn9, hF9, hb9_1, hb9_2, hb9_3⟩ := wt_C hWl7 hrc
      refine r_get S hK hPl7 rc (lt_C hrc) hF9 (C := RX0) (T := TX0) (N := 10) hiX0 rfl 2 (by decide) (by decide +kernel) (v := .int (nI tn9)) rfl dX4_spendMonth_13 ?_
      have m10 : ((AB3 ad Fl7).1 rc 2) = (nI tn9) := (congrArg (fun q => AB ad Fl7 q 2) rfl).trans (AB_f hF9 rfl)
      refine lv_icmp_ge (tgt := 143) S.1 S.2.1 dX4_spendMonth_16 (by decide) (fun c11 => ?_) (fun c11 => ?_)
      · skip
        have k12 := ci_le (nI_toInt (n := tn9) (by omega)) (nI_toInt (n := q57) (by omega)) c11
        refine lv_aload_n S.1 S.2.1 dX4_spendMonth_143 rfl (lv_at hl7 1 rfl) ?_
        obtain ⟨a13, b13, hF13, ha13, hb13⟩ := wt_search hWl7
        refine r_get S hK hPl7 30 (by decide) hF13 (C := RX4) (T := TX4) (N := 2) hiX4 rfl 0 (by decide) (by decide +kernel) (v := .ref (ad a13)) rfl dX4_spendMonth_144 ?_
        have m14 : (rl ((AB3 ad Fl7).1 30 0)) = a13 := AB_r hI (lt_L (S_L ha13)) hF13 rfl
        refine lv_astore (lv' := [(5, .ref (ad a13)), (0, .ref (ad 30)), (1, .ref (ad rc)), (2, .ref (ad ra)), (3, .int p3), (4, .int (nI s4))]) S.1 S.2.1 dX4_spendMonth_147 hl7 (by decide) rfl (fun ls15 hl15 => ?_)
        refine lv_aload_n S.1 S.2.1 dX4_spendMonth_149 rfl (lv_at hl15 1 rfl) ?_
        refine lv_aload_n S.1 S.2.1 dX4_spendMonth_150 rfl (lv_at hl15 1 rfl) ?_
        refine r_get S hK hPl7 30 (by decide) hF13 (C := RX4) (T := TX4) (N := 2) hiX4 rfl 1 (by decide) (by decide +kernel) (v := .ref (ad b13)) rfl dX4_spendMonth_151 ?_
        have m16 : (rl ((AB3 ad Fl7).1 30 1)) = b13 := AB_r hI (lt_L (S_L hb13)) hF13 rfl
        refine r_put S hI hK hPl7 hSl7 30 (by decide) hF13 (C := RX4) (T := TX4) (N := 2) hiX4 tyX4_ok nmX4 rfl 0 (by decide) (by decide +kernel) rfl rfl rfl (Nat.le_of_ble_eq_true rfl) dX4_spendMonth_154 (fun F17 H17 locs17 eF17 hP17 hS17 => ?_)
        have hF17 : F17 30 = .inr (4, [.ref (ad b13), .ref (ad b13)]) := by rw [eF17]; exact va_up_self _ _ _
        have hW17 := hWl7.up eF17 (ok_search ⟨b13, b13, rfl, hb13, hb13⟩)
        have hFr17 := hFl7.up eF17 (by simp <;> first | omega | (simp only [isC, isJ] at *; omega))
        have hE19 : M = m_X4_spendMonth_18 (m_X4_spendMonth_L10_7 n7) (AB3 ad F17) a13 rc ra p3 (nI s4) := hE8.trans ((show m_X4_spendMonth_L10_7_b (m_X4_spendMonth_L10_7 n7) (AB3 ad Fl7) (nI q57) rc ra p3 (nI s4) = m_X4_spendMonth_18 (m_X4_spendMonth_L10_7 n7) ((st (AB3 ad Fl7).1 30 0 (nI (rl ((AB3 ad Fl7).1 30 1)))), ((AB3 ad Fl7)).2) (rl ((AB3 ad Fl7).1 30 0)) rc ra p3 (nI s4) from by unfold m_X4_spendMonth_L10_7_b; rw [if_pos (le_cg m10 rfl c11)]).trans (congr (congr (congr (congr (congr (congrArg (m_X4_spendMonth_18 (m_X4_spendMonth_L10_7 n7)) (s3_cg ((st_cg rfl rfl (congrArg nI m16)).trans (AB_putr hI (lt_L (S_L hb13)) hF13 (Nat.le_of_ble_eq_true rfl) eF17).symm) (AM_put hF13 eF17).symm)) m14) (Eq.refl rc)) (Eq.refl ra)) (Eq.refl (p3 : Int32))) (Eq.refl ((nI s4) : Int32))))
        refine lv_aload_n S.1 S.2.1 dX4_spendMonth_157 rfl (lv_at hl15 1 rfl) ?_
        refine lv_aload S.1 S.2.1 dX4_spendMonth_158 (lv_at hl15 0 rfl) ?_
        refine r_put S hI hK hP17 hS17 30 (by decide) hF17 (C := RX4) (T := TX4) (N := 2) hiX4 tyX4_ok nmX4 rfl 1 (by decide) (by decide +kernel) rfl rfl rfl (Nat.le_of_ble_eq_true rfl) dX4_spendMonth_160 (fun F20 H20 locs20 eF20 hP20 hS20 => ?_)
        have hF20 : F20 30 = .inr (4, [.ref (ad b13), .ref (ad a13)]) := by rw [eF20]; exact va_up_self _ _ _
        have hW20 := hW17.up eF20 (ok_search ⟨b13, a13, rfl, hb13, ha13⟩)
        have hFr20 := hFr17.up eF20 (by simp <;> first | omega | (simp only [isC, isJ] at *; omega))
        have hE22 : M = m_X4_spendMonth_21 (m_X4_spendMonth_L10_7 n7) (AB3 ad F20) a13 rc ra p3 (nI s4) := hE19.trans ((show m_X4_spendMonth_18 (m_X4_spendMonth_L10_7 n7) (AB3 ad F17) a13 rc ra p3 (nI s4) = m_X4_spendMonth_21 (m_X4_spendMonth_L10_7 n7) ((st (AB3 ad F17).1 30 1 (nI a13)), ((AB3 ad F17)).2) a13 rc ra p3 (nI s4) from rfl).trans (congr (congr (congr (congr (congr (congrArg (m_X4_spendMonth_21 (m_X4_spendMonth_L10_7 n7)) (s3_cg ((st_cg rfl rfl (congrArg nI rfl)).trans (AB_putr hI (lt_L (S_L ha13)) hF17 (Nat.le_of_ble_eq_true rfl) eF20).symm) (AM_put hF17 eF20).symm)) (Eq.refl a13)) (Eq.refl rc)) (Eq.refl ra)) (Eq.refl (p3 : Int32))) (Eq.refl ((nI s4) : Int32))))
        have hE23 : M = AB3 ad F20 := hE22.trans ((show m_X4_spendMonth_21 (m_X4_spendMonth_L10_7 n7) (AB3 ad F20) a13 rc ra p3 (nI s4) = (AB3 ad F20) from rfl).trans rfl)
        exact hret 163 _ _ _ _ dX4_spendMonth_163 hP20 hS20 ⟨hW20, hFr20, ⟨trivial, hM.symm.trans hE23⟩⟩
      have k24 := ci_nle (nI_toInt (n := tn9) (by omega)) (nI_toInt (n := q57) (by omega)) c11
      refine lv_iload S.1 S.2.1 dX4_spendMonth_19 (lv_at hl7 5 rfl) ?_
      refine lv_iload S.1 S.2.1 dX4_spendMonth_21 (lv_at hl7 0 rfl) ?_
      refine lv_ishr S.1 S.2.1 dX4_spendMonth_23 ?_
      refine lv_topi (fun v25 e25 => ?_)
      have m26 : ((nI s4) >>> ((nI q57) &&& 31)) = v25 := cg2 (fun (x : Int32) (y : Int32) => x >>> (y &&& 31)) (Eq.refl ((nI s4) : Int32)) (Eq.refl ((nI q57) : Int32)) e25
      refine lv_iconst (v := (nI 1)) S.1 S.2.1 dX4_spendMonth_24 (by decide +kernel) ?_
      refine lv_iand S.1 S.2.1 dX4_spendMonth_25 ?_
      refine lv_topi (fun v27 e27 => ?_)
      have m28 : (((nI s4) >>> ((nI q57) &&& 31)) &&& (nI 1)) = v27 := cg2 (fun (x : Int32) (y : Int32) => x &&& y) m26 (Eq.refl ((nI 1) : Int32)) e27
      refine lv_if_eq (tgt := 43) S.1 S.2.1 dX4_spendMonth_26 (by decide) (fun c29 => ?_) (fun c29 => ?_)
      · skip
        have k30 := ci_eq rfl z_ti c29
        refine lv_iconst (v := (nI 0)) S.1 S.2.1 dX4_spendMonth_43 (by decide +kernel) ?_
        refine lv_istore (lv' := [(6, .int (nI 0)), (5, .int (nI q57)), (0, .ref (ad 30)), (1, .ref (ad rc)), (2, .ref (ad ra)), (3, .int p3), (4, .int (nI s4))]) S.1 S.2.1 dX4_spendMonth_44 hl7 (by decide) rfl (fun ls31 hl31 => ?_)
        refine lv_iconst (v := (nI 0)) S.1 S.2.1 dX4_spendMonth_46 (by decide +kernel) ?_
        refine lv_istore (lv' := [(7, .int (nI 0)), (6, .int (nI 0)), (5, .int (nI q57)), (0, .ref (ad 30)), (1, .ref (ad rc)), (2, .ref (ad ra)), (3, .int p3), (4, .int (nI s4))]) S.1 S.2.1 dX4_spendMonth_47 hl31 (by decide) rfl (fun ls32 hl32 => ?_)
        have lp33 : ∀ (n33 : Nat) (q733 : Nat), ∀ (Fl33 : Nat → va_E) (Hl33 : Heap) (lol33 : List Loc), q733 ≤ 5 → 5 - q733 < n33 → WT cA ad Fl33 → rFr [30, 31, 32] F Fl33 → va_P D vwCl (rW ad Fl33) Hl33 → va_S (rA ad) s.heap Hl33 lol33 → M = m_X4_spendMonth_L49_33 (m_X4_spendMonth_L10_7 n7) n33 (AB3 ad Fl33) (nI q733) (nI q57) rc ra p3 (nI s4) → ∀ (ls : Array Slot), lv_has ls 8 [(7, .int (nI q733)), (6, .int (nI 0)), (5, .int (nI q57)), (0, .ref (ad 30)), (1, .ref (ad rc)), (2, .ref (ad ra)), (3, .int p3), (4, .int (nI s4))] → W p l e { frames := 2, cells := 0, slots := 0, locals := 52 } s m args below meth c Hl33 lol33 0 0 Q (F0 m 49 ls []) := by
          intro n33
          induction n33 with
          | zero =>
            intro q733 Fl33 Hl33 lol33 iv33_0 hm33 hWl33 hFl33 hPl33 hSl33 hEl33 ls33 hl33
            exact absurd hm33 (Nat.not_lt_zero _)
          | succ n33 ih33 =>
            intro q733 Fl33 Hl33 lol33 iv33_0 hm33 hWl33 hFl33 hPl33 hSl33 hEl33 ls33 hl33
            have hE34 : M = m_X4_spendMonth_L49_33_b (m_X4_spendMonth_L10_7 n7) (m_X4_spendMonth_L49_33 (m_X4_spendMonth_L10_7 n7) n33) (AB3 ad Fl33) (nI q733) (nI q57) rc ra p3 (nI s4) := hEl33
            refine lv_iload S.1 S.2.1 dX4_spendMonth_49 (lv_at hl33 0 rfl) ?_
            refine lv_aload_n S.1 S.2.1 dX4_spendMonth_51 rfl (lv_at hl33 4 rfl) ?_
            obtain ⟨sl35, fm35, tn35, rn35, bn35, hF35, hb35_1, hb35_2, hb35_3⟩ := wt_C hWl33 hrc
            refine r_get S hK hPl33 rc (lt_C hrc) hF35 (C := RX0) (T := TX0) (N := 10) hiX0 rfl 0 (by decide) (by decide +kernel) (v := .int (nI sl35)) rfl dX4_spendMonth_52 ?_
            have m36 : ((AB3 ad Fl33).1 rc 0) = (nI sl35) := (congrArg (fun q => AB ad Fl33 q 0) rfl).trans (AB_f hF35 rfl)
            refine lv_icmp_gt (tgt := 137) S.1 S.2.1 dX4_spendMonth_55 (by decide) (fun c37 => ?_) (fun c37 => ?_)
            · skip
              have k38 := ci_lt (nI_toInt (n := sl35) (by omega)) (nI_toInt (n := q733) (by omega)) c37
              have m40 : ((nI q57) + Int32.ofInt (1)) = (nI (q57 + 1)) := (congrArg (fun q : Int32 => q + Int32.ofInt (1)) rfl).trans (nI_add _ 1)
              refine lv_iinc (v := (nI (q57 + 1))) (lv' := [(5, .int (nI (q57 + 1))), (7, .int (nI q733)), (6, .int (nI 0)), (0, .ref (ad 30)), (1, .ref (ad rc)), (2, .ref (ad ra)), (3, .int p3), (4, .int (nI s4))]) S.1 S.2.1 dX4_spendMonth_137 hl33 (k := 2) rfl (nI_add _ 1) (by decide) rfl (fun ls39 hl39 => ?_)
              refine lv_goto (tgt := 10) S.1 S.2.1 dX4_spendMonth_140 (by decide) ?_
              have hE41 : M = (m_X4_spendMonth_L10_7 n7) (AB3 ad Fl33) (nI (q57 + 1)) rc ra p3 (nI s4) := hE34.trans ((show m_X4_spendMonth_L49_33_b (m_X4_spendMonth_L10_7 n7) (m_X4_spendMonth_L49_33 (m_X4_spendMonth_L10_7 n7) n33) (AB3 ad Fl33) (nI q733) (nI q57) rc ra p3 (nI s4) = (m_X4_spendMonth_L10_7 n7) (AB3 ad Fl33) ((nI q57) + Int32.ofInt (1)) rc ra p3 (nI s4) from by unfold m_X4_spendMonth_L49_33_b; rw [if_pos (lt_cg m36 rfl c37)]).trans (congr (congr (congr (congr (congr (congrArg ((m_X4_spendMonth_L10_7 n7)) (rfl : AB3 ad Fl33 = AB3 ad Fl33)) m40) (Eq.refl rc)) (Eq.refl ra)) (Eq.refl (p3 : Int32))) (Eq.refl ((nI s4) : Int32))))
              exact ih7 (q57 + 1) Fl33 Hl33 lol33 (by omega) (by omega) hWl33 hFl33 hPl33 hSl33 hE41 ls39 (lv_sub hl39 [0, 3, 4, 5, 6, 7] rfl)
            have k42 := ci_nlt (nI_toInt (n := sl35) (by omega)) (nI_toInt (n := q733) (by omega)) c37
            refine lv_aload_n S.1 S.2.1 dX4_spendMonth_58 rfl (lv_at hl33 3 rfl) ?_
            refine lv_iload S.1 S.2.1 dX4_spendMonth_59 (lv_at hl33 2 rfl) ?_
            refine lv_iload S.1 S.2.1 dX4_spendMonth_61 (lv_at hl33 0 rfl) ?_
            refine r_cSp (As := [.int (nI q57), .int (nI q733)]) (rest := [.ref (ad 30)]) S hK hZ hPl33 hSl33 hl33.1 (c_X4_cell l D cA ad t hI Fl33 hWl33 (nI q57) (nI q733)) (va_cwS 2 S.2.2.2.2 gX4_spendMonth_X4_cell rfl rfl rfl (by decide +kernel) ⟨Nat.le_of_ble_eq_true rfl, Nat.le_of_ble_eq_true rfl⟩) rfl rfl (Nat.le_of_ble_eq_true rfl) ⟨Nat.zero_le _, Nat.zero_le _⟩ dX4_spendMonth_63 (fun r43 hr43 => ?_)
            obtain ⟨hr43, hm43⟩ := hr43
            obtain rfl : r43 = nI ((q57 * 5 + q733) * 4) := hr43.trans (by rw [pk_mul, nI_add, pk_mul])
            have m44 : (m_X4_cell (AB3 ad Fl33).1 (nI q57) (nI q733)) = (nI ((q57 * 5 + q733) * 4)) := (congr (congr (Eq.refl (m_X4_cell (AB ad Fl33))) (Eq.refl ((nI q57) : Int32))) (Eq.refl ((nI q733) : Int32))).trans hm43
            obtain ⟨a46, b46, hF46, ha46, hb46⟩ := wt_search hWl33
            refine r_cVp (As := [.int (nI ((q57 * 5 + q733) * 4))]) (rest := []) S hK hZ hPl33 hSl33 hl33.1 30 (by decide) hF46 (C := RX4) rfl (cL_X4_isEmpty l D cA ad t hI Fl33 hWl33 ((q57 * 5 + q733) * 4) (by omega)) (cwV 1 S.2.2.2.2 gX4_spendMonth_X4_isEmpty rfl rfl rfl (by decide +kernel) ⟨Nat.le_of_ble_eq_true rfl, Nat.le_of_ble_eq_true rfl⟩) rfl rfl (Nat.le_of_ble_eq_true rfl) ⟨Nat.zero_le _, Nat.zero_le _⟩ dX4_spendMonth_66 (fun r45 hr45 => ?_)
            obtain ⟨hr45, hm45⟩ := hr45
            obtain ⟨b47, hb47, rfl⟩ := hr45
            have m48 : (m_X4_isEmpty (AB3 ad Fl33) (m_X4_cell (AB3 ad Fl33).1 (nI q57) (nI q733))) = (nI b47) := (congr (Eq.refl (m_X4_isEmpty (AB3 ad Fl33))) m44).trans hm45
            refine lv_if_eq (tgt := 75) S.1 S.2.1 dX4_spendMonth_69 (by decide) (fun c49 => ?_) (fun c49 => ?_)
            · skip
              have k50 := ci_eq (nI_toInt (n := b47) (by omega)) z_ti c49
              refine lv_aload_n S.1 S.2.1 dX4_spendMonth_75 rfl (lv_at hl33 3 rfl) ?_
              refine lv_aload_n S.1 S.2.1 dX4_spendMonth_76 rfl (lv_at hl33 4 rfl) ?_
              refine lv_iload S.1 S.2.1 dX4_spendMonth_77 (lv_at hl33 2 rfl) ?_
              refine lv_iload S.1 S.2.1 dX4_spendMonth_79 (lv_at hl33 0 rfl) ?_
              refine r_cSp (As := [.int (nI q57), .int (nI q733)]) (rest := [.ref (ad rc), .ref (ad 30)]) S hK hZ hPl33 hSl33 hl33.1 (c_X4_cell l D cA ad t hI Fl33 hWl33 (nI q57) (nI q733)) (va_cwS 2 S.2.2.2.2 gX4_spendMonth_X4_cell rfl rfl rfl (by decide +kernel) ⟨Nat.le_of_ble_eq_true rfl, Nat.le_of_ble_eq_true rfl⟩) rfl rfl (Nat.le_of_ble_eq_true rfl) ⟨Nat.zero_le _, Nat.zero_le _⟩ dX4_spendMonth_81 (fun r51 hr51 => ?_)
              obtain ⟨hr51, hm51⟩ := hr51
              obtain rfl : r51 = nI ((q57 * 5 + q733) * 4) := hr51.trans (by rw [pk_mul, nI_add, pk_mul])
              have m52 : (m_X4_cell (AB3 ad Fl33).1 (nI q57) (nI q733)) = (nI ((q57 * 5 + q733) * 4)) := (congr (congr (Eq.refl (m_X4_cell (AB ad Fl33))) (Eq.refl ((nI q57) : Int32))) (Eq.refl ((nI q733) : Int32))).trans hm51
              refine lv_aload_n S.1 S.2.1 dX4_spendMonth_84 rfl (lv_at hl33 5 rfl) ?_
              refine lv_iload S.1 S.2.1 dX4_spendMonth_85 (lv_at hl33 2 rfl) ?_
              obtain ⟨g53, hF53, hg53⟩ := wt_I hWl33 hra
              refine r_iald S hK hPl33 ra (lt_I hra) hF53 (vp_in_nI (show q57 < 8 by omega) (by omega)) dX4_spendMonth_87 ?_
              refine lv_topi (fun v55 e55 => ?_)
              have m56 : ((AB3 ad Fl33).1 ra (rl (nI q57))) = v55 := (ab_cg rfl rfl).trans ((AB_g hF53).trans e55.symm)
              refine r_cVv (As := [.ref (ad rc), .int (nI ((q57 * 5 + q733) * 4)), .int v55]) (rest := []) S hK hZ hPl33 hSl33 hl33.1 30 (by decide) hF46 (C := RX4) rfl (cL_X4_walkAll l D cA ad t hI Fl33 hWl33 rc hrc ((q57 * 5 + q733) * 4) (by omega) v55) (cwV 3 S.2.2.2.2 gX4_spendMonth_X4_walkAll rfl rfl rfl (by decide +kernel) ⟨Nat.le_of_ble_eq_true rfl, Nat.le_of_ble_eq_true rfl⟩) rfl rfl (Nat.le_of_ble_eq_true rfl) ⟨Nat.zero_le _, Nat.zero_le _⟩ dX4_spendMonth_88 (fun F57 H57 locs57 hr57 hP57 hS57 => ?_)
              obtain ⟨hW57, hFc57, hr57⟩ := hr57
              obtain ⟨hr57, hm57⟩ := hr57
              have hFr57 := hFl33.tr hFc57 (by simp <;> first | omega | (simp only [isC, isJ] at *; omega))
              have hE59 : M = m_X4_spendMonth_58 (m_X4_spendMonth_L10_7 n7) (m_X4_spendMonth_L49_33 (m_X4_spendMonth_L10_7 n7) n33) (AB3 ad F57) (nI q733) (nI q57) rc ra p3 (nI s4) := hE34.trans ((show m_X4_spendMonth_L49_33_b (m_X4_spendMonth_L10_7 n7) (m_X4_spendMonth_L49_33 (m_X4_spendMonth_L10_7 n7) n33) (AB3 ad Fl33) (nI q733) (nI q57) rc ra p3 (nI s4) = m_X4_spendMonth_58 (m_X4_spendMonth_L10_7 n7) (m_X4_spendMonth_L49_33 (m_X4_spendMonth_L10_7 n7) n33) (m_X4_walkAll (AB3 ad Fl33) rc (m_X4_cell (AB3 ad Fl33).1 (nI q57) (nI q733)) ((AB3 ad Fl33).1 ra (rl (nI q57)))) (nI q733) (nI q57) rc ra p3 (nI s4) from by unfold m_X4_spendMonth_L49_33_b; rw [if_neg (nlt_cg m36 rfl c37), if_pos (eq_cg m48 rfl c49)]).trans (congr (congr (congr (congr (congr (congr (congrArg (m_X4_spendMonth_58 (m_X4_spendMonth_L10_7 n7) (m_X4_spendMonth_L49_33 (m_X4_spendMonth_L10_7 n7) n33)) ((congr (congr (congr (Eq.refl (m_X4_walkAll (AB3 ad Fl33))) (Eq.refl rc)) m52) m56).trans hm57)) (Eq.refl ((nI q733) : Int32))) (Eq.refl ((nI q57) : Int32))) (Eq.refl rc)) (Eq.refl ra)) (Eq.refl (p3 : Int32))) (Eq.refl ((nI s4) : Int32))))
              refine lv_iload S.1 S.2.1 dX4_spendMonth_91 (lv_at hl33 0 rfl) ?_
              refine lv_aload_n S.1 S.2.1 dX4_spendMonth_93 rfl (lv_at hl33 4 rfl) ?_
              have hF60 := (hFc57 rc (by have hh1 := hrc; unfold isC at hh1; simp only [List.mem_cons, List.not_mem_nil, or_false, not_or]; omega)).trans hF35
              refine r_get S hK hP57 rc (lt_C hrc) hF60 (C := RX0) (T := TX0) (N := 10) hiX0 rfl 0 (by decide) (by decide +kernel) (v := .int (nI sl35)) rfl dX4_spendMonth_94 ?_
              have m61 : ((AB3 ad F57).1 rc 0) = (nI sl35) := (congrArg (fun q => AB ad F57 q 0) rfl).trans (AB_f hF60 rfl)
              refine lv_icmp_ge (tgt := 131) S.1 S.2.1 dX4_spendMonth_97 (by decide) (fun c62 => ?_) (fun c62 => ?_)
              · skip
                have k63 := ci_le (nI_toInt (n := sl35) (by omega)) (nI_toInt (n := q733) (by omega)) c62
                have m65 : ((nI q733) + Int32.ofInt (1)) = (nI (q733 + 1)) := (congrArg (fun q : Int32 => q + Int32.ofInt (1)) rfl).trans (nI_add _ 1)
                refine lv_iinc (v := (nI (q733 + 1))) (lv' := [(7, .int (nI (q733 + 1))), (6, .int (nI 0)), (5, .int (nI q57)), (0, .ref (ad 30)), (1, .ref (ad rc)), (2, .ref (ad ra)), (3, .int p3), (4, .int (nI s4))]) S.1 S.2.1 dX4_spendMonth_131 hl33 (k := 0) rfl (nI_add _ 1) (by decide) rfl (fun ls64 hl64 => ?_)
                refine lv_goto (tgt := 49) S.1 S.2.1 dX4_spendMonth_134 (by decide) ?_
                have hE66 : M = (m_X4_spendMonth_L49_33 (m_X4_spendMonth_L10_7 n7) n33) (AB3 ad F57) (nI (q733 + 1)) (nI q57) rc ra p3 (nI s4) := hE59.trans ((show m_X4_spendMonth_58 (m_X4_spendMonth_L10_7 n7) (m_X4_spendMonth_L49_33 (m_X4_spendMonth_L10_7 n7) n33) (AB3 ad F57) (nI q733) (nI q57) rc ra p3 (nI s4) = (m_X4_spendMonth_L49_33 (m_X4_spendMonth_L10_7 n7) n33) (AB3 ad F57) ((nI q733) + Int32.ofInt (1)) (nI q57) rc ra p3 (nI s4) from by unfold m_X4_spendMonth_58; rw [if_pos (le_cg m61 rfl c62)]).trans (congr (congr (congr (congr (congr (congr (congrArg ((m_X4_spendMonth_L49_33 (m_X4_spendMonth_L10_7 n7) n33)) (rfl : AB3 ad F57 = AB3 ad F57)) m65) (Eq.refl ((nI q57) : Int32))) (Eq.refl rc)) (Eq.refl ra)) (Eq.refl (p3 : Int32))) (Eq.refl ((nI s4) : Int32))))
                exact ih33 (q733 + 1) F57 H57 locs57 (by omega) (by omega) hW57 hFr57 hP57 hS57 hE66 ls64 (lv_sub hl64 [0, 1, 2, 3, 4, 5, 6, 7] rfl)
              have k67 := ci_nle (nI_toInt (n := sl35) (by omega)) (nI_toInt (n := q733) (by omega)) c62
              refine lv_aload_n S.1 S.2.1 dX4_spendMonth_100 rfl (lv_at hl33 3 rfl) ?_
              refine lv_iload S.1 S.2.1 dX4_spendMonth_101 (lv_at hl33 2 rfl) ?_
              refine lv_iload S.1 S.2.1 dX4_spendMonth_103 (lv_at hl33 0 rfl) ?_
              refine r_cSp (As := [.int (nI q57), .int (nI q733)]) (rest := [.ref (ad 30)]) S hK hZ hP57 hS57 hl33.1 (c_X4_cell l D cA ad t hI F57 hW57 (nI q57) (nI q733)) (va_cwS 2 S.2.2.2.2 gX4_spendMonth_X4_cell rfl rfl rfl (by decide +kernel) ⟨Nat.le_of_ble_eq_true rfl, Nat.le_of_ble_eq_true rfl⟩) rfl rfl (Nat.le_of_ble_eq_true rfl) ⟨Nat.zero_le _, Nat.zero_le _⟩ dX4_spendMonth_105 (fun r68 hr68 => ?_)
              obtain ⟨hr68, hm68⟩ := hr68
              obtain rfl : r68 = nI ((q57 * 5 + q733) * 4) := hr68.trans (by rw [pk_mul, nI_add, pk_mul])
              have m69 : (m_X4_cell (AB3 ad F57).1 (nI q57) (nI q733)) = (nI ((q57 * 5 + q733) * 4)) := (congr (congr (Eq.refl (m_X4_cell (AB ad F57))) (Eq.refl ((nI q57) : Int32))) (Eq.refl ((nI q733) : Int32))).trans hm68
              refine lv_iload S.1 S.2.1 dX4_spendMonth_108 (lv_at hl33 2 rfl) ?_
              refine lv_iload S.1 S.2.1 dX4_spendMonth_110 (lv_at hl33 0 rfl) ?_
              refine lv_iconst (v := (nI 1)) S.1 S.2.1 dX4_spendMonth_112 (by decide +kernel) ?_
              refine lv_iadd S.1 S.2.1 dX4_spendMonth_113 ?_
              refine lv_topi (fun v70 e70 => ?_)
              obtain rfl : v70 = nI (q733 + 1) := e70.trans (nI_add _ _)
              have m71 : ((nI q733) + (nI 1)) = (nI (q733 + 1)) := cg2 (fun (x : Int32) (y : Int32) => x + y) (Eq.refl ((nI q733) : Int32)) (Eq.refl ((nI 1) : Int32)) e70
              refine r_cSp (As := [.int (nI q57), .int (nI (q733 + 1))]) (rest := [.int (nI ((q57 * 5 + q733) * 4)), .ref (ad 30)]) S hK hZ hP57 hS57 hl33.1 (c_X4_cell l D cA ad t hI F57 hW57 (nI q57) (nI (q733 + 1))) (va_cwS 2 S.2.2.2.2 gX4_spendMonth_X4_cell rfl rfl rfl (by decide +kernel) ⟨Nat.le_of_ble_eq_true rfl, Nat.le_of_ble_eq_true rfl⟩) rfl rfl (Nat.le_of_ble_eq_true rfl) ⟨Nat.zero_le _, Nat.zero_le _⟩ dX4_spendMonth_114 (fun r72 hr72 => ?_)
              obtain ⟨hr72, hm72⟩ := hr72
              obtain rfl : r72 = nI ((q57 * 5 + (q733 + 1)) * 4) := hr72.trans (by rw [pk_mul, nI_add, pk_mul])
              have m73 : (m_X4_cell (AB3 ad F57).1 (nI q57) ((nI q733) + (nI 1))) = (nI ((q57 * 5 + (q733 + 1)) * 4)) := (congr (congr (Eq.refl (m_X4_cell (AB ad F57))) (Eq.refl ((nI q57) : Int32))) m71).trans hm72
              refine lv_iload S.1 S.2.1 dX4_spendMonth_117 (lv_at hl33 1 rfl) ?_
              refine lv_if_eq (tgt := 127) S.1 S.2.1 dX4_spendMonth_119 (by decide) (fun c74 => ?_) (fun c74 => absurd (by decide +kernel) c74)
              have k75 := ci_eq (nI_toInt (n := 0) (by omega)) z_ti c74
              refine lv_iconst (v := (-1)) S.1 S.2.1 dX4_spendMonth_127 (by decide +kernel) ?_
              obtain ⟨a77, b77, hF77, ha77, hb77⟩ := wt_search hW57
              refine r_cVv (As := [.int (nI ((q57 * 5 + q733) * 4)), .int (nI ((q57 * 5 + (q733 + 1)) * 4)), .int (-1)]) (rest := []) S hK hZ hP57 hS57 hl33.1 30 (by decide) hF77 (C := RX4) rfl (cL_X4_moveAll l D cA ad t hI F57 hW57 ((q57 * 5 + q733) * 4) (by omega) ((q57 * 5 + (q733 + 1)) * 4) (by omega) (-1) (by decide +kernel)) (cwV 3 S.2.2.2.2 gX4_spendMonth_X4_moveAll rfl rfl rfl (by decide +kernel) ⟨Nat.le_of_ble_eq_true rfl, Nat.le_of_ble_eq_true rfl⟩) rfl rfl (Nat.le_of_ble_eq_true rfl) ⟨Nat.zero_le _, Nat.zero_le _⟩ dX4_spendMonth_128 (fun F76 H76 locs76 hr76 hP76 hS76 => ?_)
              obtain ⟨hW76, hFc76, hr76⟩ := hr76
              obtain ⟨hr76, hm76⟩ := hr76
              have hFr76 := hFr57.tr hFc76 (by simp <;> first | omega | (simp only [isC, isJ] at *; omega))
              have hE79 : M = m_X4_spendMonth_78 (m_X4_spendMonth_L10_7 n7) (m_X4_spendMonth_L49_33 (m_X4_spendMonth_L10_7 n7) n33) (AB3 ad F76) (nI q733) (nI q57) rc ra p3 (nI s4) := hE59.trans ((show m_X4_spendMonth_58 (m_X4_spendMonth_L10_7 n7) (m_X4_spendMonth_L49_33 (m_X4_spendMonth_L10_7 n7) n33) (AB3 ad F57) (nI q733) (nI q57) rc ra p3 (nI s4) = m_X4_spendMonth_78 (m_X4_spendMonth_L10_7 n7) (m_X4_spendMonth_L49_33 (m_X4_spendMonth_L10_7 n7) n33) (m_X4_moveAll (AB3 ad F57) (m_X4_cell (AB3 ad F57).1 (nI q57) (nI q733)) (m_X4_cell (AB3 ad F57).1 (nI q57) ((nI q733) + (nI 1))) ((-1) : Int32)) (nI q733) (nI q57) rc ra p3 (nI s4) from by unfold m_X4_spendMonth_58; rw [if_neg (nle_cg m61 rfl c62)]).trans (congr (congr (congr (congr (congr (congr (congrArg (m_X4_spendMonth_78 (m_X4_spendMonth_L10_7 n7) (m_X4_spendMonth_L49_33 (m_X4_spendMonth_L10_7 n7) n33)) ((congr (congr (congr (Eq.refl (m_X4_moveAll (AB3 ad F57))) m69) m73) (Eq.refl ((-1) : Int32))).trans hm76)) (Eq.refl ((nI q733) : Int32))) (Eq.refl ((nI q57) : Int32))) (Eq.refl rc)) (Eq.refl ra)) (Eq.refl (p3 : Int32))) (Eq.refl ((nI s4) : Int32))))
              have m81 : ((nI q733) + Int32.ofInt (1)) = (nI (q733 + 1)) := (congrArg (fun q : Int32 => q + Int32.ofInt (1)) rfl).trans (nI_add _ 1)
              refine lv_iinc (v := (nI (q733 + 1))) (lv' := [(7, .int (nI (q733 + 1))), (6, .int (nI 0)), (5, .int (nI q57)), (0, .ref (ad 30)), (1, .ref (ad rc)), (2, .ref (ad ra)), (3, .int p3), (4, .int (nI s4))]) S.1 S.2.1 dX4_spendMonth_131 hl33 (k := 0) rfl (nI_add _ 1) (by decide) rfl (fun ls80 hl80 => ?_)
              refine lv_goto (tgt := 49) S.1 S.2.1 dX4_spendMonth_134 (by decide) ?_
              have hE82 : M = (m_X4_spendMonth_L49_33 (m_X4_spendMonth_L10_7 n7) n33) (AB3 ad F76) (nI (q733 + 1)) (nI q57) rc ra p3 (nI s4) := hE79.trans ((show m_X4_spendMonth_78 (m_X4_spendMonth_L10_7 n7) (m_X4_spendMonth_L49_33 (m_X4_spendMonth_L10_7 n7) n33) (AB3 ad F76) (nI q733) (nI q57) rc ra p3 (nI s4) = (m_X4_spendMonth_L49_33 (m_X4_spendMonth_L10_7 n7) n33) (AB3 ad F76) ((nI q733) + Int32.ofInt (1)) (nI q57) rc ra p3 (nI s4) from rfl).trans (congr (congr (congr (congr (congr (congr (congrArg ((m_X4_spendMonth_L49_33 (m_X4_spendMonth_L10_7 n7) n33)) (rfl : AB3 ad F76 = AB3 ad F76)) m81) (Eq.refl ((nI q57) : Int32))) (Eq.refl rc)) (Eq.refl ra)) (Eq.refl (p3 : Int32))) (Eq.refl ((nI s4) : Int32))))
              exact ih33 (q733 + 1) F76 H76 locs76 (by omega) (by omega) hW76 hFr76 hP76 hS76 hE82 ls80 (lv_sub hl80 [0, 1, 2, 3, 4, 5, 6, 7] rfl)
            have k83 := ci_ne (nI_toInt (n := b47) (by omega)) z_ti c49
            refine lv_goto (tgt := 131) S.1 S.2.1 dX4_spendMonth_72 (by decide) ?_
            have m85 : ((nI q733) + Int32.ofInt (1)) = (nI (q733 + 1)) := (congrArg (fun q : Int32 => q + Int32.ofInt (1)) rfl).trans (nI_add _ 1)
            refine lv_iinc (v := (nI (q733 + 1))) (lv' := [(7, .int (nI (q733 + 1))), (6, .int (nI 0)), (5, .int (nI q57)), (0, .ref (ad 30)), (1, .ref (ad rc)), (2, .ref (ad ra)), (3, .int p3), (4, .int (nI s4))]) S.1 S.2.1 dX4_spendMonth_131 hl33 (k := 0) rfl (nI_add _ 1) (by decide) rfl (fun ls84 hl84 => ?_)
            refine lv_goto (tgt := 49) S.1 S.2.1 dX4_spendMonth_134 (by decide) ?_
            have hE86 : M = (m_X4_spendMonth_L49_33 (m_X4_spendMonth_L10_7 n7) n33) (AB3 ad Fl33) (nI (q733 + 1)) (nI q57) rc ra p3 (nI s4) := hE34.trans ((show m_X4_spendMonth_L49_33_b (m_X4_spendMonth_L10_7 n7) (m_X4_spendMonth_L49_33 (m_X4_spendMonth_L10_7 n7) n33) (AB3 ad Fl33) (nI q733) (nI q57) rc ra p3 (nI s4) = (m_X4_spendMonth_L49_33 (m_X4_spendMonth_L10_7 n7) n33) (AB3 ad Fl33) ((nI q733) + Int32.ofInt (1)) (nI q57) rc ra p3 (nI s4) from by unfold m_X4_spendMonth_L49_33_b; rw [if_neg (nlt_cg m36 rfl c37), if_neg (neq_cg m48 rfl c49)]).trans (congr (congr (congr (congr (congr (congr (congrArg ((m_X4_spendMonth_L49_33 (m_X4_spendMonth_L10_7 n7) n33)) (rfl : AB3 ad Fl33 = AB3 ad Fl33)) m85) (Eq.refl ((nI q57) : Int32))) (Eq.refl rc)) (Eq.refl ra)) (Eq.refl (p3 : Int32))) (Eq.refl ((nI s4) : Int32))))
            exact ih33 (q733 + 1) Fl33 Hl33 lol33 (by omega) (by omega) hWl33 hFl33 hPl33 hSl33 hE86 ls84 (lv_sub hl84 [0, 1, 2, 3, 4, 5, 6, 7] rfl)
        have hE87 : M = m_X4_spendMonth_L49_33 (m_X4_spendMonth_L10_7 n7) 2000 (AB3 ad Fl7) (nI 0) (nI q57) rc ra p3 (nI s4) := hE8.trans ((show m_X4_spendMonth_L10_7_b (m_X4_spendMonth_L10_7 n7) (AB3 ad Fl7) (nI q57) rc ra p3 (nI s4) = m_X4_spendMonth_L49_33 (m_X4_spendMonth_L10_7 n7) 2000 (AB3 ad Fl7) (nI 0) (nI q57) rc ra p3 (nI s4) from by unfold m_X4_spendMonth_L10_7_b; rw [if_neg (nle_cg m10 rfl c11), if_pos (eq_cg m28 rfl c29)]).trans (congr (congr (congr (congr (congr (congr (congrArg (m_X4_spendMonth_L49_33 (m_X4_spendMonth_L10_7 n7) 2000) (rfl : AB3 ad Fl7 = AB3 ad Fl7)) (Eq.refl ((nI 0) : Int32))) (Eq.refl ((nI q57) : Int32))) (Eq.refl rc)) (Eq.refl ra)) (Eq.refl (p3 : Int32))) (Eq.refl ((nI s4) : Int32))))
        exact lp33 2000 (0) Fl7 Hl7 lol7 (by omega) (by omega) hWl7 hFl7 hPl7 hSl7 hE87 ls32 (lv_sub hl32 [0, 1, 2, 3, 4, 5, 6, 7] rfl)
      have k88 := ci_ne rfl z_ti c29
      refine lv_aload_n S.1 S.2.1 dX4_spendMonth_29 rfl (lv_at hl7 2 rfl) ?_
      refine lv_iload S.1 S.2.1 dX4_spendMonth_30 (lv_at hl7 0 rfl) ?_
      refine lv_iload_n S.1 S.2.1 dX4_spendMonth_32 rfl (lv_at hl7 4 rfl) ?_
      refine r_cVp (As := [.int (nI q57), .int p3]) (rest := []) S hK hZ hPl7 hSl7 hl7.1 rc (lt_C hrc) hF9 (C := RX0) rfl (c_X0_worksIn l D cA ad t hI Fl7 hWl7 rc hrc (nI q57) p3) (cwV 2 S.2.2.2.2 gX4_spendMonth_X0_worksIn rfl rfl rfl (by decide +kernel) ⟨Nat.le_of_ble_eq_true rfl, Nat.le_of_ble_eq_true rfl⟩) rfl rfl (Nat.le_of_ble_eq_true rfl) ⟨Nat.zero_le _, Nat.zero_le _⟩ dX4_spendMonth_33 (fun r89 hr89 => ?_)
      obtain ⟨hr89, hm89⟩ := hr89
      obtain ⟨⟨b90, hb90, rfl⟩, hx90⟩ := hr89
      have hx90 : b90 ≠ 0 → 0 ≤ (nI q57).toInt ∧ (nI q57).toInt ≤ _ := fun q => hx90 (nI_ne0 (by omega) (by omega))
      have m91 : (m_X0_worksIn (AB3 ad Fl7).1 rc (nI q57) p3) = (nI b90) := (congr (congr (congr (Eq.refl (m_X0_worksIn (AB ad Fl7))) (Eq.refl rc)) (Eq.refl ((nI q57) : Int32))) (Eq.refl (p3 : Int32))).trans hm89
      refine lv_if_eq (tgt := 43) S.1 S.2.1 dX4_spendMonth_36 (by decide) (fun c92 => ?_) (fun c92 => ?_)
      · skip
        have k93 := ci_eq (nI_toInt (n := b90) (by omega)) z_ti c92
        refine lv_iconst (v := (nI 0)) S.1 S.2.1 dX4_spendMonth_43 (by decide +kernel) ?_
        refine lv_istore (lv' := [(6, .int (nI 0)), (5, .int (nI q57)), (0, .ref (ad 30)), (1, .ref (ad rc)), (2, .ref (ad ra)), (3, .int p3), (4, .int (nI s4))]) S.1 S.2.1 dX4_spendMonth_44 hl7 (by decide) rfl (fun ls94 hl94 => ?_)
        refine lv_iconst (v := (nI 0)) S.1 S.2.1 dX4_spendMonth_46 (by decide +kernel) ?_
        refine lv_istore (lv' := [(7, .int (nI 0)), (6, .int (nI 0)), (5, .int (nI q57)), (0, .ref (ad 30)), (1, .ref (ad rc)), (2, .ref (ad ra)), (3, .int p3), (4, .int (nI s4))]) S.1 S.2.1 dX4_spendMonth_47 hl94 (by decide) rfl (fun ls95 hl95 => ?_)
        have lp96 : ∀ (n96 : Nat) (q796 : Nat), ∀ (Fl96 : Nat → va_E) (Hl96 : Heap) (lol96 : List Loc), q796 ≤ 5 → 5 - q796 < n96 → WT cA ad Fl96 → rFr [30, 31, 32] F Fl96 → va_P D vwCl (rW ad Fl96) Hl96 → va_S (rA ad) s.heap Hl96 lol96 → M = m_X4_spendMonth_L49_96 (m_X4_spendMonth_L10_7 n7) n96 (AB3 ad Fl96) (nI q796) (nI q57) rc ra p3 (nI s4) → ∀ (ls : Array Slot), lv_has ls 8 [(7, .int (nI q796)), (6, .int (nI 0)), (5, .int (nI q57)), (0, .ref (ad 30)), (1, .ref (ad rc)), (2, .ref (ad ra)), (3, .int p3), (4, .int (nI s4))] → W p l e { frames := 2, cells := 0, slots := 0, locals := 52 } s m args below meth c Hl96 lol96 0 0 Q (F0 m 49 ls []) := by
          intro n96
          induction n96 with
          | zero =>
            intro q796 Fl96 Hl96 lol96 iv96_0 hm96 hWl96 hFl96 hPl96 hSl96 hEl96 ls96 hl96
            exact absurd hm96 (Nat.not_lt_zero _)
          | succ n96 ih96 =>
            intro q796 Fl96 Hl96 lol96 iv96_0 hm96 hWl96 hFl96 hPl96 hSl96 hEl96 ls96 hl96
            have hE97 : M = m_X4_spendMonth_L49_96_b (m_X4_spendMonth_L10_7 n7) (m_X4_spendMonth_L49_96 (m_X4_spendMonth_L10_7 n7) n96) (AB3 ad Fl96) (nI q796) (nI q57) rc ra p3 (nI s4) := hEl96
            refine lv_iload S.1 S.2.1 dX4_spendMonth_49 (lv_at hl96 0 rfl) ?_
            refine lv_aload_n S.1 S.2.1 dX4_spendMonth_51 rfl (lv_at hl96 4 rfl) ?_
            obtain ⟨sl98, fm98, tn98, rn98, bn98, hF98, hb98_1, hb98_2, hb98_3⟩ := wt_C hWl96 hrc
            refine r_get S hK hPl96 rc (lt_C hrc) hF98 (C := RX0) (T := TX0) (N := 10) hiX0 rfl 0 (by decide) (by decide +kernel) (v := .int (nI sl98)) rfl dX4_spendMonth_52 ?_
            have m99 : ((AB3 ad Fl96).1 rc 0) = (nI sl98) := (congrArg (fun q => AB ad Fl96 q 0) rfl).trans (AB_f hF98 rfl)
            refine lv_icmp_gt (tgt := 137) S.1 S.2.1 dX4_spendMonth_55 (by decide) (fun c100 => ?_) (fun c100 => ?_)
            · skip
              have k101 := ci_lt (nI_toInt (n := sl98) (by omega)) (nI_toInt (n := q796) (by omega)) c100
              have m103 : ((nI q57) + Int32.ofInt (1)) = (nI (q57 + 1)) := (congrArg (fun q : Int32 => q + Int32.ofInt (1)) rfl).trans (nI_add _ 1)
              refine lv_iinc (v := (nI (q57 + 1))) (lv' := [(5, .int (nI (q57 + 1))), (7, .int (nI q796)), (6, .int (nI 0)), (0, .ref (ad 30)), (1, .ref (ad rc)), (2, .ref (ad ra)), (3, .int p3), (4, .int (nI s4))]) S.1 S.2.1 dX4_spendMonth_137 hl96 (k := 2) rfl (nI_add _ 1) (by decide) rfl (fun ls102 hl102 => ?_)
              refine lv_goto (tgt := 10) S.1 S.2.1 dX4_spendMonth_140 (by decide) ?_
              have hE104 : M = (m_X4_spendMonth_L10_7 n7) (AB3 ad Fl96) (nI (q57 + 1)) rc ra p3 (nI s4) := hE97.trans ((show m_X4_spendMonth_L49_96_b (m_X4_spendMonth_L10_7 n7) (m_X4_spendMonth_L49_96 (m_X4_spendMonth_L10_7 n7) n96) (AB3 ad Fl96) (nI q796) (nI q57) rc ra p3 (nI s4) = (m_X4_spendMonth_L10_7 n7) (AB3 ad Fl96) ((nI q57) + Int32.ofInt (1)) rc ra p3 (nI s4) from by unfold m_X4_spendMonth_L49_96_b; rw [if_pos (lt_cg m99 rfl c100)]).trans (congr (congr (congr (congr (congr (congrArg ((m_X4_spendMonth_L10_7 n7)) (rfl : AB3 ad Fl96 = AB3 ad Fl96)) m103) (Eq.refl rc)) (Eq.refl ra)) (Eq.refl (p3 : Int32))) (Eq.refl ((nI s4) : Int32))))
              exact ih7 (q57 + 1) Fl96 Hl96 lol96 (by omega) (by omega) hWl96 hFl96 hPl96 hSl96 hE104 ls102 (lv_sub hl102 [0, 3, 4, 5, 6, 7] rfl)
            have k105 := ci_nlt (nI_toInt (n := sl98) (by omega)) (nI_toInt (n := q796) (by omega)) c100
            refine lv_aload_n S.1 S.2.1 dX4_spendMonth_58 rfl (lv_at hl96 3 rfl) ?_
            refine lv_iload S.1 S.2.1 dX4_spendMonth_59 (lv_at hl96 2 rfl) ?_
            refine lv_iload S.1 S.2.1 dX4_spendMonth_61 (lv_at hl96 0 rfl) ?_
            refine r_cSp (As := [.int (nI q57), .int (nI q796)]) (rest := [.ref (ad 30)]) S hK hZ hPl96 hSl96 hl96.1 (c_X4_cell l D cA ad t hI Fl96 hWl96 (nI q57) (nI q796)) (va_cwS 2 S.2.2.2.2 gX4_spendMonth_X4_cell rfl rfl rfl (by decide +kernel) ⟨Nat.le_of_ble_eq_true rfl, Nat.le_of_ble_eq_true rfl⟩) rfl rfl (Nat.le_of_ble_eq_true rfl) ⟨Nat.zero_le _, Nat.zero_le _⟩ dX4_spendMonth_63 (fun r106 hr106 => ?_)
            obtain ⟨hr106, hm106⟩ := hr106
            obtain rfl : r106 = nI ((q57 * 5 + q796) * 4) := hr106.trans (by rw [pk_mul, nI_add, pk_mul])
            have m107 : (m_X4_cell (AB3 ad Fl96).1 (nI q57) (nI q796)) = (nI ((q57 * 5 + q796) * 4)) := (congr (congr (Eq.refl (m_X4_cell (AB ad Fl96))) (Eq.refl ((nI q57) : Int32))) (Eq.refl ((nI q796) : Int32))).trans hm106
            obtain ⟨a109, b109, hF109, ha109, hb109⟩ := wt_search hWl96
            refine r_cVp (As := [.int (nI ((q57 * 5 + q796) * 4))]) (rest := []) S hK hZ hPl96 hSl96 hl96.1 30 (by decide) hF109 (C := RX4) rfl (cL_X4_isEmpty l D cA ad t hI Fl96 hWl96 ((q57 * 5 + q796) * 4) (by omega)) (cwV 1 S.2.2.2.2 gX4_spendMonth_X4_isEmpty rfl rfl rfl (by decide +kernel) ⟨Nat.le_of_ble_eq_true rfl, Nat.le_of_ble_eq_true rfl⟩) rfl rfl (Nat.le_of_ble_eq_true rfl) ⟨Nat.zero_le _, Nat.zero_le _⟩ dX4_spendMonth_66 (fun r108 hr108 => ?_)
            obtain ⟨hr108, hm108⟩ := hr108
            obtain ⟨b110, hb110, rfl⟩ := hr108
            have m111 : (m_X4_isEmpty (AB3 ad Fl96) (m_X4_cell (AB3 ad Fl96).1 (nI q57) (nI q796))) = (nI b110) := (congr (Eq.refl (m_X4_isEmpty (AB3 ad Fl96))) m107).trans hm108
            refine lv_if_eq (tgt := 75) S.1 S.2.1 dX4_spendMonth_69 (by decide) (fun c112 => ?_) (fun c112 => ?_)
            · skip
              have k113 := ci_eq (nI_toInt (n := b110) (by omega)) z_ti c112
              refine lv_aload_n S.1 S.2.1 dX4_spendMonth_75 rfl (lv_at hl96 3 rfl) ?_
              refine lv_aload_n S.1 S.2.1 dX4_spendMonth_76 rfl (lv_at hl96 4 rfl) ?_
              refine lv_iload S.1 S.2.1 dX4_spendMonth_77 (lv_at hl96 2 rfl) ?_
              refine lv_iload S.1 S.2.1 dX4_spendMonth_79 (lv_at hl96 0 rfl) ?_
              refine r_cSp (As := [.int (nI q57), .int (nI q796)]) (rest := [.ref (ad rc), .ref (ad 30)]) S hK hZ hPl96 hSl96 hl96.1 (c_X4_cell l D cA ad t hI Fl96 hWl96 (nI q57) (nI q796)) (va_cwS 2 S.2.2.2.2 gX4_spendMonth_X4_cell rfl rfl rfl (by decide +kernel) ⟨Nat.le_of_ble_eq_true rfl, Nat.le_of_ble_eq_true rfl⟩) rfl rfl (Nat.le_of_ble_eq_true rfl) ⟨Nat.zero_le _, Nat.zero_le _⟩ dX4_spendMonth_81 (fun r114 hr114 => ?_)
              obtain ⟨hr114, hm114⟩ := hr114
              obtain rfl : r114 = nI ((q57 * 5 + q796) * 4) := hr114.trans (by rw [pk_mul, nI_add, pk_mul])
              have m115 : (m_X4_cell (AB3 ad Fl96).1 (nI q57) (nI q796)) = (nI ((q57 * 5 + q796) * 4)) := (congr (congr (Eq.refl (m_X4_cell (AB ad Fl96))) (Eq.refl ((nI q57) : Int32))) (Eq.refl ((nI q796) : Int32))).trans hm114
              refine lv_aload_n S.1 S.2.1 dX4_spendMonth_84 rfl (lv_at hl96 5 rfl) ?_
              refine lv_iload S.1 S.2.1 dX4_spendMonth_85 (lv_at hl96 2 rfl) ?_
              obtain ⟨g116, hF116, hg116⟩ := wt_I hWl96 hra
              refine r_iald S hK hPl96 ra (lt_I hra) hF116 (vp_in_nI (show q57 < 8 by omega) (by omega)) dX4_spendMonth_87 ?_
              refine lv_topi (fun v118 e118 => ?_)
              have m119 : ((AB3 ad Fl96).1 ra (rl (nI q57))) = v118 := (ab_cg rfl rfl).trans ((AB_g hF116).trans e118.symm)
              refine r_cVv (As := [.ref (ad rc), .int (nI ((q57 * 5 + q796) * 4)), .int v118]) (rest := []) S hK hZ hPl96 hSl96 hl96.1 30 (by decide) hF109 (C := RX4) rfl (cL_X4_walkAll l D cA ad t hI Fl96 hWl96 rc hrc ((q57 * 5 + q796) * 4) (by omega) v118) (cwV 3 S.2.2.2.2 gX4_spendMonth_X4_walkAll rfl rfl rfl (by decide +kernel) ⟨Nat.le_of_ble_eq_true rfl, Nat.le_of_ble_eq_true rfl⟩) rfl rfl (Nat.le_of_ble_eq_true rfl) ⟨Nat.zero_le _, Nat.zero_le _⟩ dX4_spendMonth_88 (fun F120 H120 locs120 hr120 hP120 hS120 => ?_)
              obtain ⟨hW120, hFc120, hr120⟩ := hr120
              obtain ⟨hr120, hm120⟩ := hr120
              have hFr120 := hFl96.tr hFc120 (by simp <;> first | omega | (simp only [isC, isJ] at *; omega))
              have hE122 : M = m_X4_spendMonth_121 (m_X4_spendMonth_L10_7 n7) (m_X4_spendMonth_L49_96 (m_X4_spendMonth_L10_7 n7) n96) (AB3 ad F120) (nI q796) (nI q57) rc ra p3 (nI s4) := hE97.trans ((show m_X4_spendMonth_L49_96_b (m_X4_spendMonth_L10_7 n7) (m_X4_spendMonth_L49_96 (m_X4_spendMonth_L10_7 n7) n96) (AB3 ad Fl96) (nI q796) (nI q57) rc ra p3 (nI s4) = m_X4_spendMonth_121 (m_X4_spendMonth_L10_7 n7) (m_X4_spendMonth_L49_96 (m_X4_spendMonth_L10_7 n7) n96) (m_X4_walkAll (AB3 ad Fl96) rc (m_X4_cell (AB3 ad Fl96).1 (nI q57) (nI q796)) ((AB3 ad Fl96).1 ra (rl (nI q57)))) (nI q796) (nI q57) rc ra p3 (nI s4) from by unfold m_X4_spendMonth_L49_96_b; rw [if_neg (nlt_cg m99 rfl c100), if_pos (eq_cg m111 rfl c112)]).trans (congr (congr (congr (congr (congr (congr (congrArg (m_X4_spendMonth_121 (m_X4_spendMonth_L10_7 n7) (m_X4_spendMonth_L49_96 (m_X4_spendMonth_L10_7 n7) n96)) ((congr (congr (congr (Eq.refl (m_X4_walkAll (AB3 ad Fl96))) (Eq.refl rc)) m115) m119).trans hm120)) (Eq.refl ((nI q796) : Int32))) (Eq.refl ((nI q57) : Int32))) (Eq.refl rc)) (Eq.refl ra)) (Eq.refl (p3 : Int32))) (Eq.refl ((nI s4) : Int32))))
              refine lv_iload S.1 S.2.1 dX4_spendMonth_91 (lv_at hl96 0 rfl) ?_
              refine lv_aload_n S.1 S.2.1 dX4_spendMonth_93 rfl (lv_at hl96 4 rfl) ?_
              have hF123 := (hFc120 rc (by have hh1 := hrc; unfold isC at hh1; simp only [List.mem_cons, List.not_mem_nil, or_false, not_or]; omega)).trans hF98
              refine r_get S hK hP120 rc (lt_C hrc) hF123 (C := RX0) (T := TX0) (N := 10) hiX0 rfl 0 (by decide) (by decide +kernel) (v := .int (nI sl98)) rfl dX4_spendMonth_94 ?_
              have m124 : ((AB3 ad F120).1 rc 0) = (nI sl98) := (congrArg (fun q => AB ad F120 q 0) rfl).trans (AB_f hF123 rfl)
              refine lv_icmp_ge (tgt := 131) S.1 S.2.1 dX4_spendMonth_97 (by decide) (fun c125 => ?_) (fun c125 => ?_)
              · skip
                have k126 := ci_le (nI_toInt (n := sl98) (by omega)) (nI_toInt (n := q796) (by omega)) c125
                have m128 : ((nI q796) + Int32.ofInt (1)) = (nI (q796 + 1)) := (congrArg (fun q : Int32 => q + Int32.ofInt (1)) rfl).trans (nI_add _ 1)
                refine lv_iinc (v := (nI (q796 + 1))) (lv' := [(7, .int (nI (q796 + 1))), (6, .int (nI 0)), (5, .int (nI q57)), (0, .ref (ad 30)), (1, .ref (ad rc)), (2, .ref (ad ra)), (3, .int p3), (4, .int (nI s4))]) S.1 S.2.1 dX4_spendMonth_131 hl96 (k := 0) rfl (nI_add _ 1) (by decide) rfl (fun ls127 hl127 => ?_)
                refine lv_goto (tgt := 49) S.1 S.2.1 dX4_spendMonth_134 (by decide) ?_
                have hE129 : M = (m_X4_spendMonth_L49_96 (m_X4_spendMonth_L10_7 n7) n96) (AB3 ad F120) (nI (q796 + 1)) (nI q57) rc ra p3 (nI s4) := hE122.trans ((show m_X4_spendMonth_121 (m_X4_spendMonth_L10_7 n7) (m_X4_spendMonth_L49_96 (m_X4_spendMonth_L10_7 n7) n96) (AB3 ad F120) (nI q796) (nI q57) rc ra p3 (nI s4) = (m_X4_spendMonth_L49_96 (m_X4_spendMonth_L10_7 n7) n96) (AB3 ad F120) ((nI q796) + Int32.ofInt (1)) (nI q57) rc ra p3 (nI s4) from by unfold m_X4_spendMonth_121; rw [if_pos (le_cg m124 rfl c125)]).trans (congr (congr (congr (congr (congr (congr (congrArg ((m_X4_spendMonth_L49_96 (m_X4_spendMonth_L10_7 n7) n96)) (rfl : AB3 ad F120 = AB3 ad F120)) m128) (Eq.refl ((nI q57) : Int32))) (Eq.refl rc)) (Eq.refl ra)) (Eq.refl (p3 : Int32))) (Eq.refl ((nI s4) : Int32))))
                exact ih96 (q796 + 1) F120 H120 locs120 (by omega) (by omega) hW120 hFr120 hP120 hS120 hE129 ls127 (lv_sub hl127 [0, 1, 2, 3, 4, 5, 6, 7] rfl)
              have k130 := ci_nle (nI_toInt (n := sl98) (by omega)) (nI_toInt (n := q796) (by omega)) c125
              refine lv_aload_n S.1 S.2.1 dX4_spendMonth_100 rfl (lv_at hl96 3 rfl) ?_
              refine lv_iload S.1 S.2.1 dX4_spendMonth_101 (lv_at hl96 2 rfl) ?_
              refine lv_iload S.1 S.2.1 dX4_spendMonth_103 (lv_at hl96 0 rfl) ?_
              refine r_cSp (As := [.int (nI q57), .int (nI q796)]) (rest := [.ref (ad 30)]) S hK hZ hP120 hS120 hl96.1 (c_X4_cell l D cA ad t hI F120 hW120 (nI q57) (nI q796)) (va_cwS 2 S.2.2.2.2 gX4_spendMonth_X4_cell rfl rfl rfl (by decide +kernel) ⟨Nat.le_of_ble_eq_true rfl, Nat.le_of_ble_eq_true rfl⟩) rfl rfl (Nat.le_of_ble_eq_true rfl) ⟨Nat.zero_le _, Nat.zero_le _⟩ dX4_spendMonth_105 (fun r131 hr131 => ?_)
              obtain ⟨hr131, hm131⟩ := hr131
              obtain rfl : r131 = nI ((q57 * 5 + q796) * 4) := hr131.trans (by rw [pk_mul, nI_add, pk_mul])
              have m132 : (m_X4_cell (AB3 ad F120).1 (nI q57) (nI q796)) = (nI ((q57 * 5 + q796) * 4)) := (congr (congr (Eq.refl (m_X4_cell (AB ad F120))) (Eq.refl ((nI q57) : Int32))) (Eq.refl ((nI q796) : Int32))).trans hm131
              refine lv_iload S.1 S.2.1 dX4_spendMonth_108 (lv_at hl96 2 rfl) ?_
              refine lv_iload S.1 S.2.1 dX4_spendMonth_110 (lv_at hl96 0 rfl) ?_
              refine lv_iconst (v := (nI 1)) S.1 S.2.1 dX4_spendMonth_112 (by decide +kernel) ?_
              refine lv_iadd S.1 S.2.1 dX4_spendMonth_113 ?_
              refine lv_topi (fun v133 e133 => ?_)
              obtain rfl : v133 = nI (q796 + 1) := e133.trans (nI_add _ _)
              have m134 : ((nI q796) + (nI 1)) = (nI (q796 + 1)) := cg2 (fun (x : Int32) (y : Int32) => x + y) (Eq.refl ((nI q796) : Int32)) (Eq.refl ((nI 1) : Int32)) e133
              refine r_cSp (As := [.int (nI q57), .int (nI (q796 + 1))]) (rest := [.int (nI ((q57 * 5 + q796) * 4)), .ref (ad 30)]) S hK hZ hP120 hS120 hl96.1 (c_X4_cell l D cA ad t hI F120 hW120 (nI q57) (nI (q796 + 1))) (va_cwS 2 S.2.2.2.2 gX4_spendMonth_X4_cell rfl rfl rfl (by decide +kernel) ⟨Nat.le_of_ble_eq_true rfl, Nat.le_of_ble_eq_true rfl⟩) rfl rfl (Nat.le_of_ble_eq_true rfl) ⟨Nat.zero_le _, Nat.zero_le _⟩ dX4_spendMonth_114 (fun r135 hr135 => ?_)
              obtain ⟨hr135, hm135⟩ := hr135
              obtain rfl : r135 = nI ((q57 * 5 + (q796 + 1)) * 4) := hr135.trans (by rw [pk_mul, nI_add, pk_mul])
              have m136 : (m_X4_cell (AB3 ad F120).1 (nI q57) ((nI q796) + (nI 1))) = (nI ((q57 * 5 + (q796 + 1)) * 4)) := (congr (congr (Eq.refl (m_X4_cell (AB ad F120))) (Eq.refl ((nI q57) : Int32))) m134).trans hm135
              refine lv_iload S.1 S.2.1 dX4_spendMonth_117 (lv_at hl96 1 rfl) ?_
              refine lv_if_eq (tgt := 127) S.1 S.2.1 dX4_spendMonth_119 (by decide) (fun c137 => ?_) (fun c137 => absurd (by decide +kernel) c137)
              have k138 := ci_eq (nI_toInt (n := 0) (by omega)) z_ti c137
              refine lv_iconst (v := (-1)) S.1 S.2.1 dX4_spendMonth_127 (by decide +kernel) ?_
              obtain ⟨a140, b140, hF140, ha140, hb140⟩ := wt_search hW120
              refine r_cVv (As := [.int (nI ((q57 * 5 + q796) * 4)), .int (nI ((q57 * 5 + (q796 + 1)) * 4)), .int (-1)]) (rest := []) S hK hZ hP120 hS120 hl96.1 30 (by decide) hF140 (C := RX4) rfl (cL_X4_moveAll l D cA ad t hI F120 hW120 ((q57 * 5 + q796) * 4) (by omega) ((q57 * 5 + (q796 + 1)) * 4) (by omega) (-1) (by decide +kernel)) (cwV 3 S.2.2.2.2 gX4_spendMonth_X4_moveAll rfl rfl rfl (by decide +kernel) ⟨Nat.le_of_ble_eq_true rfl, Nat.le_of_ble_eq_true rfl⟩) rfl rfl (Nat.le_of_ble_eq_true rfl) ⟨Nat.zero_le _, Nat.zero_le _⟩ dX4_spendMonth_128 (fun F139 H139 locs139 hr139 hP139 hS139 => ?_)
              obtain ⟨hW139, hFc139, hr139⟩ := hr139
              obtain ⟨hr139, hm139⟩ := hr139
              have hFr139 := hFr120.tr hFc139 (by simp <;> first | omega | (simp only [isC, isJ] at *; omega))
              have hE142 : M = m_X4_spendMonth_141 (m_X4_spendMonth_L10_7 n7) (m_X4_spendMonth_L49_96 (m_X4_spendMonth_L10_7 n7) n96) (AB3 ad F139) (nI q796) (nI q57) rc ra p3 (nI s4) := hE122.trans ((show m_X4_spendMonth_121 (m_X4_spendMonth_L10_7 n7) (m_X4_spendMonth_L49_96 (m_X4_spendMonth_L10_7 n7) n96) (AB3 ad F120) (nI q796) (nI q57) rc ra p3 (nI s4) = m_X4_spendMonth_141 (m_X4_spendMonth_L10_7 n7) (m_X4_spendMonth_L49_96 (m_X4_spendMonth_L10_7 n7) n96) (m_X4_moveAll (AB3 ad F120) (m_X4_cell (AB3 ad F120).1 (nI q57) (nI q796)) (m_X4_cell (AB3 ad F120).1 (nI q57) ((nI q796) + (nI 1))) ((-1) : Int32)) (nI q796) (nI q57) rc ra p3 (nI s4) from by unfold m_X4_spendMonth_121; rw [if_neg (nle_cg m124 rfl c125)]).trans (congr (congr (congr (congr (congr (congr (congrArg (m_X4_spendMonth_141 (m_X4_spendMonth_L10_7 n7) (m_X4_spendMonth_L49_96 (m_X4_spendMonth_L10_7 n7) n96)) ((congr (congr (congr (Eq.refl (m_X4_moveAll (AB3 ad F120))) m132) m136) (Eq.refl ((-1) : Int32))).trans hm139)) (Eq.refl ((nI q796) : Int32))) (Eq.refl ((nI q57) : Int32))) (Eq.refl rc)) (Eq.refl ra)) (Eq.refl (p3 : Int32))) (Eq.refl ((nI s4) : Int32))))
              have m144 : ((nI q796) + Int32.ofInt (1)) = (nI (q796 + 1)) := (congrArg (fun q : Int32 => q + Int32.ofInt (1)) rfl).trans (nI_add _ 1)
              refine lv_iinc (v := (nI (q796 + 1))) (lv' := [(7, .int (nI (q796 + 1))), (6, .int (nI 0)), (5, .int (nI q57)), (0, .ref (ad 30)), (1, .ref (ad rc)), (2, .ref (ad ra)), (3, .int p3), (4, .int (nI s4))]) S.1 S.2.1 dX4_spendMonth_131 hl96 (k := 0) rfl (nI_add _ 1) (by decide) rfl (fun ls143 hl143 => ?_)
              refine lv_goto (tgt := 49) S.1 S.2.1 dX4_spendMonth_134 (by decide) ?_
              have hE145 : M = (m_X4_spendMonth_L49_96 (m_X4_spendMonth_L10_7 n7) n96) (AB3 ad F139) (nI (q796 + 1)) (nI q57) rc ra p3 (nI s4) := hE142.trans ((show m_X4_spendMonth_141 (m_X4_spendMonth_L10_7 n7) (m_X4_spendMonth_L49_96 (m_X4_spendMonth_L10_7 n7) n96) (AB3 ad F139) (nI q796) (nI q57) rc ra p3 (nI s4) = (m_X4_spendMonth_L49_96 (m_X4_spendMonth_L10_7 n7) n96) (AB3 ad F139) ((nI q796) + Int32.ofInt (1)) (nI q57) rc ra p3 (nI s4) from rfl).trans (congr (congr (congr (congr (congr (congr (congrArg ((m_X4_spendMonth_L49_96 (m_X4_spendMonth_L10_7 n7) n96)) (rfl : AB3 ad F139 = AB3 ad F139)) m144) (Eq.refl ((nI q57) : Int32))) (Eq.refl rc)) (Eq.refl ra)) (Eq.refl (p3 : Int32))) (Eq.refl ((nI s4) : Int32))))
              exact ih96 (q796 + 1) F139 H139 locs139 (by omega) (by omega) hW139 hFr139 hP139 hS139 hE145 ls143 (lv_sub hl143 [0, 1, 2, 3, 4, 5, 6, 7] rfl)
            have k146 := ci_ne (nI_toInt (n := b110) (by omega)) z_ti c112
            refine lv_goto (tgt := 131) S.1 S.2.1 dX4_spendMonth_72 (by decide) ?_
            have m148 : ((nI q796) + Int32.ofInt (1)) = (nI (q796 + 1)) := (congrArg (fun q : Int32 => q + Int32.ofInt (1)) rfl).trans (nI_add _ 1)
            refine lv_iinc (v := (nI (q796 + 1))) (lv' := [(7, .int (nI (q796 + 1))), (6, .int (nI 0)), (5, .int (nI q57)), (0, .ref (ad 30)), (1, .ref (ad rc)), (2, .ref (ad ra)), (3, .int p3), (4, .int (nI s4))]) S.1 S.2.1 dX4_spendMonth_131 hl96 (k := 0) rfl (nI_add _ 1) (by decide) rfl (fun ls147 hl147 => ?_)
            refine lv_goto (tgt := 49) S.1 S.2.1 dX4_spendMonth_134 (by decide) ?_
            have hE149 : M = (m_X4_spendMonth_L49_96 (m_X4_spendMonth_L10_7 n7) n96) (AB3 ad Fl96) (nI (q796 + 1)) (nI q57) rc ra p3 (nI s4) := hE97.trans ((show m_X4_spendMonth_L49_96_b (m_X4_spendMonth_L10_7 n7) (m_X4_spendMonth_L49_96 (m_X4_spendMonth_L10_7 n7) n96) (AB3 ad Fl96) (nI q796) (nI q57) rc ra p3 (nI s4) = (m_X4_spendMonth_L49_96 (m_X4_spendMonth_L10_7 n7) n96) (AB3 ad Fl96) ((nI q796) + Int32.ofInt (1)) (nI q57) rc ra p3 (nI s4) from by unfold m_X4_spendMonth_L49_96_b; rw [if_neg (nlt_cg m99 rfl c100), if_neg (neq_cg m111 rfl c112)]).trans (congr (congr (congr (congr (congr (congr (congrArg ((m_X4_spendMonth_L49_96 (m_X4_spendMonth_L10_7 n7) n96)) (rfl : AB3 ad Fl96 = AB3 ad Fl96)) m148) (Eq.refl ((nI q57) : Int32))) (Eq.refl rc)) (Eq.refl ra)) (Eq.refl (p3 : Int32))) (Eq.refl ((nI s4) : Int32))))
            exact ih96 (q796 + 1) Fl96 Hl96 lol96 (by omega) (by omega) hWl96 hFl96 hPl96 hSl96 hE149 ls147 (lv_sub hl147 [0, 1, 2, 3, 4, 5, 6, 7] rfl)
        have hE150 : M = m_X4_spendMonth_L49_96 (m_X4_spendMonth_L10_7 n7) 2000 (AB3 ad Fl7) (nI 0) (nI q57) rc ra p3 (nI s4) := hE8.trans ((show m_X4_spendMonth_L10_7_b (m_X4_spendMonth_L10_7 n7) (AB3 ad Fl7) (nI q57) rc ra p3 (nI s4) = m_X4_spendMonth_L49_96 (m_X4_spendMonth_L10_7 n7) 2000 (AB3 ad Fl7) (nI 0) (nI q57) rc ra p3 (nI s4) from by unfold m_X4_spendMonth_L10_7_b; rw [if_neg (nle_cg m10 rfl c11), if_neg (neq_cg m28 rfl c29), if_pos (eq_cg m91 rfl c92)]).trans (congr (congr (congr (congr (congr (congr (congrArg (m_X4_spendMonth_L49_96 (m_X4_spendMonth_L10_7 n7) 2000) (rfl : AB3 ad Fl7 = AB3 ad Fl7)) (Eq.refl ((nI 0) : Int32))) (Eq.refl ((nI q57) : Int32))) (Eq.refl rc)) (Eq.refl ra)) (Eq.refl (p3 : Int32))) (Eq.refl ((nI s4) : Int32))))
        exact lp96 2000 (0) Fl7 Hl7 lol7 (by omega) (by omega) hWl7 hFl7 hPl7 hSl7 hE150 ls95 (lv_sub hl95 [0, 1, 2, 3, 4, 5, 6, 7] rfl)
      have k151 := ci_ne (nI_toInt (n := b90) (by omega)) z_ti c92
      refine lv_iconst (v := (nI 1)) S.1 S.2.1 dX4_spendMonth_39 (by decide +kernel) ?_
      refine lv_goto (tgt := 44) S.1 S.2.1 dX4_spendMonth_40 (by decide) ?_
      refine lv_istore (lv' := [(6, .int (nI 1)), (5, .int (nI q57)), (0, .ref (ad 30)), (1, .ref (ad rc)), (2, .ref (ad ra)), (3, .int p3), (4, .int (nI s4))]) S.1 S.2.1 dX4_spendMonth_44 hl7 (by decide) rfl (fun ls152 hl152 => ?_)
      refine lv_iconst (v := (nI 0)) S.1 S.2.1 dX4_spendMonth_46 (by decide +kernel) ?_
      refine lv_istore (lv' := [(7, .int (nI 0)), (6, .int (nI 1)), (5, .int (nI q57)), (0, .ref (ad 30)), (1, .ref (ad rc)), (2, .ref (ad ra)), (3, .int p3), (4, .int (nI s4))]) S.1 S.2.1 dX4_spendMonth_47 hl152 (by decide) rfl (fun ls153 hl153 => ?_)
      have lp154 : ∀ (n154 : Nat) (q7154 : Nat), ∀ (Fl154 : Nat → va_E) (Hl154 : Heap) (lol154 : List Loc), q7154 ≤ 5 → 5 - q7154 < n154 → WT cA ad Fl154 → rFr [30, 31, 32] F Fl154 → va_P D vwCl (rW ad Fl154) Hl154 → va_S (rA ad) s.heap Hl154 lol154 → M = m_X4_spendMonth_L49_154 (m_X4_spendMonth_L10_7 n7) n154 (AB3 ad Fl154) (nI q7154) (nI q57) rc ra p3 (nI s4) → ∀ (ls : Array Slot), lv_has ls 8 [(7, .int (nI q7154)), (6, .int (nI 1)), (5, .int (nI q57)), (0, .ref (ad 30)), (1, .ref (ad rc)), (2, .ref (ad ra)), (3, .int p3), (4, .int (nI s4))] → W p l e { frames := 2, cells := 0, slots := 0, locals := 52 } s m args below meth c Hl154 lol154 0 0 Q (F0 m 49 ls []) := by
        intro n154
        induction n154 with
        | zero =>
          intro q7154 Fl154 Hl154 lol154 iv154_0 hm154 hWl154 hFl154 hPl154 hSl154 hEl154 ls154 hl154
          exact absurd hm154 (Nat.not_lt_zero _)
        | succ n154 ih154 =>
          intro q7154 Fl154 Hl154 lol154 iv154_0 hm154 hWl154 hFl154 hPl154 hSl154 hEl154 ls154 hl154
          have hE155 : M = m_X4_spendMonth_L49_154_b (m_X4_spendMonth_L10_7 n7) (m_X4_spendMonth_L49_154 (m_X4_spendMonth_L10_7 n7) n154) (AB3 ad Fl154) (nI q7154) (nI q57) rc ra p3 (nI s4) := hEl154
          refine lv_iload S.1 S.2.1 dX4_spendMonth_49 (lv_at hl154 0 rfl) ?_
          refine lv_aload_n S.1 S.2.1 dX4_spendMonth_51 rfl (lv_at hl154 4 rfl) ?_
          obtain ⟨sl156, fm156, tn156, rn156, bn156, hF156, hb156_1, hb156_2, hb156_3⟩ := wt_C hWl154 hrc
          refine r_get S hK hPl154 rc (lt_C hrc) hF156 (C := RX0) (T := TX0) (N := 10) hiX0 rfl 0 (by decide) (by decide +kernel) (v := .int (nI sl156)) rfl dX4_spendMonth_52 ?_
          have m157 : ((AB3 ad Fl154).1 rc 0) = (nI sl156) := (congrArg (fun q => AB ad Fl154 q 0) rfl).trans (AB_f hF156 rfl)
          refine lv_icmp_gt (tgt := 137) S.1 S.2.1 dX4_spendMonth_55 (by decide) (fun c158 => ?_) (fun c158 => ?_)
          · skip
            have k159 := ci_lt (nI_toInt (n := sl156) (by omega)) (nI_toInt (n := q7154) (by omega)) c158
            have m161 : ((nI q57) + Int32.ofInt (1)) = (nI (q57 + 1)) := (congrArg (fun q : Int32 => q + Int32.ofInt (1)) rfl).trans (nI_add _ 1)
            refine lv_iinc (v := (nI (q57 + 1))) (lv' := [(5, .int (nI (q57 + 1))), (7, .int (nI q7154)), (6, .int (nI 1)), (0, .ref (ad 30)), (1, .ref (ad rc)), (2, .ref (ad ra)), (3, .int p3), (4, .int (nI s4))]) S.1 S.2.1 dX4_spendMonth_137 hl154 (k := 2) rfl (nI_add _ 1) (by decide) rfl (fun ls160 hl160 => ?_)
            refine lv_goto (tgt := 10) S.1 S.2.1 dX4_spendMonth_140 (by decide) ?_
            have hE162 : M = (m_X4_spendMonth_L10_7 n7) (AB3 ad Fl154) (nI (q57 + 1)) rc ra p3 (nI s4) := hE155.trans ((show m_X4_spendMonth_L49_154_b (m_X4_spendMonth_L10_7 n7) (m_X4_spendMonth_L49_154 (m_X4_spendMonth_L10_7 n7) n154) (AB3 ad Fl154) (nI q7154) (nI q57) rc ra p3 (nI s4) = (m_X4_spendMonth_L10_7 n7) (AB3 ad Fl154) ((nI q57) + Int32.ofInt (1)) rc ra p3 (nI s4) from by unfold m_X4_spendMonth_L49_154_b; rw [if_pos (lt_cg m157 rfl c158)]).trans (congr (congr (congr (congr (congr (congrArg ((m_X4_spendMonth_L10_7 n7)) (rfl : AB3 ad Fl154 = AB3 ad Fl154)) m161) (Eq.refl rc)) (Eq.refl ra)) (Eq.refl (p3 : Int32))) (Eq.refl ((nI s4) : Int32))))
            exact ih7 (q57 + 1) Fl154 Hl154 lol154 (by omega) (by omega) hWl154 hFl154 hPl154 hSl154 hE162 ls160 (lv_sub hl160 [0, 3, 4, 5, 6, 7] rfl)
          have k163 := ci_nlt (nI_toInt (n := sl156) (by omega)) (nI_toInt (n := q7154) (by omega)) c158
          refine lv_aload_n S.1 S.2.1 dX4_spendMonth_58 rfl (lv_at hl154 3 rfl) ?_
          refine lv_iload S.1 S.2.1 dX4_spendMonth_59 (lv_at hl154 2 rfl) ?_
          refine lv_iload S.1 S.2.1 dX4_spendMonth_61 (lv_at hl154 0 rfl) ?_
          refine r_cSp (As := [.int (nI q57), .int (nI q7154)]) (rest := [.ref (ad 30)]) S hK hZ hPl154 hSl154 hl154.1 (c_X4_cell l D cA ad t hI Fl154 hWl154 (nI q57) (nI q7154)) (va_cwS 2 S.2.2.2.2 gX4_spendMonth_X4_cell rfl rfl rfl (by decide +kernel) ⟨Nat.le_of_ble_eq_true rfl, Nat.le_of_ble_eq_true rfl⟩) rfl rfl (Nat.le_of_ble_eq_true rfl) ⟨Nat.zero_le _, Nat.zero_le _⟩ dX4_spendMonth_63 (fun r164 hr164 => ?_)
          obtain ⟨hr164, hm164⟩ := hr164
          obtain rfl : r164 = nI ((q57 * 5 + q7154) * 4) := hr164.trans (by rw [pk_mul, nI_add, pk_mul])
          have m165 : (m_X4_cell (AB3 ad Fl154).1 (nI q57) (nI q7154)) = (nI ((q57 * 5 + q7154) * 4)) := (congr (congr (Eq.refl (m_X4_cell (AB ad Fl154))) (Eq.refl ((nI q57) : Int32))) (Eq.refl ((nI q7154) : Int32))).trans hm164
          obtain ⟨a167, b167, hF167, ha167, hb167⟩ := wt_search hWl154
          refine r_cVp (As := [.int (nI ((q57 * 5 + q7154) * 4))]) (rest := []) S hK hZ hPl154 hSl154 hl154.1 30 (by decide) hF167 (C := RX4) rfl (cL_X4_isEmpty l D cA ad t hI Fl154 hWl154 ((q57 * 5 + q7154) * 4) (by omega)) (cwV 1 S.2.2.2.2 gX4_spendMonth_X4_isEmpty rfl rfl rfl (by decide +kernel) ⟨Nat.le_of_ble_eq_true rfl, Nat.le_of_ble_eq_true rfl⟩) rfl rfl (Nat.le_of_ble_eq_true rfl) ⟨Nat.zero_le _, Nat.zero_le _⟩ dX4_spendMonth_66 (fun r166 hr166 => ?_)
          obtain ⟨hr166, hm166⟩ := hr166
          obtain ⟨b168, hb168, rfl⟩ := hr166
          have m169 : (m_X4_isEmpty (AB3 ad Fl154) (m_X4_cell (AB3 ad Fl154).1 (nI q57) (nI q7154))) = (nI b168) := (congr (Eq.refl (m_X4_isEmpty (AB3 ad Fl154))) m165).trans hm166
          refine lv_if_eq (tgt := 75) S.1 S.2.1 dX4_spendMonth_69 (by decide) (fun c170 => ?_) (fun c170 => ?_)
          · skip
            have k171 := ci_eq (nI_toInt (n := b168) (by omega)) z_ti c170
            refine lv_aload_n S.1 S.2.1 dX4_spendMonth_75 rfl (lv_at hl154 3 rfl) ?_
            refine lv_aload_n S.1 S.2.1 dX4_spendMonth_76 rfl (lv_at hl154 4 rfl) ?_
            refine lv_iload S.1 S.2.1 dX4_spendMonth_77 (lv_at hl154 2 rfl) ?_
            refine lv_iload S.1 S.2.1 dX4_spendMonth_79 (lv_at hl154 0 rfl) ?_
            refine r_cSp (As := [.int (nI q57), .int (nI q7154)]) (rest := [.ref (ad rc), .ref (ad 30)]) S hK hZ hPl154 hSl154 hl154.1 (c_X4_cell l D cA ad t hI Fl154 hWl154 (nI q57) (nI q7154)) (va_cwS 2 S.2.2.2.2 gX4_spendMonth_X4_cell rfl rfl rfl (by decide +kernel) ⟨Nat.le_of_ble_eq_true rfl, Nat.le_of_ble_eq_true rfl⟩) rfl rfl (Nat.le_of_ble_eq_true rfl) ⟨Nat.zero_le _, Nat.zero_le _⟩ dX4_spendMonth_81 (fun r172 hr172 => ?_)
            obtain ⟨hr172, hm172⟩ := hr172
            obtain rfl : r172 = nI ((q57 * 5 + q7154) * 4) := hr172.trans (by rw [pk_mul, nI_add, pk_mul])
            have m173 : (m_X4_cell (AB3 ad Fl154).1 (nI q57) (nI q7154)) = (nI ((q57 * 5 + q7154) * 4)) := (congr (congr (Eq.refl (m_X4_cell (AB ad Fl154))) (Eq.refl ((nI q57) : Int32))) (Eq.refl ((nI q7154) : Int32))).trans hm172
            refine lv_aload_n S.1 S.2.1 dX4_spendMonth_84 rfl (lv_at hl154 5 rfl) ?_
            refine lv_iload S.1 S.2.1 dX4_spendMonth_85 (lv_at hl154 2 rfl) ?_
            obtain ⟨g174, hF174, hg174⟩ := wt_I hWl154 hra
            refine r_iald S hK hPl154 ra (lt_I hra) hF174 (vp_in_nI (show q57 < 8 by omega) (by omega)) dX4_spendMonth_87 ?_
            refine lv_topi (fun v176 e176 => ?_)
            have m177 : ((AB3 ad Fl154).1 ra (rl (nI q57))) = v176 := (ab_cg rfl rfl).trans ((AB_g hF174).trans e176.symm)
            refine r_cVv (As := [.ref (ad rc), .int (nI ((q57 * 5 + q7154) * 4)), .int v176]) (rest := []) S hK hZ hPl154 hSl154 hl154.1 30 (by decide) hF167 (C := RX4) rfl (cL_X4_walkAll l D cA ad t hI Fl154 hWl154 rc hrc ((q57 * 5 + q7154) * 4) (by omega) v176) (cwV 3 S.2.2.2.2 gX4_spendMonth_X4_walkAll rfl rfl rfl (by decide +kernel) ⟨Nat.le_of_ble_eq_true rfl, Nat.le_of_ble_eq_true rfl⟩) rfl rfl (Nat.le_of_ble_eq_true rfl) ⟨Nat.zero_le _, Nat.zero_le _⟩ dX4_spendMonth_88 (fun F178 H178 locs178 hr178 hP178 hS178 => ?_)
            obtain ⟨hW178, hFc178, hr178⟩ := hr178
            obtain ⟨hr178, hm178⟩ := hr178
            have hFr178 := hFl154.tr hFc178 (by simp <;> first | omega | (simp only [isC, isJ] at *; omega))
            have hE180 : M = m_X4_spendMonth_179 (m_X4_spendMonth_L10_7 n7) (m_X4_spendMonth_L49_154 (m_X4_spendMonth_L10_7 n7) n154) (AB3 ad F178) (nI q7154) (nI q57) rc ra p3 (nI s4) := hE155.trans ((show m_X4_spendMonth_L49_154_b (m_X4_spendMonth_L10_7 n7) (m_X4_spendMonth_L49_154 (m_X4_spendMonth_L10_7 n7) n154) (AB3 ad Fl154) (nI q7154) (nI q57) rc ra p3 (nI s4) = m_X4_spendMonth_179 (m_X4_spendMonth_L10_7 n7) (m_X4_spendMonth_L49_154 (m_X4_spendMonth_L10_7 n7) n154) (m_X4_walkAll (AB3 ad Fl154) rc (m_X4_cell (AB3 ad Fl154).1 (nI q57) (nI q7154)) ((AB3 ad Fl154).1 ra (rl (nI q57)))) (nI q7154) (nI q57) rc ra p3 (nI s4) from by unfold m_X4_spendMonth_L49_154_b; rw [if_neg (nlt_cg m157 rfl c158), if_pos (eq_cg m169 rfl c170)]).trans (congr (congr (congr (congr (congr (congr (congrArg (m_X4_spendMonth_179 (m_X4_spendMonth_L10_7 n7) (m_X4_spendMonth_L49_154 (m_X4_spendMonth_L10_7 n7) n154)) ((congr (congr (congr (Eq.refl (m_X4_walkAll (AB3 ad Fl154))) (Eq.refl rc)) m173) m177).trans hm178)) (Eq.refl ((nI q7154) : Int32))) (Eq.refl ((nI q57) : Int32))) (Eq.refl rc)) (Eq.refl ra)) (Eq.refl (p3 : Int32))) (Eq.refl ((nI s4) : Int32))))
            refine lv_iload S.1 S.2.1 dX4_spendMonth_91 (lv_at hl154 0 rfl) ?_
            refine lv_aload_n S.1 S.2.1 dX4_spendMonth_93 rfl (lv_at hl154 4 rfl) ?_
            have hF181 := (hFc178 rc (by have hh1 := hrc; unfold isC at hh1; simp only [List.mem_cons, List.not_mem_nil, or_false, not_or]; omega)).trans hF156
            refine r_get S hK hP178 rc (lt_C hrc) hF181 (C := RX0) (T := TX0) (N := 10) hiX0 rfl 0 (by decide) (by decide +kernel) (v := .int (nI sl156)) rfl dX4_spendMonth_94 ?_
            have m182 : ((AB3 ad F178).1 rc 0) = (nI sl156) := (congrArg (fun q => AB ad F178 q 0) rfl).trans (AB_f hF181 rfl)
            refine lv_icmp_ge (tgt := 131) S.1 S.2.1 dX4_spendMonth_97 (by decide) (fun c183 => ?_) (fun c183 => ?_)
            · skip
              have k184 := ci_le (nI_toInt (n := sl156) (by omega)) (nI_toInt (n := q7154) (by omega)) c183
              have m186 : ((nI q7154) + Int32.ofInt (1)) = (nI (q7154 + 1)) := (congrArg (fun q : Int32 => q + Int32.ofInt (1)) rfl).trans (nI_add _ 1)
              refine lv_iinc (v := (nI (q7154 + 1))) (lv' := [(7, .int (nI (q7154 + 1))), (6, .int (nI 1)), (5, .int (nI q57)), (0, .ref (ad 30)), (1, .ref (ad rc)), (2, .ref (ad ra)), (3, .int p3), (4, .int (nI s4))]) S.1 S.2.1 dX4_spendMonth_131 hl154 (k := 0) rfl (nI_add _ 1) (by decide) rfl (fun ls185 hl185 => ?_)
              refine lv_goto (tgt := 49) S.1 S.2.1 dX4_spendMonth_134 (by decide) ?_
              have hE187 : M = (m_X4_spendMonth_L49_154 (m_X4_spendMonth_L10_7 n7) n154) (AB3 ad F178) (nI (q7154 + 1)) (nI q57) rc ra p3 (nI s4) := hE180.trans ((show m_X4_spendMonth_179 (m_X4_spendMonth_L10_7 n7) (m_X4_spendMonth_L49_154 (m_X4_spendMonth_L10_7 n7) n154) (AB3 ad F178) (nI q7154) (nI q57) rc ra p3 (nI s4) = (m_X4_spendMonth_L49_154 (m_X4_spendMonth_L10_7 n7) n154) (AB3 ad F178) ((nI q7154) + Int32.ofInt (1)) (nI q57) rc ra p3 (nI s4) from by unfold m_X4_spendMonth_179; rw [if_pos (le_cg m182 rfl c183)]).trans (congr (congr (congr (congr (congr (congr (congrArg ((m_X4_spendMonth_L49_154 (m_X4_spendMonth_L10_7 n7) n154)) (rfl : AB3 ad F178 = AB3 ad F178)) m186) (Eq.refl ((nI q57) : Int32))) (Eq.refl rc)) (Eq.refl ra)) (Eq.refl (p3 : Int32))) (Eq.refl ((nI s4) : Int32))))
              exact ih154 (q7154 + 1) F178 H178 locs178 (by omega) (by omega) hW178 hFr178 hP178 hS178 hE187 ls185 (lv_sub hl185 [0, 1, 2, 3, 4, 5, 6, 7] rfl)
            have k188 := ci_nle (nI_toInt (n := sl156) (by omega)) (nI_toInt (n := q7154) (by omega)) c183
            refine lv_aload_n S.1 S.2.1 dX4_spendMonth_100 rfl (lv_at hl154 3 rfl) ?_
            refine lv_iload S.1 S.2.1 dX4_spendMonth_101 (lv_at hl154 2 rfl) ?_
            refine lv_iload S.1 S.2.1 dX4_spendMonth_103 (lv_at hl154 0 rfl) ?_
            refine r_cSp (As := [.int (nI q57), .int (nI q7154)]) (rest := [.ref (ad 30)]) S hK hZ hP178 hS178 hl154.1 (c_X4_cell l D cA ad t hI F178 hW178 (nI q57) (nI q7154)) (va_cwS 2 S.2.2.2.2 gX4_spendMonth_X4_cell rfl rfl rfl (by decide +kernel) ⟨Nat.le_of_ble_eq_true rfl, Nat.le_of_ble_eq_true rfl⟩) rfl rfl (Nat.le_of_ble_eq_true rfl) ⟨Nat.zero_le _, Nat.zero_le _⟩ dX4_spendMonth_105 (fun r189 hr189 => ?_)
            obtain ⟨hr189, hm189⟩ := hr189
            obtain rfl : r189 = nI ((q57 * 5 + q7154) * 4) := hr189.trans (by rw [pk_mul, nI_add, pk_mul])
            have m190 : (m_X4_cell (AB3 ad F178).1 (nI q57) (nI q7154)) = (nI ((q57 * 5 + q7154) * 4)) := (congr (congr (Eq.refl (m_X4_cell (AB ad F178))) (Eq.refl ((nI q57) : Int32))) (Eq.refl ((nI q7154) : Int32))).trans hm189
            refine lv_iload S.1 S.2.1 dX4_spendMonth_108 (lv_at hl154 2 rfl) ?_
            refine lv_iload S.1 S.2.1 dX4_spendMonth_110 (lv_at hl154 0 rfl) ?_
            refine lv_iconst (v := (nI 1)) S.1 S.2.1 dX4_spendMonth_112 (by decide +kernel) ?_
            refine lv_iadd S.1 S.2.1 dX4_spendMonth_113 ?_
            refine lv_topi (fun v191 e191 => ?_)
            obtain rfl : v191 = nI (q7154 + 1) := e191.trans (nI_add _ _)
            have m192 : ((nI q7154) + (nI 1)) = (nI (q7154 + 1)) := cg2 (fun (x : Int32) (y : Int32) => x + y) (Eq.refl ((nI q7154) : Int32)) (Eq.refl ((nI 1) : Int32)) e191
            refine r_cSp (As := [.int (nI q57), .int (nI (q7154 + 1))]) (rest := [.int (nI ((q57 * 5 + q7154) * 4)), .ref (ad 30)]) S hK hZ hP178 hS178 hl154.1 (c_X4_cell l D cA ad t hI F178 hW178 (nI q57) (nI (q7154 + 1))) (va_cwS 2 S.2.2.2.2 gX4_spendMonth_X4_cell rfl rfl rfl (by decide +kernel) ⟨Nat.le_of_ble_eq_true rfl, Nat.le_of_ble_eq_true rfl⟩) rfl rfl (Nat.le_of_ble_eq_true rfl) ⟨Nat.zero_le _, Nat.zero_le _⟩ dX4_spendMonth_114 (fun r193 hr193 => ?_)
            obtain ⟨hr193, hm193⟩ := hr193
            obtain rfl : r193 = nI ((q57 * 5 + (q7154 + 1)) * 4) := hr193.trans (by rw [pk_mul, nI_add, pk_mul])
            have m194 : (m_X4_cell (AB3 ad F178).1 (nI q57) ((nI q7154) + (nI 1))) = (nI ((q57 * 5 + (q7154 + 1)) * 4)) := (congr (congr (Eq.refl (m_X4_cell (AB ad F178))) (Eq.refl ((nI q57) : Int32))) m192).trans hm193
            refine lv_iload S.1 S.2.1 dX4_spendMonth_117 (lv_at hl154 1 rfl) ?_
            refine lv_if_eq (tgt := 127) S.1 S.2.1 dX4_spendMonth_119 (by decide) (fun c195 => absurd c195 (by decide +kernel)) (fun c195 => ?_)
            have k196 := ci_ne (nI_toInt (n := 1) (by omega)) z_ti c195
            refine lv_iload S.1 S.2.1 dX4_spendMonth_122 (lv_at hl154 2 rfl) ?_
            refine lv_goto (tgt := 128) S.1 S.2.1 dX4_spendMonth_124 (by decide) ?_
            obtain ⟨a198, b198, hF198, ha198, hb198⟩ := wt_search hW178
            refine r_cVv (As := [.int (nI ((q57 * 5 + q7154) * 4)), .int (nI ((q57 * 5 + (q7154 + 1)) * 4)), .int (nI q57)]) (rest := []) S hK hZ hP178 hS178 hl154.1 30 (by decide) hF198 (C := RX4) rfl (cL_X4_moveAll l D cA ad t hI F178 hW178 ((q57 * 5 + q7154) * 4) (by omega) ((q57 * 5 + (q7154 + 1)) * 4) (by omega) (nI q57) (by have := nI_toInt (n := q57) (by omega); omega)) (cwV 3 S.2.2.2.2 gX4_spendMonth_X4_moveAll rfl rfl rfl (by decide +kernel) ⟨Nat.le_of_ble_eq_true rfl, Nat.le_of_ble_eq_true rfl⟩) rfl rfl (Nat.le_of_ble_eq_true rfl) ⟨Nat.zero_le _, Nat.zero_le _⟩ dX4_spendMonth_128 (fun F197 H197 locs197 hr197 hP197 hS197 => ?_)
            obtain ⟨hW197, hFc197, hr197⟩ := hr197
            obtain ⟨hr197, hm197⟩ := hr197
            have hFr197 := hFr178.tr hFc197 (by simp <;> first | omega | (simp only [isC, isJ] at *; omega))
            have hE200 : M = m_X4_spendMonth_199 (m_X4_spendMonth_L10_7 n7) (m_X4_spendMonth_L49_154 (m_X4_spendMonth_L10_7 n7) n154) (AB3 ad F197) (nI q7154) (nI q57) rc ra p3 (nI s4) := hE180.trans ((show m_X4_spendMonth_179 (m_X4_spendMonth_L10_7 n7) (m_X4_spendMonth_L49_154 (m_X4_spendMonth_L10_7 n7) n154) (AB3 ad F178) (nI q7154) (nI q57) rc ra p3 (nI s4) = m_X4_spendMonth_199 (m_X4_spendMonth_L10_7 n7) (m_X4_spendMonth_L49_154 (m_X4_spendMonth_L10_7 n7) n154) (m_X4_moveAll (AB3 ad F178) (m_X4_cell (AB3 ad F178).1 (nI q57) (nI q7154)) (m_X4_cell (AB3 ad F178).1 (nI q57) ((nI q7154) + (nI 1))) (nI q57)) (nI q7154) (nI q57) rc ra p3 (nI s4) from by unfold m_X4_spendMonth_179; rw [if_neg (nle_cg m182 rfl c183)]).trans (congr (congr (congr (congr (congr (congr (congrArg (m_X4_spendMonth_199 (m_X4_spendMonth_L10_7 n7) (m_X4_spendMonth_L49_154 (m_X4_spendMonth_L10_7 n7) n154)) ((congr (congr (congr (Eq.refl (m_X4_moveAll (AB3 ad F178))) m190) m194) (Eq.refl ((nI q57) : Int32))).trans hm197)) (Eq.refl ((nI q7154) : Int32))) (Eq.refl ((nI q57) : Int32))) (Eq.refl rc)) (Eq.refl ra)) (Eq.refl (p3 : Int32))) (Eq.refl ((nI s4) : Int32))))
            have m202 : ((nI q7154) + Int32.ofInt (1)) = (nI (q7154 + 1)) := (congrArg (fun q : Int32 => q + Int32.ofInt (1)) rfl).trans (nI_add _ 1)
            refine lv_iinc (v := (nI (q7154 + 1))) (lv' := [(7, .int (nI (q7154 + 1))), (6, .int (nI 1)), (5, .int (nI q57)), (0, .ref (ad 30)), (1, .ref (ad rc)), (2, .ref (ad ra)), (3, .int p3), (4, .int (nI s4))]) S.1 S.2.1 dX4_spendMonth_131 hl154 (k := 0) rfl (nI_add _ 1) (by decide) rfl (fun ls201 hl201 => ?_)
            refine lv_goto (tgt := 49) S.1 S.2.1 dX4_spendMonth_134 (by decide) ?_
            have hE203 : M = (m_X4_spendMonth_L49_154 (m_X4_spendMonth_L10_7 n7) n154) (AB3 ad F197) (nI (q7154 + 1)) (nI q57) rc ra p3 (nI s4) := hE200.trans ((show m_X4_spendMonth_199 (m_X4_spendMonth_L10_7 n7) (m_X4_spendMonth_L49_154 (m_X4_spendMonth_L10_7 n7) n154) (AB3 ad F197) (nI q7154) (nI q57) rc ra p3 (nI s4) = (m_X4_spendMonth_L49_154 (m_X4_spendMonth_L10_7 n7) n154) (AB3 ad F197) ((nI q7154) + Int32.ofInt (1)) (nI q57) rc ra p3 (nI s4) from rfl).trans (congr (congr (congr (congr (congr (congr (congrArg ((m_X4_spendMonth_L49_154 (m_X4_spendMonth_L10_7 n7) n154)) (rfl : AB3 ad F197 = AB3 ad F197)) m202) (Eq.refl ((nI q57) : Int32))) (Eq.refl rc)) (Eq.refl ra)) (Eq.refl (p3 : Int32))) (Eq.refl ((nI s4) : Int32))))
            exact ih154 (q7154 + 1) F197 H197 locs197 (by omega) (by omega) hW197 hFr197 hP197 hS197 hE203 ls201 (lv_sub hl201 [0, 1, 2, 3, 4, 5, 6, 7] rfl)
          have k204 := ci_ne (nI_toInt (n := b168) (by omega)) z_ti c170
          refine lv_goto (tgt := 131) S.1 S.2.1 dX4_spendMonth_72 (by decide) ?_
          have m206 : ((nI q7154) + Int32.ofInt (1)) = (nI (q7154 + 1)) := (congrArg (fun q : Int32 => q + Int32.ofInt (1)) rfl).trans (nI_add _ 1)
          refine lv_iinc (v := (nI (q7154 + 1))) (lv' := [(7, .int (nI (q7154 + 1))), (6, .int (nI 1)), (5, .int (nI q57)), (0, .ref (ad 30)), (1, .ref (ad rc)), (2, .ref (ad ra)), (3, .int p3), (4, .int (nI s4))]) S.1 S.2.1 dX4_spendMonth_131 hl154 (k := 0) rfl (nI_add _ 1) (by decide) rfl (fun ls205 hl205 => ?_)
          refine lv_goto (tgt := 49) S.1 S.2.1 dX4_spendMonth_134 (by decide) ?_
          have hE207 : M = (m_X4_spendMonth_L49_154 (m_X4_spendMonth_L10_7 n7) n154) (AB3 ad Fl154) (nI (q7154 + 1)) (nI q57) rc ra p3 (nI s4) := hE155.trans ((show m_X4_spendMonth_L49_154_b (m_X4_spendMonth_L10_7 n7) (m_X4_spendMonth_L49_154 (m_X4_spendMonth_L10_7 n7) n154) (AB3 ad Fl154) (nI q7154) (nI q57) rc ra p3 (nI s4) = (m_X4_spendMonth_L49_154 (m_X4_spendMonth_L10_7 n7) n154) (AB3 ad Fl154) ((nI q7154) + Int32.ofInt (1)) (nI q57) rc ra p3 (nI s4) from by unfold m_X4_spendMonth_L49_154_b; rw [if_neg (nlt_cg m157 rfl c158), if_neg (neq_cg m169 rfl c170)]).trans (congr (congr (congr (congr (congr (congr (congrArg ((m_X4_spendMonth_L49_154 (m_X4_spendMonth_L10_7 n7) n154)) (rfl : AB3 ad Fl154 = AB3 ad Fl154)) m206) (Eq.refl ((nI q57) : Int32))) (Eq.refl rc)) (Eq.refl ra)) (Eq.refl (p3 : Int32))) (Eq.refl ((nI s4) : Int32))))
          exact ih154 (q7154 + 1) Fl154 Hl154 lol154 (by omega) (by omega) hWl154 hFl154 hPl154 hSl154 hE207 ls205 (lv_sub hl205 [0, 1, 2, 3, 4, 5, 6, 7] rfl)
      have hE208 : M = m_X4_spendMonth_L49_154 (m_X4_spendMonth_L10_7 n7) 2000 (AB3 ad Fl7) (nI 0) (nI q57) rc ra p3 (nI s4) := hE8.trans ((show m_X4_spendMonth_L10_7_b (m_X4_spendMonth_L10_7 n7) (AB3 ad Fl7) (nI q57) rc ra p3 (nI s4) = m_X4_spendMonth_L49_154 (m_X4_spendMonth_L10_7 n7) 2000 (AB3 ad Fl7) (nI 0) (nI q57) rc ra p3 (nI s4) from by unfold m_X4_spendMonth_L10_7_b; rw [if_neg (nle_cg m10 rfl c11), if_neg (neq_cg m28 rfl c29), if_neg (neq_cg m91 rfl c92)]).trans (congr (congr (congr (congr (congr (congr (congrArg (m_X4_spendMonth_L49_154 (m_X4_spendMonth_L10_7 n7) 2000) (rfl : AB3 ad Fl7 = AB3 ad Fl7)) (Eq.refl ((nI 0) : Int32))) (Eq.refl ((nI q57) : Int32))) (Eq.refl rc)) (Eq.refl ra)) (Eq.refl (p3 : Int32))) (Eq.refl ((nI s4) : Int32))))
      exact lp154 2000 (0) Fl7 Hl7 lol7 (by omega) (by omega) hWl7 hFl7 hPl7 hSl7 hE208 ls153 (lv_sub hl153 [0, 1, 2, 3, 4, 5, 6, 7] rfl)
  have hE209 : M = m_X4_spendMonth_L10_7 2000 (AB3 ad F3) (nI 0) rc ra p3 (nI s4) := hE5.trans ((show m_X4_spendMonth_4 (AB3 ad F3) rc ra p3 (nI s4) = m_X4_spendMonth_L10_7 2000 (AB3 ad F3) (nI 0) rc ra p3 (nI s4) from rfl).trans (congr (congr (congr (congr (congr (congrArg (m_X4_spendMonth_L10_7 2000) (rfl : AB3 ad F3 = AB3 ad F3)) (Eq.refl ((nI 0) : Int32))) (Eq.refl rc)) (Eq.refl ra)) (Eq.refl (p3 : Int32))) (Eq.refl ((nI s4) : Int32))))
  exact lp7 2000 (0) F3 H3 locs3 (by omega) (by omega) hW3 hFr3 hP3 hS3 hE209 ls6 (lv_sub hl6 [0, 1, 2, 3, 4, 5] rfl)
noncomputable def m_X4_fewestMonths_54 (k0 : S3 → Int32 → Int32 → Int32 → Nat → Nat → Nat → Int32 → Int32 × S3) (σ : S3) (a0 : Int32) (a1 : Int32) (a2 : Int32) (a3 : Nat) (a4 : Nat) (a5 : Nat) (a6 : Int32) : Int32 × S3 :=
  k0 σ (a0 + Int32.ofInt (1)) a1 a2 a3 a4 a5 a6
noncomputable def m_X4_fewestMonths_L67_37_b (k0 : S3 → Int32 → Int32 → Int32 → Nat → Nat → Nat → Int32 → Int32 × S3) (σ : S3) (a0 : Int32) (a1 : Int32) (a2 : Int32) (a3 : Nat) (a4 : Nat) (a5 : Nat) (a6 : Int32) : Int32 × S3 :=
  if (nI 60) < a0 then
    (((-1) : Int32), σ)
  else
    if (m_X4_holds σ a3 a6) = (0 : Int32) then
      m_X4_fewestMonths_54 k0 (m_X4_spendMonth σ a3 a4 ((σ.1 a5 1) + a0) a6) a0 a1 a2 a3 a4 a5 a6
    else
      (a0, σ)
noncomputable def m_X4_fewestMonths_L67_37 : Nat → S3 → Int32 → Int32 → Int32 → Nat → Nat → Nat → Int32 → Int32 × S3
  | 0 => fun σ _ _ _ _ _ _ _ => (0, σ)
  | n + 1 => m_X4_fewestMonths_L67_37_b (m_X4_fewestMonths_L67_37 n)
noncomputable def m_X4_fewestMonths_34 (σ : S3) (a0 : Int32) (a1 : Int32) (a2 : Nat) (a3 : Nat) (a4 : Nat) (a5 : Int32) : Int32 × S3 :=
  m_X4_fewestMonths_L67_37 2000 σ (nI 0) a0 a1 a2 a3 a4 a5
noncomputable def m_X4_fewestMonths_4 (σ : S3) (a0 : Nat) (a1 : Nat) (a2 : Nat) (a3 : Int32) : Int32 × S3 :=
  if ((m_X4_cell σ.1 (σ.1 a2 0) (σ.1 a2 2)) + (((σ.1 a2 4) &&& a3) >>> ((nI 6) &&& 31))) < (0 : Int32) then
    (((-1) : Int32), σ)
  else
    if ((m_X4_cell σ.1 (σ.1 a2 0) (σ.1 a2 2)) + (((σ.1 a2 4) &&& a3) >>> ((nI 6) &&& 31))) < (nI 160) then
      m_X4_fewestMonths_34 (σ.1, stL (σ).2 (rl (σ.1 30 0)) (rl ((m_X4_cell σ.1 (σ.1 a2 0) (σ.1 a2 2)) + (((σ.1 a2 4) &&& a3) >>> ((nI 6) &&& 31)))) ((1 : Int64) <<< ((((σ.1 a2 4) &&& a3) &&& (nI 63)).toInt64 &&& 63))) ((m_X4_cell σ.1 (σ.1 a2 0) (σ.1 a2 2)) + (((σ.1 a2 4) &&& a3) >>> ((nI 6) &&& 31))) ((σ.1 a2 4) &&& a3) a0 a1 a2 a3
    else
      (((-1) : Int32), σ)
noncomputable def m_X4_fewestMonths (σ : S3) (a0 : Nat) (a1 : Nat) (a2 : Nat) (a3 : Int32) : Int32 × S3 :=
  m_X4_fewestMonths_4 (m_X4_clear σ (rl (σ.1 30 0))) a0 a1 a2 a3
set_option maxHeartbeats 4000000 in
set_option maxRecDepth 100000 in
theorem cL_X4_fewestMonths (l : Launch) (D : va_G) (cA ad : Nat → Nat) (t : Nat) (hI : rI ad) (F : Nat → va_E) (hW : WT cA ad F) (rc : Nat) (hrc : isC rc) (ra : Nat) (hra : (ra, 8) ∈ rLI) (hura : ra ∉ [60, 61, 62, 63, 64, 66]) (rj : Nat) (hrj : isJ rj) (s4 : Nat) (hs4 : s4 ≤ 255) : MI l D cA ad t yX4_fewestMonths wsX4_fewestMonths { frames := 3, cells := 0, slots := 0, locals := 79 } [.ref (ad 30), .ref (ad rc), .ref (ad ra), .ref (ad rj), .int (nI s4)] F (fun r F' => WT cA ad F' ∧ rFr [30, 31, 32] F F' ∧ ((True) ∧ m_X4_fewestMonths (AB3 ad F) rc ra rj (nI s4) = (r, AB3 ad F'))) := by
  refine en_I rfl (by decide +kernel) (Nat.le_of_ble_eq_true rfl) ?_
  intro p e s m args below meth c ls0 Q S hK hZ hP hS hl0 hret
  have hl0 : lv_has ls0 8 [(0, .ref (ad 30)), (1, .ref (ad rc)), (2, .ref (ad ra)), (3, .ref (ad rj)), (4, .int (nI s4))] := hl0
  have hFr : rFr [30, 31, 32] F F := rFr.rf
  have hiX1 : ∀ w ∈ u_ws RX1 TX1 7, w ∈ wsX4_fewestMonths := by decide +kernel
  have hiX4 : ∀ w ∈ u_ws RX4 TX4 2, w ∈ wsX4_fewestMonths := by decide +kernel
  obtain ⟨M, hM⟩ : ∃ M, M = m_X4_fewestMonths (AB3 ad F) rc ra rj (nI s4) := ⟨_, rfl⟩
  refine lv_aload_n S.1 S.2.1 dX4_fewestMonths_0 rfl (lv_at hl0 0 rfl) ?_
  obtain ⟨a1, b1, hF1, ha1, hb1⟩ := wt_search hW
  refine r_get S hK hP 30 (by decide) hF1 (C := RX4) (T := TX4) (N := 2) hiX4 rfl 0 (by decide) (by decide +kernel) (v := .ref (ad a1)) rfl dX4_fewestMonths_1 ?_
  have m2 : (rl ((AB3 ad F).1 30 0)) = a1 := AB_r hI (lt_L (S_L ha1)) hF1 rfl
  refine r_cSv (As := [.ref (ad a1)]) (rest := []) S hK hZ hP hS hl0.1 (cL_X4_clear l D cA ad t hI F hW a1 (S_L ha1)) (va_cwS 1 S.2.2.2.2 gX4_fewestMonths_X4_clear rfl rfl rfl (by decide +kernel) ⟨Nat.le_of_ble_eq_true rfl, Nat.le_of_ble_eq_true rfl⟩) rfl rfl (Nat.le_of_ble_eq_true rfl) ⟨Nat.zero_le _, Nat.zero_le _⟩ dX4_fewestMonths_4 (fun F3 H3 locs3 hr3 hP3 hS3 => ?_)
  obtain ⟨hW3, hFc3, hr3⟩ := hr3
  obtain ⟨hr3, hm3⟩ := hr3
  have hFr3 := hFr.tr hFc3 (by simp <;> first | omega | (simp only [isC, isJ] at *; omega))
  have hE5 : M = m_X4_fewestMonths_4 (AB3 ad F3) rc ra rj (nI s4) := hM.trans ((show m_X4_fewestMonths (AB3 ad F) rc ra rj (nI s4) = m_X4_fewestMonths_4 (m_X4_clear (AB3 ad F) (rl ((AB3 ad F).1 30 0))) rc ra rj (nI s4) from rfl).trans (congr (congr (congr (congr (congrArg (m_X4_fewestMonths_4) ((congr (Eq.refl (m_X4_clear (AB3 ad F))) m2).trans hm3)) (Eq.refl rc)) (Eq.refl ra)) (Eq.refl rj)) (Eq.refl ((nI s4) : Int32))))
  refine lv_aload_n S.1 S.2.1 dX4_fewestMonths_7 rfl (lv_at hl0 3 rfl) ?_
  obtain ⟨ja6, jb6, jc6, jd6, jx6, jy6, jk6, hF6, hk6⟩ := wt_J hW3 hrj
  refine r_get S hK hP3 rj (lt_J hrj) hF6 (C := RX1) (T := TX1) (N := 7) hiX1 rfl 4 (by decide) (by decide +kernel) (v := .int jx6) rfl dX4_fewestMonths_8 ?_
  have m7 : ((AB3 ad F3).1 rj 4) = jx6 := (congrArg (fun q => AB ad F3 q 4) rfl).trans (AB_f hF6 rfl)
  refine lv_iload S.1 S.2.1 dX4_fewestMonths_11 (lv_at hl0 4 rfl) ?_
  refine lv_iand S.1 S.2.1 dX4_fewestMonths_13 ?_
  refine lv_topi (fun v8 e8 => ?_)
  have m9 : (((AB3 ad F3).1 rj 4) &&& (nI s4)) = v8 := cg2 (fun (x : Int32) (y : Int32) => x &&& y) m7 (Eq.refl ((nI s4) : Int32)) e8
  refine lv_istore (lv' := [(5, .int v8), (0, .ref (ad 30)), (1, .ref (ad rc)), (2, .ref (ad ra)), (3, .ref (ad rj)), (4, .int (nI s4))]) S.1 S.2.1 dX4_fewestMonths_14 hl0 (by decide) rfl (fun ls10 hl10 => ?_)
  refine lv_aload_n S.1 S.2.1 dX4_fewestMonths_16 rfl (lv_at hl10 4 rfl) ?_
  refine r_get S hK hP3 rj (lt_J hrj) hF6 (C := RX1) (T := TX1) (N := 7) hiX1 rfl 0 (by decide) (by decide +kernel) (v := .int ja6) rfl dX4_fewestMonths_17 ?_
  have m11 : ((AB3 ad F3).1 rj 0) = ja6 := (congrArg (fun q => AB ad F3 q 0) rfl).trans (AB_f hF6 rfl)
  refine lv_aload_n S.1 S.2.1 dX4_fewestMonths_20 rfl (lv_at hl10 4 rfl) ?_
  refine r_get S hK hP3 rj (lt_J hrj) hF6 (C := RX1) (T := TX1) (N := 7) hiX1 rfl 2 (by decide) (by decide +kernel) (v := .int jc6) rfl dX4_fewestMonths_21 ?_
  have m12 : ((AB3 ad F3).1 rj 2) = jc6 := (congrArg (fun q => AB ad F3 q 2) rfl).trans (AB_f hF6 rfl)
  refine r_cSp (As := [.int ja6, .int jc6]) (rest := []) S hK hZ hP3 hS3 hl10.1 (c_X4_cell l D cA ad t hI F3 hW3 ja6 jc6) (va_cwS 2 S.2.2.2.2 gX4_fewestMonths_X4_cell rfl rfl rfl (by decide +kernel) ⟨Nat.le_of_ble_eq_true rfl, Nat.le_of_ble_eq_true rfl⟩) rfl rfl (Nat.le_of_ble_eq_true rfl) ⟨Nat.zero_le _, Nat.zero_le _⟩ dX4_fewestMonths_24 (fun r13 hr13 => ?_)
  obtain ⟨hr13, hm13⟩ := hr13
  have m14 : (m_X4_cell (AB3 ad F3).1 ((AB3 ad F3).1 rj 0) ((AB3 ad F3).1 rj 2)) = r13 := (congr (congr (Eq.refl (m_X4_cell (AB ad F3))) m11) m12).trans hm13
  refine lv_iload S.1 S.2.1 dX4_fewestMonths_27 (lv_at hl10 0 rfl) ?_
  refine lv_bipush (v := (nI 6)) S.1 S.2.1 dX4_fewestMonths_29 (by decide +kernel) ?_
  refine lv_ishr S.1 S.2.1 dX4_fewestMonths_31 ?_
  refine lv_topi (fun v15 e15 => ?_)
  have m16 : ((((AB3 ad F3).1 rj 4) &&& (nI s4)) >>> ((nI 6) &&& 31)) = v15 := cg2 (fun (x : Int32) (y : Int32) => x >>> (y &&& 31)) m9 (Eq.refl ((nI 6) : Int32)) e15
  refine lv_iadd S.1 S.2.1 dX4_fewestMonths_32 ?_
  refine lv_topi (fun v17 e17 => ?_)
  have m18 : ((m_X4_cell (AB3 ad F3).1 ((AB3 ad F3).1 rj 0) ((AB3 ad F3).1 rj 2)) + ((((AB3 ad F3).1 rj 4) &&& (nI s4)) >>> ((nI 6) &&& 31))) = v17 := cg2 (fun (x : Int32) (y : Int32) => x + y) m14 m16 e17
  refine lv_istore (lv' := [(6, .int v17), (5, .int v8), (0, .ref (ad 30)), (1, .ref (ad rc)), (2, .ref (ad ra)), (3, .ref (ad rj)), (4, .int (nI s4))]) S.1 S.2.1 dX4_fewestMonths_33 hl10 (by decide) rfl (fun ls19 hl19 => ?_)
  refine lv_iload S.1 S.2.1 dX4_fewestMonths_35 (lv_at hl19 0 rfl) ?_
  refine lv_if_lt (tgt := 48) S.1 S.2.1 dX4_fewestMonths_37 (by decide) (fun c20 => ?_) (fun c20 => ?_)
  · skip
    have k21 := ci_lt rfl z_ti c20
    refine lv_iconst (v := (-1)) S.1 S.2.1 dX4_fewestMonths_48 (by decide +kernel) ?_
    have hE22 : M = ((-1), AB3 ad F3) := hE5.trans ((show m_X4_fewestMonths_4 (AB3 ad F3) rc ra rj (nI s4) = (((-1) : Int32), (AB3 ad F3)) from by unfold m_X4_fewestMonths_4; rw [if_pos (lt_cg m18 rfl c20)]).trans (congrArg (fun q => (q, AB3 ad F3)) rfl))
    exact hret 49 _ _ _ _ _ dX4_fewestMonths_49 rfl hP3 hS3 ⟨hW3, hFr3, ⟨trivial, hM.symm.trans hE22⟩⟩
  have k23 := ci_nlt rfl z_ti c20
  refine lv_iload S.1 S.2.1 dX4_fewestMonths_40 (lv_at hl19 0 rfl) ?_
  refine lv_sipush (v := (nI 160)) S.1 S.2.1 dX4_fewestMonths_42 (by decide +kernel) ?_
  refine lv_icmp_lt (tgt := 50) S.1 S.2.1 dX4_fewestMonths_45 (by decide) (fun c24 => ?_) (fun c24 => ?_)
  · skip
    have k25 := ci_lt rfl (nI_toInt (n := 160) (by omega)) c24
    refine lv_aload_n S.1 S.2.1 dX4_fewestMonths_50 rfl (lv_at hl19 2 rfl) ?_
    obtain ⟨a26, b26, hF26, ha26, hb26⟩ := wt_search hW3
    refine r_get S hK hP3 30 (by decide) hF26 (C := RX4) (T := TX4) (N := 2) hiX4 rfl 0 (by decide) (by decide +kernel) (v := .ref (ad a26)) rfl dX4_fewestMonths_51 ?_
    have m27 : (rl ((AB3 ad F3).1 30 0)) = a26 := AB_r hI (lt_L (S_L ha26)) hF26 rfl
    refine lv_iload S.1 S.2.1 dX4_fewestMonths_54 (lv_at hl19 0 rfl) ?_
    refine lv_lconst (v := 1) S.1 S.2.1 dX4_fewestMonths_56 (by decide +kernel) ?_
    refine lv_iload S.1 S.2.1 dX4_fewestMonths_57 (lv_at hl19 1 rfl) ?_
    refine lv_bipush (v := (nI 63)) S.1 S.2.1 dX4_fewestMonths_59 (by decide +kernel) ?_
    refine lv_iand S.1 S.2.1 dX4_fewestMonths_61 ?_
    refine lv_topi (fun v28 e28 => ?_)
    have m29 : ((((AB3 ad F3).1 rj 4) &&& (nI s4)) &&& (nI 63)) = v28 := cg2 (fun (x : Int32) (y : Int32) => x &&& y) m9 (Eq.refl ((nI 63) : Int32)) e28
    refine lv_lshl S.1 S.2.1 dX4_fewestMonths_62 rfl ?_
    refine lv_topl (fun v30 e30 => ?_)
    have m31 : ((1 : Int64) <<< (((((AB3 ad F3).1 rj 4) &&& (nI s4)) &&& (nI 63)).toInt64 &&& 63)) = v30 := cg2 (fun (x : Int64) (y : Int32) => x <<< (y.toInt64 &&& 63)) (Eq.refl (1 : Int64)) m29 e30
    obtain ⟨g32, hF32⟩ := wt_L hW3 (S_L ha26)
    refine r_last S hI hK hP3 hS3 a26 (lt_L (S_L ha26)) hF32 (in_of (n := 160) (a := v17.toInt) rfl (by omega) (by omega)) dX4_fewestMonths_63 (fun F33 H33 locs33 eF33 hP33 hS33 => ?_)
    have hW33 := hW3.up eF33 (ok_L (S_L ha26) ⟨_, rfl⟩)
    have hFr33 := hFr3.up eF33 (by simp <;> first | omega | (simp only [isC, isJ] at *; omega))
    have hE35 : M = m_X4_fewestMonths_34 (AB3 ad F33) v17 v8 rc ra rj (nI s4) := hE5.trans ((show m_X4_fewestMonths_4 (AB3 ad F3) rc ra rj (nI s4) = m_X4_fewestMonths_34 ((AB3 ad F3).1, stL ((AB3 ad F3)).2 (rl ((AB3 ad F3).1 30 0)) (rl ((m_X4_cell (AB3 ad F3).1 ((AB3 ad F3).1 rj 0) ((AB3 ad F3).1 rj 2)) + ((((AB3 ad F3).1 rj 4) &&& (nI s4)) >>> ((nI 6) &&& 31)))) ((1 : Int64) <<< (((((AB3 ad F3).1 rj 4) &&& (nI s4)) &&& (nI 63)).toInt64 &&& 63))) ((m_X4_cell (AB3 ad F3).1 ((AB3 ad F3).1 rj 0) ((AB3 ad F3).1 rj 2)) + ((((AB3 ad F3).1 rj 4) &&& (nI s4)) >>> ((nI 6) &&& 31))) (((AB3 ad F3).1 rj 4) &&& (nI s4)) rc ra rj (nI s4) from by unfold m_X4_fewestMonths_4; rw [if_neg (nlt_cg m18 rfl c20), if_pos (lt_cg m18 rfl c24)]).trans (congr (congr (congr (congr (congr (congr (congrArg (m_X4_fewestMonths_34) (AM_cg m27 m18 m31 (AM_ast hF32 eF33))) m18) m9) (Eq.refl rc)) (Eq.refl ra)) (Eq.refl rj)) (Eq.refl ((nI s4) : Int32))))
    refine lv_iconst (v := (nI 0)) S.1 S.2.1 dX4_fewestMonths_64 (by decide +kernel) ?_
    refine lv_istore (lv' := [(7, .int (nI 0)), (6, .int v17), (5, .int v8), (0, .ref (ad 30)), (1, .ref (ad rc)), (2, .ref (ad ra)), (3, .ref (ad rj)), (4, .int (nI s4))]) S.1 S.2.1 dX4_fewestMonths_65 hl19 (by decide) rfl (fun ls36 hl36 => ?_)
    have lp37 : ∀ (n37 : Nat) (q737 : Nat), ∀ (Fl37 : Nat → va_E) (Hl37 : Heap) (lol37 : List Loc), q737 ≤ 61 → 61 - q737 < n37 → WT cA ad Fl37 → rFr [30, 31, 32] F Fl37 → va_P D vwCl (rW ad Fl37) Hl37 → va_S (rA ad) s.heap Hl37 lol37 → M = m_X4_fewestMonths_L67_37 n37 (AB3 ad Fl37) (nI q737) v17 v8 rc ra rj (nI s4) → ∀ (ls : Array Slot), lv_has ls 8 [(7, .int (nI q737)), (6, .int v17), (5, .int v8), (0, .ref (ad 30)), (1, .ref (ad rc)), (2, .ref (ad ra)), (3, .ref (ad rj)), (4, .int (nI s4))] → W p l e { frames := 3, cells := 0, slots := 0, locals := 79 } s m args below meth c Hl37 lol37 0 0 Q (F0 m 67 ls []) := by
      intro n37
      induction n37 with
      | zero =>
        intro q737 Fl37 Hl37 lol37 iv37_0 hm37 hWl37 hFl37 hPl37 hSl37 hEl37 ls37 hl37
        exact absurd hm37 (Nat.not_lt_zero _)
      | succ n37 ih37 =>
        intro q737 Fl37 Hl37 lol37 iv37_0 hm37 hWl37 hFl37 hPl37 hSl37 hEl37 ls37 hl37
        have hE38 : M = m_X4_fewestMonths_L67_37_b (m_X4_fewestMonths_L67_37 n37) (AB3 ad Fl37) (nI q737) v17 v8 rc ra rj (nI s4) := hEl37
        refine lv_iload S.1 S.2.1 dX4_fewestMonths_67 (lv_at hl37 0 rfl) ?_
        refine lv_bipush (v := (nI 60)) S.1 S.2.1 dX4_fewestMonths_69 (by decide +kernel) ?_
        refine lv_icmp_gt (tgt := 108) S.1 S.2.1 dX4_fewestMonths_71 (by decide) (fun c39 => ?_) (fun c39 => ?_)
        · skip
          have k40 := ci_lt (nI_toInt (n := 60) (by omega)) (nI_toInt (n := q737) (by omega)) c39
          refine lv_iconst (v := (-1)) S.1 S.2.1 dX4_fewestMonths_108 (by decide +kernel) ?_
          have hE41 : M = ((-1), AB3 ad Fl37) := hE38.trans ((show m_X4_fewestMonths_L67_37_b (m_X4_fewestMonths_L67_37 n37) (AB3 ad Fl37) (nI q737) v17 v8 rc ra rj (nI s4) = (((-1) : Int32), (AB3 ad Fl37)) from by unfold m_X4_fewestMonths_L67_37_b; rw [if_pos (lt_cg rfl rfl c39)]).trans (congrArg (fun q => (q, AB3 ad Fl37)) rfl))
          exact hret 109 _ _ _ _ _ dX4_fewestMonths_109 rfl hPl37 hSl37 ⟨hWl37, hFl37, ⟨trivial, hM.symm.trans hE41⟩⟩
        have k42 := ci_nlt (nI_toInt (n := 60) (by omega)) (nI_toInt (n := q737) (by omega)) c39
        refine lv_aload_n S.1 S.2.1 dX4_fewestMonths_74 rfl (lv_at hl37 3 rfl) ?_
        refine lv_aload_n S.1 S.2.1 dX4_fewestMonths_75 rfl (lv_at hl37 4 rfl) ?_
        refine lv_iload S.1 S.2.1 dX4_fewestMonths_76 (lv_at hl37 7 rfl) ?_
        obtain ⟨a44, b44, hF44, ha44, hb44⟩ := wt_search hWl37
        refine r_cVp (As := [.ref (ad rc), .int (nI s4)]) (rest := []) S hK hZ hPl37 hSl37 hl37.1 30 (by decide) hF44 (C := RX4) rfl (cL_X4_holds l D cA ad t hI Fl37 hWl37 rc hrc (s4) (by omega)) (cwV 2 S.2.2.2.2 gX4_fewestMonths_X4_holds rfl rfl rfl (by decide +kernel) ⟨Nat.le_of_ble_eq_true rfl, Nat.le_of_ble_eq_true rfl⟩) rfl rfl (Nat.le_of_ble_eq_true rfl) ⟨Nat.zero_le _, Nat.zero_le _⟩ dX4_fewestMonths_78 (fun r43 hr43 => ?_)
        obtain ⟨hr43, hm43⟩ := hr43
        obtain ⟨b45, hb45, rfl⟩ := hr43
        have m46 : (m_X4_holds (AB3 ad Fl37) rc (nI s4)) = (nI b45) := (congr (congr (Eq.refl (m_X4_holds (AB3 ad Fl37))) (Eq.refl rc)) (Eq.refl ((nI s4) : Int32))).trans hm43
        refine lv_if_eq (tgt := 87) S.1 S.2.1 dX4_fewestMonths_81 (by decide) (fun c47 => ?_) (fun c47 => ?_)
        · skip
          have k48 := ci_eq (nI_toInt (n := b45) (by omega)) z_ti c47
          refine lv_aload_n S.1 S.2.1 dX4_fewestMonths_87 rfl (lv_at hl37 3 rfl) ?_
          refine lv_aload_n S.1 S.2.1 dX4_fewestMonths_88 rfl (lv_at hl37 4 rfl) ?_
          refine lv_aload_n S.1 S.2.1 dX4_fewestMonths_89 rfl (lv_at hl37 5 rfl) ?_
          refine lv_aload_n S.1 S.2.1 dX4_fewestMonths_90 rfl (lv_at hl37 6 rfl) ?_
          obtain ⟨ja49, jb49, jc49, jd49, jx49, jy49, jk49, hF49, hk49⟩ := wt_J hWl37 hrj
          refine r_get S hK hPl37 rj (lt_J hrj) hF49 (C := RX1) (T := TX1) (N := 7) hiX1 rfl 1 (by decide) (by decide +kernel) (v := .int jb49) rfl dX4_fewestMonths_91 ?_
          have m50 : ((AB3 ad Fl37).1 rj 1) = jb49 := (congrArg (fun q => AB ad Fl37 q 1) rfl).trans (AB_f hF49 rfl)
          refine lv_iload S.1 S.2.1 dX4_fewestMonths_94 (lv_at hl37 0 rfl) ?_
          refine lv_iadd S.1 S.2.1 dX4_fewestMonths_96 ?_
          refine lv_topi (fun v51 e51 => ?_)
          have m52 : (((AB3 ad Fl37).1 rj 1) + (nI q737)) = v51 := cg2 (fun (x : Int32) (y : Int32) => x + y) m50 (Eq.refl ((nI q737) : Int32)) e51
          refine lv_iload S.1 S.2.1 dX4_fewestMonths_97 (lv_at hl37 7 rfl) ?_
          refine r_cVv (As := [.ref (ad rc), .ref (ad ra), .int v51, .int (nI s4)]) (rest := []) S hK hZ hPl37 hSl37 hl37.1 30 (by decide) hF44 (C := RX4) rfl (cL_X4_spendMonth l D cA ad t hI Fl37 hWl37 rc hrc ra hra hura v51 (s4) (by omega)) (cwV 4 S.2.2.2.2 gX4_fewestMonths_X4_spendMonth rfl rfl rfl (by decide +kernel) ⟨Nat.le_of_ble_eq_true rfl, Nat.le_of_ble_eq_true rfl⟩) rfl rfl (Nat.le_of_ble_eq_true rfl) ⟨Nat.zero_le _, Nat.zero_le _⟩ dX4_fewestMonths_99 (fun F53 H53 locs53 hr53 hP53 hS53 => ?_)
          obtain ⟨hW53, hFc53, hr53⟩ := hr53
          obtain ⟨hr53, hm53⟩ := hr53
          have hFr53 := hFl37.tr hFc53 (by simp <;> first | omega | (simp only [isC, isJ] at *; omega))
          have hE55 : M = m_X4_fewestMonths_54 (m_X4_fewestMonths_L67_37 n37) (AB3 ad F53) (nI q737) v17 v8 rc ra rj (nI s4) := hE38.trans ((show m_X4_fewestMonths_L67_37_b (m_X4_fewestMonths_L67_37 n37) (AB3 ad Fl37) (nI q737) v17 v8 rc ra rj (nI s4) = m_X4_fewestMonths_54 (m_X4_fewestMonths_L67_37 n37) (m_X4_spendMonth (AB3 ad Fl37) rc ra (((AB3 ad Fl37).1 rj 1) + (nI q737)) (nI s4)) (nI q737) v17 v8 rc ra rj (nI s4) from by unfold m_X4_fewestMonths_L67_37_b; rw [if_neg (nlt_cg rfl rfl c39), if_pos (eq_cg m46 rfl c47)]).trans (congr (congr (congr (congr (congr (congr (congr (congrArg (m_X4_fewestMonths_54 (m_X4_fewestMonths_L67_37 n37)) ((congr (congr (congr (congr (Eq.refl (m_X4_spendMonth (AB3 ad Fl37))) (Eq.refl rc)) (Eq.refl ra)) m52) (Eq.refl ((nI s4) : Int32))).trans hm53)) (Eq.refl ((nI q737) : Int32))) (Eq.refl (v17 : Int32))) (Eq.refl (v8 : Int32))) (Eq.refl rc)) (Eq.refl ra)) (Eq.refl rj)) (Eq.refl ((nI s4) : Int32))))
          have m57 : ((nI q737) + Int32.ofInt (1)) = (nI (q737 + 1)) := (congrArg (fun q : Int32 => q + Int32.ofInt (1)) rfl).trans (nI_add _ 1)
          refine lv_iinc (v := (nI (q737 + 1))) (lv' := [(7, .int (nI (q737 + 1))), (6, .int v17), (5, .int v8), (0, .ref (ad 30)), (1, .ref (ad rc)), (2, .ref (ad ra)), (3, .ref (ad rj)), (4, .int (nI s4))]) S.1 S.2.1 dX4_fewestMonths_102 hl37 (k := 0) rfl (nI_add _ 1) (by decide) rfl (fun ls56 hl56 => ?_)
          refine lv_goto (tgt := 67) S.1 S.2.1 dX4_fewestMonths_105 (by decide) ?_
          have hE58 : M = (m_X4_fewestMonths_L67_37 n37) (AB3 ad F53) (nI (q737 + 1)) v17 v8 rc ra rj (nI s4) := hE55.trans ((show m_X4_fewestMonths_54 (m_X4_fewestMonths_L67_37 n37) (AB3 ad F53) (nI q737) v17 v8 rc ra rj (nI s4) = (m_X4_fewestMonths_L67_37 n37) (AB3 ad F53) ((nI q737) + Int32.ofInt (1)) v17 v8 rc ra rj (nI s4) from rfl).trans (congr (congr (congr (congr (congr (congr (congr (congrArg ((m_X4_fewestMonths_L67_37 n37)) (rfl : AB3 ad F53 = AB3 ad F53)) m57) (Eq.refl (v17 : Int32))) (Eq.refl (v8 : Int32))) (Eq.refl rc)) (Eq.refl ra)) (Eq.refl rj)) (Eq.refl ((nI s4) : Int32))))
          exact ih37 (q737 + 1) F53 H53 locs53 (by omega) (by omega) hW53 hFr53 hP53 hS53 hE58 ls56 (lv_sub hl56 [0, 1, 2, 3, 4, 5, 6, 7] rfl)
        have k59 := ci_ne (nI_toInt (n := b45) (by omega)) z_ti c47
        refine lv_iload S.1 S.2.1 dX4_fewestMonths_84 (lv_at hl37 0 rfl) ?_
        have hE60 : M = ((nI q737), AB3 ad Fl37) := hE38.trans ((show m_X4_fewestMonths_L67_37_b (m_X4_fewestMonths_L67_37 n37) (AB3 ad Fl37) (nI q737) v17 v8 rc ra rj (nI s4) = ((nI q737), (AB3 ad Fl37)) from by unfold m_X4_fewestMonths_L67_37_b; rw [if_neg (nlt_cg rfl rfl c39), if_neg (neq_cg m46 rfl c47)]).trans (congrArg (fun q => (q, AB3 ad Fl37)) rfl))
        exact hret 86 _ _ _ _ _ dX4_fewestMonths_86 rfl hPl37 hSl37 ⟨hWl37, hFl37, ⟨trivial, hM.symm.trans hE60⟩⟩
    have hE61 : M = m_X4_fewestMonths_L67_37 2000 (AB3 ad F33) (nI 0) v17 v8 rc ra rj (nI s4) := hE35.trans ((show m_X4_fewestMonths_34 (AB3 ad F33) v17 v8 rc ra rj (nI s4) = m_X4_fewestMonths_L67_37 2000 (AB3 ad F33) (nI 0) v17 v8 rc ra rj (nI s4) from rfl).trans (congr (congr (congr (congr (congr (congr (congr (congrArg (m_X4_fewestMonths_L67_37 2000) (rfl : AB3 ad F33 = AB3 ad F33)) (Eq.refl ((nI 0) : Int32))) (Eq.refl (v17 : Int32))) (Eq.refl (v8 : Int32))) (Eq.refl rc)) (Eq.refl ra)) (Eq.refl rj)) (Eq.refl ((nI s4) : Int32))))
    exact lp37 2000 (0) F33 H33 locs33 (by omega) (by omega) hW33 hFr33 hP33 hS33 hE61 ls36 (lv_sub hl36 [0, 1, 2, 3, 4, 5, 6, 7] rfl)
  have k62 := ci_nlt rfl (nI_toInt (n := 160) (by omega)) c24
  refine lv_iconst (v := (-1)) S.1 S.2.1 dX4_fewestMonths_48 (by decide +kernel) ?_
  have hE63 : M = ((-1), AB3 ad F3) := hE5.trans ((show m_X4_fewestMonths_4 (AB3 ad F3) rc ra rj (nI s4) = (((-1) : Int32), (AB3 ad F3)) from by unfold m_X4_fewestMonths_4; rw [if_neg (nlt_cg m18 rfl c20), if_neg (nlt_cg m18 rfl c24)]).trans (congrArg (fun q => (q, AB3 ad F3)) rfl))
  exact hret 49 _ _ _ _ _ dX4_fewestMonths_49 rfl hP3 hS3 ⟨hW3, hFr3, ⟨trivial, hM.symm.trans hE63⟩⟩
noncomputable def m_X7_seals_30 (σ : S3) (a0 : Int32) (a1 : Int32) : Int32 × S3 :=
  (a1, σ)
noncomputable def m_X7_seals_23 (σ : S3) (a0 : Int32) : Int32 × S3 :=
  m_X7_seals_30 ((m_X4_fewestMonths σ (rl (σ.1 0 11)) 45 3 a0)).2 a0 ((m_X4_fewestMonths σ (rl (σ.1 0 11)) 45 3 a0)).1
noncomputable def m_X7_seals (σ : S3) (a0 : Int32) : Int32 × S3 :=
  if (a0 &&& ((m_X0_allTowns σ.1 (rl (σ.1 0 11))) ^^^ ((-1) : Int32))) = (0 : Int32) then
    if (m_X7_cannotGoOn σ.1) = (0 : Int32) then
      m_X7_seals_23 ((m_X0_fillExits σ.1 (rl (σ.1 0 11)) 45 (σ.1 3 5)), (σ).2) a0
    else
      (((-1000000003) : Int32), σ)
  else
    (((-1000000001) : Int32), σ)
set_option maxHeartbeats 4000000 in
set_option maxRecDepth 100000 in
theorem cL_X7_seals (l : Launch) (D : va_G) (cA ad : Nat → Nat) (t : Nat) (hI : rI ad) (F : Nat → va_E) (hW : WT cA ad F) (p1 : Int32) : MI l D cA ad t yX7_seals wsX7_seals { frames := 4, cells := 0, slots := 0, locals := 106 } [.ref (ad 0), .int p1] F (fun r F' => WT cA ad F' ∧ rFr [45, 30, 31, 32] F F' ∧ ((True) ∧ m_X7_seals (AB3 ad F) p1 = (r, AB3 ad F'))) := by
  refine en_I rfl (by decide +kernel) (Nat.le_of_ble_eq_true rfl) ?_
  intro p e s m args below meth c ls0 Q S hK hZ hP hS hl0 hret
  have hl0 : lv_has ls0 2 [(0, .ref (ad 0)), (1, .int p1)] := hl0
  have hFr : rFr [45, 30, 31, 32] F F := rFr.rf
  have hiX1 : ∀ w ∈ u_ws RX1 TX1 7, w ∈ wsX7_seals := by decide +kernel
  have hiX7 : ∀ w ∈ u_ws RX7 TX7 15, w ∈ wsX7_seals := by decide +kernel
  obtain ⟨M, hM⟩ : ∃ M, M = m_X7_seals (AB3 ad F) p1 := ⟨_, rfl⟩
  refine lv_iload_n S.1 S.2.1 dX7_seals_0 rfl (lv_at hl0 1 rfl) ?_
  refine lv_aload_n S.1 S.2.1 dX7_seals_1 rfl (lv_at hl0 0 rfl) ?_
  obtain ⟨c1, d1, k1, dr1, hF1, hc1, hd1, hk1⟩ := wt_main hW
  refine r_get S hK hP 0 (by decide) hF1 (C := RX7) (T := TX7) (N := 15) hiX7 rfl 11 (by decide) (by decide +kernel) (v := .ref (ad c1)) rfl dX7_seals_2 ?_
  have m2 : (rl ((AB3 ad F).1 0 11)) = c1 := AB_r hI (lt_C hc1) hF1 rfl
  obtain ⟨sl4, fm4, tn4, rn4, bn4, hF4, hb4_1, hb4_2, hb4_3⟩ := wt_C hW hc1
  refine r_cVp (As := []) (rest := [.int p1]) S hK hZ hP hS hl0.1 c1 (lt_C hc1) hF4 (C := RX0) rfl (c_X0_allTowns l D cA ad t hI F hW c1 hc1) (cwV 0 S.2.2.2.2 gX7_seals_X0_allTowns rfl rfl rfl (by decide +kernel) ⟨Nat.le_of_ble_eq_true rfl, Nat.le_of_ble_eq_true rfl⟩) rfl rfl (Nat.le_of_ble_eq_true rfl) ⟨Nat.zero_le _, Nat.zero_le _⟩ dX7_seals_5 (fun r3 hr3 => ?_)
  obtain ⟨hr3, hm3⟩ := hr3
  obtain ⟨ka5, hka5, ea5⟩ := hr3
  have m6 : (m_X0_allTowns (AB3 ad F).1 (rl ((AB3 ad F).1 0 11))) = r3 := (congr (Eq.refl (m_X0_allTowns (AB ad F))) m2).trans hm3
  refine lv_iconst (v := (-1)) S.1 S.2.1 dX7_seals_8 (by decide +kernel) ?_
  refine lv_ixor S.1 S.2.1 dX7_seals_9 ?_
  refine lv_topi (fun v7 e7 => ?_)
  have m8 : ((m_X0_allTowns (AB3 ad F).1 (rl ((AB3 ad F).1 0 11))) ^^^ ((-1) : Int32)) = v7 := cg2 (fun (x : Int32) (y : Int32) => x ^^^ y) m6 (Eq.refl ((-1) : Int32)) e7
  refine lv_iand S.1 S.2.1 dX7_seals_10 ?_
  refine lv_topi (fun v9 e9 => ?_)
  have m10 : (p1 &&& ((m_X0_allTowns (AB3 ad F).1 (rl ((AB3 ad F).1 0 11))) ^^^ ((-1) : Int32))) = v9 := cg2 (fun (x : Int32) (y : Int32) => x &&& y) (Eq.refl (p1 : Int32)) m8 e9
  refine lv_if_eq (tgt := 17) S.1 S.2.1 dX7_seals_11 (by decide) (fun c11 => ?_) (fun c11 => ?_)
  · skip
    have k12 := ci_eq rfl z_ti c11
    obtain ⟨j13, hj13, rfl⟩ := and_bd (x := p1) hka5 (by rw [← ea5, ← e7, ← e9]; exact c11)
    refine lv_aload_n S.1 S.2.1 dX7_seals_17 rfl (lv_at hl0 0 rfl) ?_
    refine r_cVp (As := []) (rest := []) S hK hZ hP hS hl0.1 0 (by decide) hF1 (C := RX7) rfl (c_X7_cannotGoOn l D cA ad t hI F hW ) (cwV 0 S.2.2.2.2 gX7_seals_X7_cannotGoOn rfl rfl rfl (by decide +kernel) ⟨Nat.le_of_ble_eq_true rfl, Nat.le_of_ble_eq_true rfl⟩) rfl rfl (Nat.le_of_ble_eq_true rfl) ⟨Nat.zero_le _, Nat.zero_le _⟩ dX7_seals_18 (fun r14 hr14 => ?_)
    obtain ⟨hr14, hm14⟩ := hr14
    obtain ⟨b15, hb15, rfl⟩ := hr14
    have m16 : (m_X7_cannotGoOn (AB3 ad F).1) = (nI b15) := (Eq.refl (m_X7_cannotGoOn (AB ad F))).trans hm14
    refine lv_if_eq (tgt := 27) S.1 S.2.1 dX7_seals_21 (by decide) (fun c17 => ?_) (fun c17 => ?_)
    · skip
      have k18 := ci_eq (nI_toInt (n := b15) (by omega)) z_ti c17
      refine lv_aload_n S.1 S.2.1 dX7_seals_27 rfl (lv_at hl0 0 rfl) ?_
      refine r_get S hK hP 0 (by decide) hF1 (C := RX7) (T := TX7) (N := 15) hiX7 rfl 11 (by decide) (by decide +kernel) (v := .ref (ad c1)) rfl dX7_seals_28 ?_
      have m19 : (rl ((AB3 ad F).1 0 11)) = c1 := AB_r hI (lt_C hc1) hF1 rfl
      refine lv_aload_n S.1 S.2.1 dX7_seals_31 rfl (lv_at hl0 0 rfl) ?_
      refine r_get S hK hP 0 (by decide) hF1 (C := RX7) (T := TX7) (N := 15) hiX7 rfl 10 (by decide) (by decide +kernel) (v := .ref (ad 45)) rfl dX7_seals_32 ?_
      refine lv_aload_n S.1 S.2.1 dX7_seals_35 rfl (lv_at hl0 0 rfl) ?_
      refine r_get S hK hP 0 (by decide) hF1 (C := RX7) (T := TX7) (N := 15) hiX7 rfl 1 (by decide) (by decide +kernel) (v := .ref (ad 3)) rfl dX7_seals_36 ?_
      obtain ⟨ja20, jb20, jc20, jd20, jx20, jy20, jk20, hF20, hk20⟩ := wt_J hW (show isJ 3 from Or.inl rfl)
      refine r_get S hK hP 3 (by decide) hF20 (C := RX1) (T := TX1) (N := 7) hiX1 rfl 5 (by decide) (by decide +kernel) (v := .int jy20) rfl dX7_seals_39 ?_
      have m21 : ((AB3 ad F).1 3 5) = jy20 := AB_f hF20 rfl
      refine r_cVv (As := [.ref (ad 45), .int jy20]) (rest := []) S hK hZ hP hS hl0.1 c1 (lt_C hc1) hF4 (C := RX0) rfl (c_X0_fillExits l D cA ad t hI F hW c1 hc1 45 (show (45, 8) ∈ rLI by decide) (by decide) jy20) (cwV 2 S.2.2.2.2 gX7_seals_X0_fillExits rfl rfl rfl (by decide +kernel) ⟨Nat.le_of_ble_eq_true rfl, Nat.le_of_ble_eq_true rfl⟩) rfl rfl (Nat.le_of_ble_eq_true rfl) ⟨Nat.zero_le _, Nat.zero_le _⟩ dX7_seals_42 (fun F22 H22 locs22 hr22 hP22 hS22 => ?_)
      obtain ⟨hW22, hFc22, hr22⟩ := hr22
      obtain ⟨hr22, hm22⟩ := hr22
      have hFr22 := hFr.tr hFc22 (by simp <;> first | omega | (simp only [isC, isJ] at *; omega))
      have hE24 : M = m_X7_seals_23 (AB3 ad F22) (nI j13) := hM.trans ((show m_X7_seals (AB3 ad F) (nI j13) = m_X7_seals_23 ((m_X0_fillExits (AB3 ad F).1 (rl ((AB3 ad F).1 0 11)) 45 ((AB3 ad F).1 3 5)), ((AB3 ad F)).2) (nI j13) from by unfold m_X7_seals; rw [if_pos (eq_cg m10 rfl c11), if_pos (eq_cg m16 rfl c17)]).trans (congr (congrArg (m_X7_seals_23) (s3_cg ((congr (congr (congr (Eq.refl (m_X0_fillExits (AB ad F))) m19) (Eq.refl 45)) m21).trans hm22) (AM_fr45 hW hW22 hFc22).symm)) (Eq.refl ((nI j13) : Int32))))
      refine lv_aload_n S.1 S.2.1 dX7_seals_45 rfl (lv_at hl0 0 rfl) ?_
      have hF25 := (hFc22 0 (by decide)).trans hF1
      refine r_get S hK hP22 0 (by decide) hF25 (C := RX7) (T := TX7) (N := 15) hiX7 rfl 4 (by decide) (by decide +kernel) (v := .ref (ad 30)) rfl dX7_seals_46 ?_
      refine lv_aload_n S.1 S.2.1 dX7_seals_49 rfl (lv_at hl0 0 rfl) ?_
      refine r_get S hK hP22 0 (by decide) hF25 (C := RX7) (T := TX7) (N := 15) hiX7 rfl 11 (by decide) (by decide +kernel) (v := .ref (ad c1)) rfl dX7_seals_50 ?_
      have m26 : (rl ((AB3 ad F22).1 0 11)) = c1 := AB_r hI (lt_C hc1) hF25 rfl
      refine lv_aload_n S.1 S.2.1 dX7_seals_53 rfl (lv_at hl0 0 rfl) ?_
      refine r_get S hK hP22 0 (by decide) hF25 (C := RX7) (T := TX7) (N := 15) hiX7 rfl 10 (by decide) (by decide +kernel) (v := .ref (ad 45)) rfl dX7_seals_54 ?_
      refine lv_aload_n S.1 S.2.1 dX7_seals_57 rfl (lv_at hl0 0 rfl) ?_
      refine r_get S hK hP22 0 (by decide) hF25 (C := RX7) (T := TX7) (N := 15) hiX7 rfl 1 (by decide) (by decide +kernel) (v := .ref (ad 3)) rfl dX7_seals_58 ?_
      refine lv_iload_n S.1 S.2.1 dX7_seals_61 rfl (lv_at hl0 1 rfl) ?_
      obtain ⟨a28, b28, hF28, ha28, hb28⟩ := wt_search hW22
      refine r_cVi (As := [.ref (ad c1), .ref (ad 45), .ref (ad 3), .int (nI j13)]) (rest := []) S hK hZ hP22 hS22 hl0.1 30 (by decide) hF28 (C := RX4) rfl (cL_X4_fewestMonths l D cA ad t hI F22 hW22 c1 hc1 45 (show (45, 8) ∈ rLI by decide) (by decide) 3 (show isJ 3 from Or.inl rfl) (j13) (by omega)) (cwV 4 S.2.2.2.2 gX7_seals_X4_fewestMonths rfl rfl rfl (by decide +kernel) ⟨Nat.le_of_ble_eq_true rfl, Nat.le_of_ble_eq_true rfl⟩) rfl rfl (Nat.le_of_ble_eq_true rfl) ⟨Nat.zero_le _, Nat.zero_le _⟩ dX7_seals_62 (fun r27 F27 H27 locs27 hr27 hP27 hS27 => ?_)
      obtain ⟨hW27, hFc27, hr27⟩ := hr27
      obtain ⟨hr27, hm27⟩ := hr27
      have hFr27 := hFr22.tr hFc27 (by simp <;> first | omega | (simp only [isC, isJ] at *; omega))
      have mc29 : (m_X4_fewestMonths (AB3 ad F22) (rl ((AB3 ad F22).1 0 11)) 45 3 (nI j13)) = (r27, AB3 ad F27) := (congr (congr (congr (congr (Eq.refl (m_X4_fewestMonths (AB3 ad F22))) m26) (Eq.refl 45)) (Eq.refl 3)) (Eq.refl ((nI j13) : Int32))).trans hm27
      have hE31 : M = m_X7_seals_30 (AB3 ad F27) (nI j13) r27 := hE24.trans ((show m_X7_seals_23 (AB3 ad F22) (nI j13) = m_X7_seals_30 ((m_X4_fewestMonths (AB3 ad F22) (rl ((AB3 ad F22).1 0 11)) 45 3 (nI j13))).2 (nI j13) ((m_X4_fewestMonths (AB3 ad F22) (rl ((AB3 ad F22).1 0 11)) 45 3 (nI j13))).1 from rfl).trans (congr (congr (congrArg (m_X7_seals_30) (congrArg Prod.snd mc29)) (Eq.refl ((nI j13) : Int32))) (congrArg Prod.fst mc29)))
      have hE32 : M = (r27, AB3 ad F27) := hE31.trans ((show m_X7_seals_30 (AB3 ad F27) (nI j13) r27 = (r27, (AB3 ad F27)) from rfl).trans (congrArg (fun q => (q, AB3 ad F27)) rfl))
      exact hret 65 _ _ _ _ _ dX7_seals_65 rfl hP27 hS27 ⟨hW27, hFr27, ⟨trivial, hM.symm.trans hE32⟩⟩
    have k33 := ci_ne (nI_toInt (n := b15) (by omega)) z_ti c17
    refine lv_ldc (v := (-1000000003)) S.1 S.2.1 S.2.2.2.1 (S.2.2.2.2 (.constant RX7 181 (-1000000003)) (by decide +kernel)) dX7_seals_24 ?_
    have hE34 : M = ((-1000000003), AB3 ad F) := hM.trans ((show m_X7_seals (AB3 ad F) (nI j13) = (((-1000000003) : Int32), (AB3 ad F)) from by unfold m_X7_seals; rw [if_pos (eq_cg m10 rfl c11), if_neg (neq_cg m16 rfl c17)]).trans (congrArg (fun q => (q, AB3 ad F)) rfl))
    exact hret 26 _ _ _ _ _ dX7_seals_26 rfl hP hS ⟨hW, hFr, ⟨trivial, hM.symm.trans hE34⟩⟩
  have k35 := ci_ne rfl z_ti c11
  refine lv_ldc (v := (-1000000001)) S.1 S.2.1 S.2.2.2.1 (S.2.2.2.2 (.constant RX7 147 (-1000000001)) (by decide +kernel)) dX7_seals_14 ?_
  have hE36 : M = ((-1000000001), AB3 ad F) := hM.trans ((show m_X7_seals (AB3 ad F) p1 = (((-1000000001) : Int32), (AB3 ad F)) from by unfold m_X7_seals; rw [if_neg (neq_cg m10 rfl c11)]).trans (congrArg (fun q => (q, AB3 ad F)) rfl))
  exact hret 16 _ _ _ _ _ dX7_seals_16 rfl hP hS ⟨hW, hFr, ⟨trivial, hM.symm.trans hE36⟩⟩
noncomputable def m_X8_sealsOn_255 (k0 : S3 → Int32 → Int32 → S3) (σ : S3) (a0 : Int32) (a1 : Int32) : S3 :=
  k0 σ (a0 + Int32.ofInt (1)) a1
noncomputable def m_X8_sealsOn_244 (k0 : S3 → Int32 → Int32 → S3) (k1 : S3 → Int32 → Int32 → S3) (k2 : S3 → Int32 → Int32 → Int32 → S3) (σ : S3) (a0 : Int32) (a1 : Int64) (a2 : Int32) (a3 : Int32) (a4 : Int32) : S3 :=
  k2 σ (a2 + Int32.ofInt (1)) a3 a4
noncomputable def m_X8_sealsOn_219 (k0 : S3 → Int32 → Int32 → S3) (k1 : S3 → Int32 → Int32 → S3) (k2 : S3 → Int32 → Int32 → Int32 → S3) (σ : S3) (a0 : Int64) (a1 : Int32) (a2 : Int32) (a3 : Int32) : S3 :=
  k2 σ (a1 + Int32.ofInt (1)) a2 a3
noncomputable def m_X8_sealsOn_177 (k0 : S3 → Int32 → Int32 → S3) (k1 : S3 → Int32 → Int32 → S3) (k2 : S3 → Int32 → Int32 → Int32 → S3) (k3 : S3 → Int32 → Int64 → Int32 → Int32 → S3) (k4 : S3 → Int32 → Int32 → Int32 → Int64 → Int32 → Int32 → S3) (σ : S3) (a0 : Int32) (a1 : Int32) (a2 : Int32) (a3 : Int64) (a4 : Int32) (a5 : Int32) : S3 :=
  k4 σ (a0 + Int32.ofInt (1)) a1 a2 a3 a4 a5
noncomputable def m_X8_sealsOn_166 (k0 : S3 → Int32 → Int32 → S3) (k1 : S3 → Int32 → Int32 → S3) (k2 : S3 → Int32 → Int32 → Int32 → S3) (k3 : S3 → Int32 → Int64 → Int32 → Int32 → S3) (k4 : S3 → Int32 → Int32 → Int32 → Int64 → Int32 → Int32 → S3) (σ : S3) (a0 : Int32) (a1 : Int32) (a2 : Int32) (a3 : Int64) (a4 : Int32) (a5 : Int32) : S3 :=
  k4 σ (a0 + Int32.ofInt (1)) a1 a2 a3 a4 a5
noncomputable def m_X8_sealsOn_L174_139_b (k0 : S3 → Int32 → Int32 → S3) (k1 : S3 → Int32 → Int32 → S3) (k2 : S3 → Int32 → Int32 → Int32 → S3) (k3 : S3 → Int32 → Int64 → Int32 → Int32 → S3) (k4 : S3 → Int32 → Int32 → Int32 → Int64 → Int32 → Int32 → S3) (σ : S3) (a0 : Int32) (a1 : Int32) (a2 : Int32) (a3 : Int64) (a4 : Int32) (a5 : Int32) : S3 :=
  if (σ.1 60 (rl (nI 2))) ≤ a0 then
    k3 σ (a2 + Int32.ofInt (1)) a3 a4 a5
  else
    if ((a1 >>> (a0 &&& 31)) &&& (nI 1)) = (nI 1) then
      m_X8_sealsOn_177 k0 k1 k2 k3 k4 (σ.1, stL (σ).2 70 (rl a4) (((σ).2 70 (rl a4)) ||| (m_X8_bit σ.1 a0 (nI 0)))) a0 a1 a2 a3 a4 a5
    else
      m_X8_sealsOn_166 k0 k1 k2 k3 k4 (σ.1, stL (σ).2 70 (rl a4) (((σ).2 70 (rl a4)) ||| (0 : Int64))) a0 a1 a2 a3 a4 a5
noncomputable def m_X8_sealsOn_L174_139 (k0 : S3 → Int32 → Int32 → S3) (k1 : S3 → Int32 → Int32 → S3) (k2 : S3 → Int32 → Int32 → Int32 → S3) (k3 : S3 → Int32 → Int64 → Int32 → Int32 → S3) : Nat → S3 → Int32 → Int32 → Int32 → Int64 → Int32 → Int32 → S3
  | 0 => fun σ _ _ _ _ _ _ => σ
  | n + 1 => m_X8_sealsOn_L174_139_b k0 k1 k2 k3 (m_X8_sealsOn_L174_139 k0 k1 k2 k3 n)
noncomputable def m_X8_sealsOn_124 (k0 : S3 → Int32 → Int32 → S3) (k1 : S3 → Int32 → Int32 → S3) (k2 : S3 → Int32 → Int32 → Int32 → S3) (k3 : S3 → Int32 → Int64 → Int32 → Int32 → S3) (k4 : S3 → Int32 → Int32 → Int64 → Int32 → Int32 → S3) (σ : S3) (a0 : Int32) (a1 : Int32) (a2 : Int64) (a3 : Int32) (a4 : Int32) : S3 :=
  k4 σ (a0 + Int32.ofInt (1)) a1 a2 a3 a4
noncomputable def m_X8_sealsOn_113 (k0 : S3 → Int32 → Int32 → S3) (k1 : S3 → Int32 → Int32 → S3) (k2 : S3 → Int32 → Int32 → Int32 → S3) (k3 : S3 → Int32 → Int64 → Int32 → Int32 → S3) (k4 : S3 → Int32 → Int32 → Int64 → Int32 → Int32 → S3) (σ : S3) (a0 : Int32) (a1 : Int32) (a2 : Int64) (a3 : Int32) (a4 : Int32) : S3 :=
  k4 σ (a0 + Int32.ofInt (1)) a1 a2 a3 a4
noncomputable def m_X8_sealsOn_L174_86_b (k0 : S3 → Int32 → Int32 → S3) (k1 : S3 → Int32 → Int32 → S3) (k2 : S3 → Int32 → Int32 → Int32 → S3) (k3 : S3 → Int32 → Int64 → Int32 → Int32 → S3) (k4 : S3 → Int32 → Int32 → Int64 → Int32 → Int32 → S3) (σ : S3) (a0 : Int32) (a1 : Int32) (a2 : Int64) (a3 : Int32) (a4 : Int32) : S3 :=
  if (σ.1 60 (rl (nI 2))) ≤ a0 then
    k3 σ (a1 + Int32.ofInt (1)) a2 a3 a4
  else
    if (((nI 0) >>> (a0 &&& 31)) &&& (nI 1)) = (nI 1) then
      m_X8_sealsOn_124 k0 k1 k2 k3 k4 (σ.1, stL (σ).2 70 (rl a3) (((σ).2 70 (rl a3)) ||| (m_X8_bit σ.1 a0 (nI 0)))) a0 a1 a2 a3 a4
    else
      m_X8_sealsOn_113 k0 k1 k2 k3 k4 (σ.1, stL (σ).2 70 (rl a3) (((σ).2 70 (rl a3)) ||| (0 : Int64))) a0 a1 a2 a3 a4
noncomputable def m_X8_sealsOn_L174_86 (k0 : S3 → Int32 → Int32 → S3) (k1 : S3 → Int32 → Int32 → S3) (k2 : S3 → Int32 → Int32 → Int32 → S3) (k3 : S3 → Int32 → Int64 → Int32 → Int32 → S3) : Nat → S3 → Int32 → Int32 → Int64 → Int32 → Int32 → S3
  | 0 => fun σ _ _ _ _ _ => σ
  | n + 1 => m_X8_sealsOn_L174_86_b k0 k1 k2 k3 (m_X8_sealsOn_L174_86 k0 k1 k2 k3 n)
noncomputable def m_X8_sealsOn_L129_62_b (k0 : S3 → Int32 → Int32 → S3) (k1 : S3 → Int32 → Int32 → S3) (k2 : S3 → Int32 → Int32 → Int32 → S3) (k3 : S3 → Int32 → Int64 → Int32 → Int32 → S3) (σ : S3) (a0 : Int32) (a1 : Int64) (a2 : Int32) (a3 : Int32) : S3 :=
  if (σ.1 60 (rl (nI 2))) ≤ a0 then
    k1 σ (a2 + Int32.ofInt (1)) a3
  else
    if (((m_X8_towns σ.1 a1) >>> (a0 &&& 31)) &&& (nI 1)) = (nI 1) then
      m_X8_sealsOn_L174_139 k0 k1 k2 k3 2000 σ (nI 0) (m_X8_walks σ.1 a0 (σ.1 62 (rl (nI 5)))) a0 a1 a2 a3
    else
      m_X8_sealsOn_L174_86 k0 k1 k2 k3 2000 σ (nI 0) a0 a1 a2 a3
noncomputable def m_X8_sealsOn_L129_62 (k0 : S3 → Int32 → Int32 → S3) (k1 : S3 → Int32 → Int32 → S3) (k2 : S3 → Int32 → Int32 → Int32 → S3) : Nat → S3 → Int32 → Int64 → Int32 → Int32 → S3
  | 0 => fun σ _ _ _ _ => σ
  | n + 1 => m_X8_sealsOn_L129_62_b k0 k1 k2 (m_X8_sealsOn_L129_62 k0 k1 k2 n)
noncomputable def m_X8_sealsOn_L44_46_b (k0 : S3 → Int32 → Int32 → S3) (k1 : S3 → Int32 → Int32 → S3) (k2 : S3 → Int32 → Int32 → Int32 → S3) (σ : S3) (a0 : Int32) (a1 : Int32) (a2 : Int32) : S3 :=
  if (σ.1 60 (rl (nI 2))) ≤ a0 then
    m_X8_sealsOn_L129_62 k0 k1 k2 2000 σ (nI 0) ((σ).2 69 (rl a1)) a1 a2
  else
    if (m_X8_hasWork σ.1 a0 a2) = (0 : Int32) then
      m_X8_sealsOn_219 k0 k1 k2 (σ.1, stL (σ).2 70 (rl (a1 ||| (nI 0))) (((σ).2 70 (rl (a1 ||| (nI 0)))) ||| (m_X8_goes σ.1 (((σ).2 69 (rl a1)) &&& (((31) : Int64) <<< (((nI 5) * a0).toInt64 &&& 63))) (σ.1 62 (rl (nI 5))) a0))) (((σ).2 69 (rl a1)) &&& (((31) : Int64) <<< (((nI 5) * a0).toInt64 &&& 63))) a0 a1 a2
    else
      m_X8_sealsOn_244 k0 k1 k2 (σ.1, stL (σ).2 70 (rl (a1 ||| ((nI 1) <<< (a0 &&& 31)))) (((σ).2 70 (rl (a1 ||| ((nI 1) <<< (a0 &&& 31))))) ||| (m_X8_goes σ.1 (((σ).2 69 (rl a1)) &&& (((31) : Int64) <<< (((nI 5) * a0).toInt64 &&& 63))) (σ.1 62 (rl (nI 5))) a0))) ((nI 1) <<< (a0 &&& 31)) (((σ).2 69 (rl a1)) &&& (((31) : Int64) <<< (((nI 5) * a0).toInt64 &&& 63))) a0 a1 a2
noncomputable def m_X8_sealsOn_L44_46 (k0 : S3 → Int32 → Int32 → S3) (k1 : S3 → Int32 → Int32 → S3) : Nat → S3 → Int32 → Int32 → Int32 → S3
  | 0 => fun σ _ _ _ => σ
  | n + 1 => m_X8_sealsOn_L44_46_b k0 k1 (m_X8_sealsOn_L44_46 k0 k1 n)
noncomputable def m_X8_sealsOn_25 (k0 : S3 → Int32 → Int32 → S3) (k1 : S3 → Int32 → Int32 → S3) (k2 : S3 → Int32 → Int32 → S3) (σ : S3) (a0 : Int32) (a1 : Int32) : S3 :=
  k2 σ (a0 + Int32.ofInt (1)) a1
noncomputable def m_X8_sealsOn_L235_12_b (k0 : S3 → Int32 → Int32 → S3) (k1 : S3 → Int32 → Int32 → S3) (k2 : S3 → Int32 → Int32 → S3) (σ : S3) (a0 : Int32) (a1 : Int32) : S3 :=
  if (nI 256) ≤ a0 then
    σ
  else
    m_X8_sealsOn_25 k0 k1 k2 (σ.1, stL (σ).2 69 (rl a0) ((σ).2 70 (rl a0))) a0 a1
noncomputable def m_X8_sealsOn_L235_12 (k0 : S3 → Int32 → Int32 → S3) (k1 : S3 → Int32 → Int32 → S3) : Nat → S3 → Int32 → Int32 → S3
  | 0 => fun σ _ _ => σ
  | n + 1 => m_X8_sealsOn_L235_12_b k0 k1 (m_X8_sealsOn_L235_12 k0 k1 n)
noncomputable def m_X8_sealsOn_L24_7_b (k0 : S3 → Int32 → Int32 → S3) (k1 : S3 → Int32 → Int32 → S3) (σ : S3) (a0 : Int32) (a1 : Int32) : S3 :=
  if (nI 256) ≤ a0 then
    m_X8_sealsOn_L235_12 k0 k1 2000 σ (nI 0) a1
  else
    if (lg_cmp ((σ).2 69 (rl a0)) (0 : Int64)) = (0 : Int32) then
      k1 σ (a0 + Int32.ofInt (1)) a1
    else
      m_X8_sealsOn_L44_46 k0 k1 2000 σ (nI 0) a0 a1
noncomputable def m_X8_sealsOn_L24_7 (k0 : S3 → Int32 → Int32 → S3) : Nat → S3 → Int32 → Int32 → S3
  | 0 => fun σ _ _ => σ
  | n + 1 => m_X8_sealsOn_L24_7_b k0 (m_X8_sealsOn_L24_7 k0 n)
noncomputable def m_X8_sealsOn_L2_2_b (k0 : S3 → Int32 → Int32 → S3) (σ : S3) (a0 : Int32) (a1 : Int32) : S3 :=
  if (nI 256) ≤ a0 then
    m_X8_sealsOn_L24_7 k0 2000 σ (nI 0) a1
  else
    m_X8_sealsOn_255 k0 (σ.1, stL (σ).2 70 (rl a0) (0 : Int64)) a0 a1
noncomputable def m_X8_sealsOn_L2_2 : Nat → S3 → Int32 → Int32 → S3
  | 0 => fun σ _ _ => σ
  | n + 1 => m_X8_sealsOn_L2_2_b (m_X8_sealsOn_L2_2 n)
noncomputable def m_X8_sealsOn (σ : S3) (a0 : Int32) : S3 :=
  m_X8_sealsOn_L2_2 2000 σ (nI 0) a0
set_option maxHeartbeats 4000000 in
set_option maxRecDepth 100000 in
theorem cL_X8_sealsOn (l : Launch) (D : va_G) (cA ad : Nat → Nat) (t : Nat) (hI : rI ad) (F : Nat → va_E) (hW : WT cA ad F) (p1 : Int32) : MV l D cA ad t yX8_sealsOn wsX8_sealsOn { frames := 3, cells := 0, slots := 0, locals := 78 } [.ref (ad 58), .int p1] F (fun F' => WT cA ad F' ∧ rFr [69, 70] F F' ∧ ((True) ∧ m_X8_sealsOn (AB3 ad F) p1 = AB3 ad F')) := by
  refine en_V rfl (by decide +kernel) (Nat.le_of_ble_eq_true rfl) ?_
  intro p e s m args below meth c ls0 Q S hK hZ hP hS hl0 hret
  have hl0 : lv_has ls0 8 [(0, .ref (ad 58)), (1, .int p1)] := hl0
  have hFr : rFr [69, 70] F F := rFr.rf
  have hiX8 : ∀ w ∈ u_ws RX8 TX8 23, w ∈ wsX8_sealsOn := by decide +kernel
  obtain ⟨M, hM⟩ : ∃ M, M = m_X8_sealsOn (AB3 ad F) p1 := ⟨_, rfl⟩
  refine lv_iconst (v := (nI 0)) S.1 S.2.1 dX8_sealsOn_0 (by decide +kernel) ?_
  refine lv_istore_n (lv' := [(2, .int (nI 0)), (0, .ref (ad 58)), (1, .int p1)]) S.1 S.2.1 dX8_sealsOn_1 rfl hl0 (by decide) rfl (fun ls1 hl1 => ?_)
  have lp2 : ∀ (n2 : Nat) (q22 : Nat), ∀ (Fl2 : Nat → va_E) (Hl2 : Heap) (lol2 : List Loc), q22 ≤ 256 → 256 - q22 < n2 → WT cA ad Fl2 → rFr [69, 70] F Fl2 → va_P D vwCl (rW ad Fl2) Hl2 → va_S (rA ad) s.heap Hl2 lol2 → M = m_X8_sealsOn_L2_2 n2 (AB3 ad Fl2) (nI q22) p1 → ∀ (ls : Array Slot), lv_has ls 8 [(2, .int (nI q22)), (0, .ref (ad 58)), (1, .int p1)] → W p l e { frames := 3, cells := 0, slots := 0, locals := 78 } s m args below meth c Hl2 lol2 0 0 Q (F0 m 2 ls []) := by
    intro n2
    induction n2 with
    | zero =>
      intro q22 Fl2 Hl2 lol2 iv2_0 hm2 hWl2 hFl2 hPl2 hSl2 hEl2 ls2 hl2
      exact absurd hm2 (Nat.not_lt_zero _)
    | succ n2 ih2 =>
      intro q22 Fl2 Hl2 lol2 iv2_0 hm2 hWl2 hFl2 hPl2 hSl2 hEl2 ls2 hl2
      have hE3 : M = m_X8_sealsOn_L2_2_b (m_X8_sealsOn_L2_2 n2) (AB3 ad Fl2) (nI q22) p1 := hEl2
      refine lv_iload_n S.1 S.2.1 dX8_sealsOn_2 rfl (lv_at hl2 0 rfl) ?_
      refine lv_sipush (v := (nI 256)) S.1 S.2.1 dX8_sealsOn_3 (by decide +kernel) ?_
      refine lv_icmp_ge (tgt := 22) S.1 S.2.1 dX8_sealsOn_6 (by decide) (fun c4 => ?_) (fun c4 => ?_)
      · skip
        have k5 := ci_le (nI_toInt (n := 256) (by omega)) (nI_toInt (n := q22) (by omega)) c4
        refine lv_iconst (v := (nI 0)) S.1 S.2.1 dX8_sealsOn_22 (by decide +kernel) ?_
        refine lv_istore_n (lv' := [(2, .int (nI 0)), (0, .ref (ad 58)), (1, .int p1)]) S.1 S.2.1 dX8_sealsOn_23 rfl hl2 (by decide) rfl (fun ls6 hl6 => ?_)
        have lp7 : ∀ (n7 : Nat) (q27 : Nat), ∀ (Fl7 : Nat → va_E) (Hl7 : Heap) (lol7 : List Loc), q27 ≤ 256 → 256 - q27 < n7 → WT cA ad Fl7 → rFr [69, 70] F Fl7 → va_P D vwCl (rW ad Fl7) Hl7 → va_S (rA ad) s.heap Hl7 lol7 → M = m_X8_sealsOn_L24_7 (m_X8_sealsOn_L2_2 n2) n7 (AB3 ad Fl7) (nI q27) p1 → ∀ (ls : Array Slot), lv_has ls 8 [(2, .int (nI q27)), (0, .ref (ad 58)), (1, .int p1)] → W p l e { frames := 3, cells := 0, slots := 0, locals := 78 } s m args below meth c Hl7 lol7 0 0 Q (F0 m 24 ls []) := by
          intro n7
          induction n7 with
          | zero =>
            intro q27 Fl7 Hl7 lol7 iv7_0 hm7 hWl7 hFl7 hPl7 hSl7 hEl7 ls7 hl7
            exact absurd hm7 (Nat.not_lt_zero _)
          | succ n7 ih7 =>
            intro q27 Fl7 Hl7 lol7 iv7_0 hm7 hWl7 hFl7 hPl7 hSl7 hEl7 ls7 hl7
            have hE8 : M = m_X8_sealsOn_L24_7_b (m_X8_sealsOn_L2_2 n2) (m_X8_sealsOn_L24_7 (m_X8_sealsOn_L2_2 n2) n7) (AB3 ad Fl7) (nI q27) p1 := hEl7
            refine lv_iload_n S.1 S.2.1 dX8_sealsOn_24 rfl (lv_at hl7 0 rfl) ?_
            refine lv_sipush (v := (nI 256)) S.1 S.2.1 dX8_sealsOn_25 (by decide +kernel) ?_
            refine lv_icmp_ge (tgt := 233) S.1 S.2.1 dX8_sealsOn_28 (by decide) (fun c9 => ?_) (fun c9 => ?_)
            · skip
              have k10 := ci_le (nI_toInt (n := 256) (by omega)) (nI_toInt (n := q27) (by omega)) c9
              refine lv_iconst (v := (nI 0)) S.1 S.2.1 dX8_sealsOn_233 (by decide +kernel) ?_
              refine lv_istore_n (lv' := [(2, .int (nI 0)), (0, .ref (ad 58)), (1, .int p1)]) S.1 S.2.1 dX8_sealsOn_234 rfl hl7 (by decide) rfl (fun ls11 hl11 => ?_)
              have lp12 : ∀ (n12 : Nat) (q212 : Nat), ∀ (Fl12 : Nat → va_E) (Hl12 : Heap) (lol12 : List Loc), q212 ≤ 256 → 256 - q212 < n12 → WT cA ad Fl12 → rFr [69, 70] F Fl12 → va_P D vwCl (rW ad Fl12) Hl12 → va_S (rA ad) s.heap Hl12 lol12 → M = m_X8_sealsOn_L235_12 (m_X8_sealsOn_L2_2 n2) (m_X8_sealsOn_L24_7 (m_X8_sealsOn_L2_2 n2) n7) n12 (AB3 ad Fl12) (nI q212) p1 → ∀ (ls : Array Slot), lv_has ls 8 [(2, .int (nI q212)), (0, .ref (ad 58)), (1, .int p1)] → W p l e { frames := 3, cells := 0, slots := 0, locals := 78 } s m args below meth c Hl12 lol12 0 0 Q (F0 m 235 ls []) := by
                intro n12
                induction n12 with
                | zero =>
                  intro q212 Fl12 Hl12 lol12 iv12_0 hm12 hWl12 hFl12 hPl12 hSl12 hEl12 ls12 hl12
                  exact absurd hm12 (Nat.not_lt_zero _)
                | succ n12 ih12 =>
                  intro q212 Fl12 Hl12 lol12 iv12_0 hm12 hWl12 hFl12 hPl12 hSl12 hEl12 ls12 hl12
                  have hE13 : M = m_X8_sealsOn_L235_12_b (m_X8_sealsOn_L2_2 n2) (m_X8_sealsOn_L24_7 (m_X8_sealsOn_L2_2 n2) n7) (m_X8_sealsOn_L235_12 (m_X8_sealsOn_L2_2 n2) (m_X8_sealsOn_L24_7 (m_X8_sealsOn_L2_2 n2) n7) n12) (AB3 ad Fl12) (nI q212) p1 := hEl12
                  refine lv_iload_n S.1 S.2.1 dX8_sealsOn_235 rfl (lv_at hl12 0 rfl) ?_
                  refine lv_sipush (v := (nI 256)) S.1 S.2.1 dX8_sealsOn_236 (by decide +kernel) ?_
                  refine lv_icmp_ge (tgt := 260) S.1 S.2.1 dX8_sealsOn_239 (by decide) (fun c14 => ?_) (fun c14 => ?_)
                  · skip
                    have k15 := ci_le (nI_toInt (n := 256) (by omega)) (nI_toInt (n := q212) (by omega)) c14
                    have hE16 : M = AB3 ad Fl12 := hE13.trans ((show m_X8_sealsOn_L235_12_b (m_X8_sealsOn_L2_2 n2) (m_X8_sealsOn_L24_7 (m_X8_sealsOn_L2_2 n2) n7) (m_X8_sealsOn_L235_12 (m_X8_sealsOn_L2_2 n2) (m_X8_sealsOn_L24_7 (m_X8_sealsOn_L2_2 n2) n7) n12) (AB3 ad Fl12) (nI q212) p1 = (AB3 ad Fl12) from by unfold m_X8_sealsOn_L235_12_b; rw [if_pos (le_cg rfl rfl c14)]).trans rfl)
                    exact hret 260 _ _ _ _ dX8_sealsOn_260 hPl12 hSl12 ⟨hWl12, hFl12, ⟨trivial, hM.symm.trans hE16⟩⟩
                  have k17 := ci_nle (nI_toInt (n := 256) (by omega)) (nI_toInt (n := q212) (by omega)) c14
                  refine lv_aload_n S.1 S.2.1 dX8_sealsOn_242 rfl (lv_at hl12 1 rfl) ?_
                  obtain ⟨ty18, kn18, no18, en18, at18, sa18, sd18, wr18, pl18, va18, hF18, hb18_1, hb18_2, hb18_3, hb18_4, hb18_5, hb18_6⟩ := wt_m hWl12
                  refine r_get S hK hPl12 58 (by decide) hF18 (C := RX8) (T := TX8) (N := 23) hiX8 rfl 20 (by decide) (by decide +kernel) (v := .ref (ad 69)) rfl dX8_sealsOn_243 ?_
                  refine lv_iload_n S.1 S.2.1 dX8_sealsOn_246 rfl (lv_at hl12 0 rfl) ?_
                  refine lv_aload_n S.1 S.2.1 dX8_sealsOn_247 rfl (lv_at hl12 1 rfl) ?_
                  refine r_get S hK hPl12 58 (by decide) hF18 (C := RX8) (T := TX8) (N := 23) hiX8 rfl 21 (by decide) (by decide +kernel) (v := .ref (ad 70)) rfl dX8_sealsOn_248 ?_
                  refine lv_iload_n S.1 S.2.1 dX8_sealsOn_251 rfl (lv_at hl12 0 rfl) ?_
                  obtain ⟨g19, hF19⟩ := wt_L hWl12 (show (70, 256) ∈ rLL by decide)
                  refine r_lald S hK hPl12 70 (by decide) hF19 (vp_in_nI (show q212 < 256 by omega) (by omega)) dX8_sealsOn_252 ?_
                  refine lv_topl (fun v21 e21 => ?_)
                  have m22 : (((AB3 ad Fl12)).2 70 (rl (nI q212))) = v21 := (al_cg (Eq.refl 70) (Eq.refl ((nI q212) : Int32))).trans ((AM_g hF19).trans e21.symm)
                  obtain ⟨g23, hF23⟩ := wt_L hWl12 (show (69, 256) ∈ rLL by decide)
                  refine r_last S hI hK hPl12 hSl12 69 (by decide) hF23 (vp_in_nI (show q212 < 256 by omega) (by omega)) dX8_sealsOn_253 (fun F24 H24 locs24 eF24 hP24 hS24 => ?_)
                  have hW24 := hWl12.up eF24 (ok_L (show (69, 256) ∈ rLL by decide) ⟨_, rfl⟩)
                  have hFr24 := hFl12.up eF24 (by simp <;> first | omega | (simp only [isC, isJ] at *; omega))
                  have hE26 : M = m_X8_sealsOn_25 (m_X8_sealsOn_L2_2 n2) (m_X8_sealsOn_L24_7 (m_X8_sealsOn_L2_2 n2) n7) (m_X8_sealsOn_L235_12 (m_X8_sealsOn_L2_2 n2) (m_X8_sealsOn_L24_7 (m_X8_sealsOn_L2_2 n2) n7) n12) (AB3 ad F24) (nI q212) p1 := hE13.trans ((show m_X8_sealsOn_L235_12_b (m_X8_sealsOn_L2_2 n2) (m_X8_sealsOn_L24_7 (m_X8_sealsOn_L2_2 n2) n7) (m_X8_sealsOn_L235_12 (m_X8_sealsOn_L2_2 n2) (m_X8_sealsOn_L24_7 (m_X8_sealsOn_L2_2 n2) n7) n12) (AB3 ad Fl12) (nI q212) p1 = m_X8_sealsOn_25 (m_X8_sealsOn_L2_2 n2) (m_X8_sealsOn_L24_7 (m_X8_sealsOn_L2_2 n2) n7) (m_X8_sealsOn_L235_12 (m_X8_sealsOn_L2_2 n2) (m_X8_sealsOn_L24_7 (m_X8_sealsOn_L2_2 n2) n7) n12) ((AB3 ad Fl12).1, stL ((AB3 ad Fl12)).2 69 (rl (nI q212)) (((AB3 ad Fl12)).2 70 (rl (nI q212)))) (nI q212) p1 from by unfold m_X8_sealsOn_L235_12_b; rw [if_neg (nle_cg rfl rfl c14)]).trans (congr (congr (congrArg (m_X8_sealsOn_25 (m_X8_sealsOn_L2_2 n2) (m_X8_sealsOn_L24_7 (m_X8_sealsOn_L2_2 n2) n7) (m_X8_sealsOn_L235_12 (m_X8_sealsOn_L2_2 n2) (m_X8_sealsOn_L24_7 (m_X8_sealsOn_L2_2 n2) n7) n12)) (AM_cg (Eq.refl 69) (Eq.refl ((nI q212) : Int32)) m22 (AM_ast hF23 eF24))) (Eq.refl ((nI q212) : Int32))) (Eq.refl (p1 : Int32))))
                  have m28 : ((nI q212) + Int32.ofInt (1)) = (nI (q212 + 1)) := (congrArg (fun q : Int32 => q + Int32.ofInt (1)) rfl).trans (nI_add _ 1)
                  refine lv_iinc (v := (nI (q212 + 1))) (lv' := [(2, .int (nI (q212 + 1))), (0, .ref (ad 58)), (1, .int p1)]) S.1 S.2.1 dX8_sealsOn_254 hl12 (k := 0) rfl (nI_add _ 1) (by decide) rfl (fun ls27 hl27 => ?_)
                  refine lv_goto (tgt := 235) S.1 S.2.1 dX8_sealsOn_257 (by decide) ?_
                  have hE29 : M = (m_X8_sealsOn_L235_12 (m_X8_sealsOn_L2_2 n2) (m_X8_sealsOn_L24_7 (m_X8_sealsOn_L2_2 n2) n7) n12) (AB3 ad F24) (nI (q212 + 1)) p1 := hE26.trans ((show m_X8_sealsOn_25 (m_X8_sealsOn_L2_2 n2) (m_X8_sealsOn_L24_7 (m_X8_sealsOn_L2_2 n2) n7) (m_X8_sealsOn_L235_12 (m_X8_sealsOn_L2_2 n2) (m_X8_sealsOn_L24_7 (m_X8_sealsOn_L2_2 n2) n7) n12) (AB3 ad F24) (nI q212) p1 = (m_X8_sealsOn_L235_12 (m_X8_sealsOn_L2_2 n2) (m_X8_sealsOn_L24_7 (m_X8_sealsOn_L2_2 n2) n7) n12) (AB3 ad F24) ((nI q212) + Int32.ofInt (1)) p1 from rfl).trans (congr (congr (congrArg ((m_X8_sealsOn_L235_12 (m_X8_sealsOn_L2_2 n2) (m_X8_sealsOn_L24_7 (m_X8_sealsOn_L2_2 n2) n7) n12)) (rfl : AB3 ad F24 = AB3 ad F24)) m28) (Eq.refl (p1 : Int32))))
                  exact ih12 (q212 + 1) F24 H24 locs24 (by omega) (by omega) hW24 hFr24 hP24 hS24 hE29 ls27 (lv_sub hl27 [0, 1, 2] rfl)
              have hE30 : M = m_X8_sealsOn_L235_12 (m_X8_sealsOn_L2_2 n2) (m_X8_sealsOn_L24_7 (m_X8_sealsOn_L2_2 n2) n7) 2000 (AB3 ad Fl7) (nI 0) p1 := hE8.trans ((show m_X8_sealsOn_L24_7_b (m_X8_sealsOn_L2_2 n2) (m_X8_sealsOn_L24_7 (m_X8_sealsOn_L2_2 n2) n7) (AB3 ad Fl7) (nI q27) p1 = m_X8_sealsOn_L235_12 (m_X8_sealsOn_L2_2 n2) (m_X8_sealsOn_L24_7 (m_X8_sealsOn_L2_2 n2) n7) 2000 (AB3 ad Fl7) (nI 0) p1 from by unfold m_X8_sealsOn_L24_7_b; rw [if_pos (le_cg rfl rfl c9)]).trans (congr (congr (congrArg (m_X8_sealsOn_L235_12 (m_X8_sealsOn_L2_2 n2) (m_X8_sealsOn_L24_7 (m_X8_sealsOn_L2_2 n2) n7) 2000) (rfl : AB3 ad Fl7 = AB3 ad Fl7)) (Eq.refl ((nI 0) : Int32))) (Eq.refl (p1 : Int32))))
              exact lp12 2000 (0) Fl7 Hl7 lol7 (by omega) (by omega) hWl7 hFl7 hPl7 hSl7 hE30 ls11 (lv_sub hl11 [0, 1, 2] rfl)
            have k31 := ci_nle (nI_toInt (n := 256) (by omega)) (nI_toInt (n := q27) (by omega)) c9
            refine lv_aload_n S.1 S.2.1 dX8_sealsOn_31 rfl (lv_at hl7 1 rfl) ?_
            obtain ⟨ty32, kn32, no32, en32, at32, sa32, sd32, wr32, pl32, va32, hF32, hb32_1, hb32_2, hb32_3, hb32_4, hb32_5, hb32_6⟩ := wt_m hWl7
            refine r_get S hK hPl7 58 (by decide) hF32 (C := RX8) (T := TX8) (N := 23) hiX8 rfl 20 (by decide) (by decide +kernel) (v := .ref (ad 69)) rfl dX8_sealsOn_32 ?_
            refine lv_iload_n S.1 S.2.1 dX8_sealsOn_35 rfl (lv_at hl7 0 rfl) ?_
            obtain ⟨g33, hF33⟩ := wt_L hWl7 (show (69, 256) ∈ rLL by decide)
            refine r_lald S hK hPl7 69 (by decide) hF33 (vp_in_nI (show q27 < 256 by omega) (by omega)) dX8_sealsOn_36 ?_
            refine lv_topl (fun v35 e35 => ?_)
            have m36 : (((AB3 ad Fl7)).2 69 (rl (nI q27))) = v35 := (al_cg (Eq.refl 69) (Eq.refl ((nI q27) : Int32))).trans ((AM_g hF33).trans e35.symm)
            refine lv_lconst (v := 0) S.1 S.2.1 dX8_sealsOn_37 (by decide +kernel) ?_
            refine W.lcmp S.1 S.2.1 dX8_sealsOn_38 ?_
            refine lv_topi (fun v37 e37 => ?_)
            have m38 : (lg_cmp (((AB3 ad Fl7)).2 69 (rl (nI q27))) (0 : Int64)) = v37 := cg2 (fun (x : Int64) (y : Int64) => lg_cmp x y) m36 (Eq.refl (0 : Int64)) e37
            refine lv_if_eq (tgt := 227) S.1 S.2.1 dX8_sealsOn_39 (by decide) (fun c39 => ?_) (fun c39 => ?_)
            · skip
              have k40 := ci_eq rfl z_ti c39
              have m42 : ((nI q27) + Int32.ofInt (1)) = (nI (q27 + 1)) := (congrArg (fun q : Int32 => q + Int32.ofInt (1)) rfl).trans (nI_add _ 1)
              refine lv_iinc (v := (nI (q27 + 1))) (lv' := [(2, .int (nI (q27 + 1))), (0, .ref (ad 58)), (1, .int p1)]) S.1 S.2.1 dX8_sealsOn_227 hl7 (k := 0) rfl (nI_add _ 1) (by decide) rfl (fun ls41 hl41 => ?_)
              refine lv_goto (tgt := 24) S.1 S.2.1 dX8_sealsOn_230 (by decide) ?_
              have hE43 : M = (m_X8_sealsOn_L24_7 (m_X8_sealsOn_L2_2 n2) n7) (AB3 ad Fl7) (nI (q27 + 1)) p1 := hE8.trans ((show m_X8_sealsOn_L24_7_b (m_X8_sealsOn_L2_2 n2) (m_X8_sealsOn_L24_7 (m_X8_sealsOn_L2_2 n2) n7) (AB3 ad Fl7) (nI q27) p1 = (m_X8_sealsOn_L24_7 (m_X8_sealsOn_L2_2 n2) n7) (AB3 ad Fl7) ((nI q27) + Int32.ofInt (1)) p1 from by unfold m_X8_sealsOn_L24_7_b; rw [if_neg (nle_cg rfl rfl c9), if_pos (eq_cg m38 rfl c39)]).trans (congr (congr (congrArg ((m_X8_sealsOn_L24_7 (m_X8_sealsOn_L2_2 n2) n7)) (rfl : AB3 ad Fl7 = AB3 ad Fl7)) m42) (Eq.refl (p1 : Int32))))
              exact ih7 (q27 + 1) Fl7 Hl7 lol7 (by omega) (by omega) hWl7 hFl7 hPl7 hSl7 hE43 ls41 (lv_sub hl41 [0, 1, 2] rfl)
            have k44 := ci_ne rfl z_ti c39
            refine lv_iconst (v := (nI 0)) S.1 S.2.1 dX8_sealsOn_42 (by decide +kernel) ?_
            refine lv_istore_n (lv' := [(3, .int (nI 0)), (2, .int (nI q27)), (0, .ref (ad 58)), (1, .int p1)]) S.1 S.2.1 dX8_sealsOn_43 rfl hl7 (by decide) rfl (fun ls45 hl45 => ?_)
            have lp46 : ∀ (n46 : Nat) (q346 : Nat), ∀ (Fl46 : Nat → va_E) (Hl46 : Heap) (lol46 : List Loc), q346 ≤ 8 → 8 - q346 < n46 → WT cA ad Fl46 → rFr [69, 70] F Fl46 → va_P D vwCl (rW ad Fl46) Hl46 → va_S (rA ad) s.heap Hl46 lol46 → M = m_X8_sealsOn_L44_46 (m_X8_sealsOn_L2_2 n2) (m_X8_sealsOn_L24_7 (m_X8_sealsOn_L2_2 n2) n7) n46 (AB3 ad Fl46) (nI q346) (nI q27) p1 → ∀ (ls : Array Slot), lv_has ls 8 [(3, .int (nI q346)), (2, .int (nI q27)), (0, .ref (ad 58)), (1, .int p1)] → W p l e { frames := 3, cells := 0, slots := 0, locals := 78 } s m args below meth c Hl46 lol46 0 0 Q (F0 m 44 ls []) := by
              intro n46
              induction n46 with
              | zero =>
                intro q346 Fl46 Hl46 lol46 iv46_0 hm46 hWl46 hFl46 hPl46 hSl46 hEl46 ls46 hl46
                exact absurd hm46 (Nat.not_lt_zero _)
              | succ n46 ih46 =>
                intro q346 Fl46 Hl46 lol46 iv46_0 hm46 hWl46 hFl46 hPl46 hSl46 hEl46 ls46 hl46
                have hE47 : M = m_X8_sealsOn_L44_46_b (m_X8_sealsOn_L2_2 n2) (m_X8_sealsOn_L24_7 (m_X8_sealsOn_L2_2 n2) n7) (m_X8_sealsOn_L44_46 (m_X8_sealsOn_L2_2 n2) (m_X8_sealsOn_L24_7 (m_X8_sealsOn_L2_2 n2) n7) n46) (AB3 ad Fl46) (nI q346) (nI q27) p1 := hEl46
                refine lv_iload_n S.1 S.2.1 dX8_sealsOn_44 rfl (lv_at hl46 0 rfl) ?_
                refine lv_aload_n S.1 S.2.1 dX8_sealsOn_45 rfl (lv_at hl46 2 rfl) ?_
                obtain ⟨ty48, kn48, no48, en48, at48, sa48, sd48, wr48, pl48, va48, hF48, hb48_1, hb48_2, hb48_3, hb48_4, hb48_5, hb48_6⟩ := wt_m hWl46
                refine r_get S hK hPl46 58 (by decide) hF48 (C := RX8) (T := TX8) (N := 23) hiX8 rfl 2 (by decide) (by decide +kernel) (v := .ref (ad 60)) rfl dX8_sealsOn_46 ?_
                refine lv_iconst (v := (nI 2)) S.1 S.2.1 dX8_sealsOn_49 (by decide +kernel) ?_
                obtain ⟨g49, hF49, hg49⟩ := wt_I hWl46 (show (60, 52) ∈ rLI by decide)
                refine r_iald S hK hPl46 60 (by decide) hF49 (vp_in_nI (show 2 < 52 by omega) (by omega)) dX8_sealsOn_50 ?_
                refine lv_topi (fun v51 e51 => ?_)
                obtain ⟨b52, hb52, he52⟩ := (pr_T (by decide) (hg49 2 (by decide))).2.1 rfl
                obtain rfl : v51 = nI b52 := e51.trans he52
                have m53 : ((AB3 ad Fl46).1 60 (rl (nI 2))) = (nI b52) := (ab_cg rfl rfl).trans ((AB_g hF49).trans e51.symm)
                refine lv_icmp_ge (tgt := 119) S.1 S.2.1 dX8_sealsOn_51 (by decide) (fun c54 => ?_) (fun c54 => ?_)
                · skip
                  have k55 := ci_le (nI_toInt (n := b52) (by omega)) (nI_toInt (n := q346) (by omega)) c54
                  refine lv_aload_n S.1 S.2.1 dX8_sealsOn_119 rfl (lv_at hl46 2 rfl) ?_
                  refine r_get S hK hPl46 58 (by decide) hF48 (C := RX8) (T := TX8) (N := 23) hiX8 rfl 20 (by decide) (by decide +kernel) (v := .ref (ad 69)) rfl dX8_sealsOn_120 ?_
                  refine lv_iload_n S.1 S.2.1 dX8_sealsOn_123 rfl (lv_at hl46 1 rfl) ?_
                  obtain ⟨g56, hF56⟩ := wt_L hWl46 (show (69, 256) ∈ rLL by decide)
                  refine r_lald S hK hPl46 69 (by decide) hF56 (vp_in_nI (show q27 < 256 by omega) (by omega)) dX8_sealsOn_124 ?_
                  refine lv_topl (fun v58 e58 => ?_)
                  have m59 : (((AB3 ad Fl46)).2 69 (rl (nI q27))) = v58 := (al_cg (Eq.refl 69) (Eq.refl ((nI q27) : Int32))).trans ((AM_g hF56).trans e58.symm)
                  refine lv_lstore_n (lv' := [(3, .long v58), (2, .int (nI q27)), (0, .ref (ad 58)), (1, .int p1)]) S.1 S.2.1 dX8_sealsOn_125 rfl hl46 (by decide) rfl (fun ls60 hl60 => ?_)
                  refine lv_iconst (v := (nI 0)) S.1 S.2.1 dX8_sealsOn_126 (by decide +kernel) ?_
                  refine lv_istore (lv' := [(5, .int (nI 0)), (3, .long v58), (2, .int (nI q27)), (0, .ref (ad 58)), (1, .int p1)]) S.1 S.2.1 dX8_sealsOn_127 hl60 (by decide) rfl (fun ls61 hl61 => ?_)
                  have lp62 : ∀ (n62 : Nat) (q562 : Nat), ∀ (Fl62 : Nat → va_E) (Hl62 : Heap) (lol62 : List Loc), q562 ≤ 8 → 8 - q562 < n62 → WT cA ad Fl62 → rFr [69, 70] F Fl62 → va_P D vwCl (rW ad Fl62) Hl62 → va_S (rA ad) s.heap Hl62 lol62 → M = m_X8_sealsOn_L129_62 (m_X8_sealsOn_L2_2 n2) (m_X8_sealsOn_L24_7 (m_X8_sealsOn_L2_2 n2) n7) (m_X8_sealsOn_L44_46 (m_X8_sealsOn_L2_2 n2) (m_X8_sealsOn_L24_7 (m_X8_sealsOn_L2_2 n2) n7) n46) n62 (AB3 ad Fl62) (nI q562) v58 (nI q27) p1 → ∀ (ls : Array Slot), lv_has ls 8 [(5, .int (nI q562)), (3, .long v58), (2, .int (nI q27)), (0, .ref (ad 58)), (1, .int p1)] → W p l e { frames := 3, cells := 0, slots := 0, locals := 78 } s m args below meth c Hl62 lol62 0 0 Q (F0 m 129 ls []) := by
                    intro n62
                    induction n62 with
                    | zero =>
                      intro q562 Fl62 Hl62 lol62 iv62_0 hm62 hWl62 hFl62 hPl62 hSl62 hEl62 ls62 hl62
                      exact absurd hm62 (Nat.not_lt_zero _)
                    | succ n62 ih62 =>
                      intro q562 Fl62 Hl62 lol62 iv62_0 hm62 hWl62 hFl62 hPl62 hSl62 hEl62 ls62 hl62
                      have hE63 : M = m_X8_sealsOn_L129_62_b (m_X8_sealsOn_L2_2 n2) (m_X8_sealsOn_L24_7 (m_X8_sealsOn_L2_2 n2) n7) (m_X8_sealsOn_L44_46 (m_X8_sealsOn_L2_2 n2) (m_X8_sealsOn_L24_7 (m_X8_sealsOn_L2_2 n2) n7) n46) (m_X8_sealsOn_L129_62 (m_X8_sealsOn_L2_2 n2) (m_X8_sealsOn_L24_7 (m_X8_sealsOn_L2_2 n2) n7) (m_X8_sealsOn_L44_46 (m_X8_sealsOn_L2_2 n2) (m_X8_sealsOn_L24_7 (m_X8_sealsOn_L2_2 n2) n7) n46) n62) (AB3 ad Fl62) (nI q562) v58 (nI q27) p1 := hEl62
                      refine lv_iload S.1 S.2.1 dX8_sealsOn_129 (lv_at hl62 0 rfl) ?_
                      refine lv_aload_n S.1 S.2.1 dX8_sealsOn_131 rfl (lv_at hl62 3 rfl) ?_
                      obtain ⟨ty64, kn64, no64, en64, at64, sa64, sd64, wr64, pl64, va64, hF64, hb64_1, hb64_2, hb64_3, hb64_4, hb64_5, hb64_6⟩ := wt_m hWl62
                      refine r_get S hK hPl62 58 (by decide) hF64 (C := RX8) (T := TX8) (N := 23) hiX8 rfl 2 (by decide) (by decide +kernel) (v := .ref (ad 60)) rfl dX8_sealsOn_132 ?_
                      refine lv_iconst (v := (nI 2)) S.1 S.2.1 dX8_sealsOn_135 (by decide +kernel) ?_
                      obtain ⟨g65, hF65, hg65⟩ := wt_I hWl62 (show (60, 52) ∈ rLI by decide)
                      refine r_iald S hK hPl62 60 (by decide) hF65 (vp_in_nI (show 2 < 52 by omega) (by omega)) dX8_sealsOn_136 ?_
                      refine lv_topi (fun v67 e67 => ?_)
                      obtain ⟨b68, hb68, he68⟩ := (pr_T (by decide) (hg65 2 (by decide))).2.1 rfl
                      obtain rfl : v67 = nI b68 := e67.trans he68
                      have m69 : ((AB3 ad Fl62).1 60 (rl (nI 2))) = (nI b68) := (ab_cg rfl rfl).trans ((AB_g hF65).trans e67.symm)
                      refine lv_icmp_ge (tgt := 227) S.1 S.2.1 dX8_sealsOn_137 (by decide) (fun c70 => ?_) (fun c70 => ?_)
                      · skip
                        have k71 := ci_le (nI_toInt (n := b68) (by omega)) (nI_toInt (n := q562) (by omega)) c70
                        have m73 : ((nI q27) + Int32.ofInt (1)) = (nI (q27 + 1)) := (congrArg (fun q : Int32 => q + Int32.ofInt (1)) rfl).trans (nI_add _ 1)
                        refine lv_iinc (v := (nI (q27 + 1))) (lv' := [(2, .int (nI (q27 + 1))), (5, .int (nI q562)), (3, .long v58), (0, .ref (ad 58)), (1, .int p1)]) S.1 S.2.1 dX8_sealsOn_227 hl62 (k := 2) rfl (nI_add _ 1) (by decide) rfl (fun ls72 hl72 => ?_)
                        refine lv_goto (tgt := 24) S.1 S.2.1 dX8_sealsOn_230 (by decide) ?_
                        have hE74 : M = (m_X8_sealsOn_L24_7 (m_X8_sealsOn_L2_2 n2) n7) (AB3 ad Fl62) (nI (q27 + 1)) p1 := hE63.trans ((show m_X8_sealsOn_L129_62_b (m_X8_sealsOn_L2_2 n2) (m_X8_sealsOn_L24_7 (m_X8_sealsOn_L2_2 n2) n7) (m_X8_sealsOn_L44_46 (m_X8_sealsOn_L2_2 n2) (m_X8_sealsOn_L24_7 (m_X8_sealsOn_L2_2 n2) n7) n46) (m_X8_sealsOn_L129_62 (m_X8_sealsOn_L2_2 n2) (m_X8_sealsOn_L24_7 (m_X8_sealsOn_L2_2 n2) n7) (m_X8_sealsOn_L44_46 (m_X8_sealsOn_L2_2 n2) (m_X8_sealsOn_L24_7 (m_X8_sealsOn_L2_2 n2) n7) n46) n62) (AB3 ad Fl62) (nI q562) v58 (nI q27) p1 = (m_X8_sealsOn_L24_7 (m_X8_sealsOn_L2_2 n2) n7) (AB3 ad Fl62) ((nI q27) + Int32.ofInt (1)) p1 from by unfold m_X8_sealsOn_L129_62_b; rw [if_pos (le_cg m69 rfl c70)]).trans (congr (congr (congrArg ((m_X8_sealsOn_L24_7 (m_X8_sealsOn_L2_2 n2) n7)) (rfl : AB3 ad Fl62 = AB3 ad Fl62)) m73) (Eq.refl (p1 : Int32))))
                        exact ih7 (q27 + 1) Fl62 Hl62 lol62 (by omega) (by omega) hWl62 hFl62 hPl62 hSl62 hE74 ls72 (lv_sub hl72 [0, 3, 4] rfl)
                      have k75 := ci_nle (nI_toInt (n := b68) (by omega)) (nI_toInt (n := q562) (by omega)) c70
                      refine lv_lload_n S.1 S.2.1 dX8_sealsOn_140 rfl (lv_at hl62 1 rfl) ?_
                      refine r_cSp (As := [.long v58]) (rest := []) S hK hZ hPl62 hSl62 hl62.1 (c_X8_towns l D cA ad t hI Fl62 hWl62 v58) (va_cwS 1 S.2.2.2.2 gX8_sealsOn_X8_towns rfl rfl rfl (by decide +kernel) ⟨Nat.le_of_ble_eq_true rfl, Nat.le_of_ble_eq_true rfl⟩) rfl rfl (Nat.le_of_ble_eq_true rfl) ⟨Nat.zero_le _, Nat.zero_le _⟩ dX8_sealsOn_141 (fun r76 hr76 => ?_)
                      obtain ⟨hr76, hm76⟩ := hr76
                      have m77 : (m_X8_towns (AB3 ad Fl62).1 v58) = r76 := (congr (Eq.refl (m_X8_towns (AB ad Fl62))) (Eq.refl (v58 : Int64))).trans hm76
                      refine lv_iload S.1 S.2.1 dX8_sealsOn_144 (lv_at hl62 0 rfl) ?_
                      refine lv_ishr S.1 S.2.1 dX8_sealsOn_146 ?_
                      refine lv_topi (fun v78 e78 => ?_)
                      have m79 : ((m_X8_towns (AB3 ad Fl62).1 v58) >>> ((nI q562) &&& 31)) = v78 := cg2 (fun (x : Int32) (y : Int32) => x >>> (y &&& 31)) m77 (Eq.refl ((nI q562) : Int32)) e78
                      refine lv_iconst (v := (nI 1)) S.1 S.2.1 dX8_sealsOn_147 (by decide +kernel) ?_
                      refine lv_iand S.1 S.2.1 dX8_sealsOn_148 ?_
                      refine lv_topi (fun v80 e80 => ?_)
                      have m81 : (((m_X8_towns (AB3 ad Fl62).1 v58) >>> ((nI q562) &&& 31)) &&& (nI 1)) = v80 := cg2 (fun (x : Int32) (y : Int32) => x &&& y) m79 (Eq.refl ((nI 1) : Int32)) e80
                      refine lv_iconst (v := (nI 1)) S.1 S.2.1 dX8_sealsOn_149 (by decide +kernel) ?_
                      refine lv_icmp_ne (tgt := 168) S.1 S.2.1 dX8_sealsOn_150 (by decide) (fun c82 => ?_) (fun c82 => ?_)
                      · skip
                        have k83 := ci_ne rfl (nI_toInt (n := 1) (by omega)) c82
                        refine lv_iconst (v := (nI 0)) S.1 S.2.1 dX8_sealsOn_168 (by decide +kernel) ?_
                        refine lv_istore (lv' := [(6, .int (nI 0)), (5, .int (nI q562)), (3, .long v58), (2, .int (nI q27)), (0, .ref (ad 58)), (1, .int p1)]) S.1 S.2.1 dX8_sealsOn_169 hl62 (by decide) rfl (fun ls84 hl84 => ?_)
                        refine lv_iconst (v := (nI 0)) S.1 S.2.1 dX8_sealsOn_171 (by decide +kernel) ?_
                        refine lv_istore (lv' := [(7, .int (nI 0)), (6, .int (nI 0)), (5, .int (nI q562)), (3, .long v58), (2, .int (nI q27)), (0, .ref (ad 58)), (1, .int p1)]) S.1 S.2.1 dX8_sealsOn_172 hl84 (by decide) rfl (fun ls85 hl85 => ?_)
                        have lp86 : ∀ (n86 : Nat) (q786 : Nat), ∀ (Fl86 : Nat → va_E) (Hl86 : Heap) (lol86 : List Loc), q786 ≤ 8 → 8 - q786 < n86 → WT cA ad Fl86 → rFr [69, 70] F Fl86 → va_P D vwCl (rW ad Fl86) Hl86 → va_S (rA ad) s.heap Hl86 lol86 → M = m_X8_sealsOn_L174_86 (m_X8_sealsOn_L2_2 n2) (m_X8_sealsOn_L24_7 (m_X8_sealsOn_L2_2 n2) n7) (m_X8_sealsOn_L44_46 (m_X8_sealsOn_L2_2 n2) (m_X8_sealsOn_L24_7 (m_X8_sealsOn_L2_2 n2) n7) n46) (m_X8_sealsOn_L129_62 (m_X8_sealsOn_L2_2 n2) (m_X8_sealsOn_L24_7 (m_X8_sealsOn_L2_2 n2) n7) (m_X8_sealsOn_L44_46 (m_X8_sealsOn_L2_2 n2) (m_X8_sealsOn_L24_7 (m_X8_sealsOn_L2_2 n2) n7) n46) n62) n86 (AB3 ad Fl86) (nI q786) (nI q562) v58 (nI q27) p1 → ∀ (ls : Array Slot), lv_has ls 8 [(7, .int (nI q786)), (6, .int (nI 0)), (5, .int (nI q562)), (3, .long v58), (2, .int (nI q27)), (0, .ref (ad 58)), (1, .int p1)] → W p l e { frames := 3, cells := 0, slots := 0, locals := 78 } s m args below meth c Hl86 lol86 0 0 Q (F0 m 174 ls []) := by
                          intro n86
                          induction n86 with
                          | zero =>
                            intro q786 Fl86 Hl86 lol86 iv86_0 hm86 hWl86 hFl86 hPl86 hSl86 hEl86 ls86 hl86
                            exact absurd hm86 (Nat.not_lt_zero _)
                          | succ n86 ih86 =>
                            intro q786 Fl86 Hl86 lol86 iv86_0 hm86 hWl86 hFl86 hPl86 hSl86 hEl86 ls86 hl86
                            have hE87 : M = m_X8_sealsOn_L174_86_b (m_X8_sealsOn_L2_2 n2) (m_X8_sealsOn_L24_7 (m_X8_sealsOn_L2_2 n2) n7) (m_X8_sealsOn_L44_46 (m_X8_sealsOn_L2_2 n2) (m_X8_sealsOn_L24_7 (m_X8_sealsOn_L2_2 n2) n7) n46) (m_X8_sealsOn_L129_62 (m_X8_sealsOn_L2_2 n2) (m_X8_sealsOn_L24_7 (m_X8_sealsOn_L2_2 n2) n7) (m_X8_sealsOn_L44_46 (m_X8_sealsOn_L2_2 n2) (m_X8_sealsOn_L24_7 (m_X8_sealsOn_L2_2 n2) n7) n46) n62) (m_X8_sealsOn_L174_86 (m_X8_sealsOn_L2_2 n2) (m_X8_sealsOn_L24_7 (m_X8_sealsOn_L2_2 n2) n7) (m_X8_sealsOn_L44_46 (m_X8_sealsOn_L2_2 n2) (m_X8_sealsOn_L24_7 (m_X8_sealsOn_L2_2 n2) n7) n46) (m_X8_sealsOn_L129_62 (m_X8_sealsOn_L2_2 n2) (m_X8_sealsOn_L24_7 (m_X8_sealsOn_L2_2 n2) n7) (m_X8_sealsOn_L44_46 (m_X8_sealsOn_L2_2 n2) (m_X8_sealsOn_L24_7 (m_X8_sealsOn_L2_2 n2) n7) n46) n62) n86) (AB3 ad Fl86) (nI q786) (nI q562) v58 (nI q27) p1 := hEl86
                            refine lv_iload S.1 S.2.1 dX8_sealsOn_174 (lv_at hl86 0 rfl) ?_
                            refine lv_aload_n S.1 S.2.1 dX8_sealsOn_176 rfl (lv_at hl86 5 rfl) ?_
                            obtain ⟨ty88, kn88, no88, en88, at88, sa88, sd88, wr88, pl88, va88, hF88, hb88_1, hb88_2, hb88_3, hb88_4, hb88_5, hb88_6⟩ := wt_m hWl86
                            refine r_get S hK hPl86 58 (by decide) hF88 (C := RX8) (T := TX8) (N := 23) hiX8 rfl 2 (by decide) (by decide +kernel) (v := .ref (ad 60)) rfl dX8_sealsOn_177 ?_
                            refine lv_iconst (v := (nI 2)) S.1 S.2.1 dX8_sealsOn_180 (by decide +kernel) ?_
                            obtain ⟨g89, hF89, hg89⟩ := wt_I hWl86 (show (60, 52) ∈ rLI by decide)
                            refine r_iald S hK hPl86 60 (by decide) hF89 (vp_in_nI (show 2 < 52 by omega) (by omega)) dX8_sealsOn_181 ?_
                            refine lv_topi (fun v91 e91 => ?_)
                            obtain ⟨b92, hb92, he92⟩ := (pr_T (by decide) (hg89 2 (by decide))).2.1 rfl
                            obtain rfl : v91 = nI b92 := e91.trans he92
                            have m93 : ((AB3 ad Fl86).1 60 (rl (nI 2))) = (nI b92) := (ab_cg rfl rfl).trans ((AB_g hF89).trans e91.symm)
                            refine lv_icmp_ge (tgt := 221) S.1 S.2.1 dX8_sealsOn_182 (by decide) (fun c94 => ?_) (fun c94 => ?_)
                            · skip
                              have k95 := ci_le (nI_toInt (n := b92) (by omega)) (nI_toInt (n := q786) (by omega)) c94
                              have m97 : ((nI q562) + Int32.ofInt (1)) = (nI (q562 + 1)) := (congrArg (fun q : Int32 => q + Int32.ofInt (1)) rfl).trans (nI_add _ 1)
                              refine lv_iinc (v := (nI (q562 + 1))) (lv' := [(5, .int (nI (q562 + 1))), (7, .int (nI q786)), (6, .int (nI 0)), (3, .long v58), (2, .int (nI q27)), (0, .ref (ad 58)), (1, .int p1)]) S.1 S.2.1 dX8_sealsOn_221 hl86 (k := 2) rfl (nI_add _ 1) (by decide) rfl (fun ls96 hl96 => ?_)
                              refine lv_goto (tgt := 129) S.1 S.2.1 dX8_sealsOn_224 (by decide) ?_
                              have hE98 : M = (m_X8_sealsOn_L129_62 (m_X8_sealsOn_L2_2 n2) (m_X8_sealsOn_L24_7 (m_X8_sealsOn_L2_2 n2) n7) (m_X8_sealsOn_L44_46 (m_X8_sealsOn_L2_2 n2) (m_X8_sealsOn_L24_7 (m_X8_sealsOn_L2_2 n2) n7) n46) n62) (AB3 ad Fl86) (nI (q562 + 1)) v58 (nI q27) p1 := hE87.trans ((show m_X8_sealsOn_L174_86_b (m_X8_sealsOn_L2_2 n2) (m_X8_sealsOn_L24_7 (m_X8_sealsOn_L2_2 n2) n7) (m_X8_sealsOn_L44_46 (m_X8_sealsOn_L2_2 n2) (m_X8_sealsOn_L24_7 (m_X8_sealsOn_L2_2 n2) n7) n46) (m_X8_sealsOn_L129_62 (m_X8_sealsOn_L2_2 n2) (m_X8_sealsOn_L24_7 (m_X8_sealsOn_L2_2 n2) n7) (m_X8_sealsOn_L44_46 (m_X8_sealsOn_L2_2 n2) (m_X8_sealsOn_L24_7 (m_X8_sealsOn_L2_2 n2) n7) n46) n62) (m_X8_sealsOn_L174_86 (m_X8_sealsOn_L2_2 n2) (m_X8_sealsOn_L24_7 (m_X8_sealsOn_L2_2 n2) n7) (m_X8_sealsOn_L44_46 (m_X8_sealsOn_L2_2 n2) (m_X8_sealsOn_L24_7 (m_X8_sealsOn_L2_2 n2) n7) n46) (m_X8_sealsOn_L129_62 (m_X8_sealsOn_L2_2 n2) (m_X8_sealsOn_L24_7 (m_X8_sealsOn_L2_2 n2) n7) (m_X8_sealsOn_L44_46 (m_X8_sealsOn_L2_2 n2) (m_X8_sealsOn_L24_7 (m_X8_sealsOn_L2_2 n2) n7) n46) n62) n86) (AB3 ad Fl86) (nI q786) (nI q562) v58 (nI q27) p1 = (m_X8_sealsOn_L129_62 (m_X8_sealsOn_L2_2 n2) (m_X8_sealsOn_L24_7 (m_X8_sealsOn_L2_2 n2) n7) (m_X8_sealsOn_L44_46 (m_X8_sealsOn_L2_2 n2) (m_X8_sealsOn_L24_7 (m_X8_sealsOn_L2_2 n2) n7) n46) n62) (AB3 ad Fl86) ((nI q562) + Int32.ofInt (1)) v58 (nI q27) p1 from by unfold m_X8_sealsOn_L174_86_b; rw [if_pos (le_cg m93 rfl c94)]).trans (congr (congr (congr (congr (congrArg ((m_X8_sealsOn_L129_62 (m_X8_sealsOn_L2_2 n2) (m_X8_sealsOn_L24_7 (m_X8_sealsOn_L2_2 n2) n7) (m_X8_sealsOn_L44_46 (m_X8_sealsOn_L2_2 n2) (m_X8_sealsOn_L24_7 (m_X8_sealsOn_L2_2 n2) n7) n46) n62)) (rfl : AB3 ad Fl86 = AB3 ad Fl86)) m97) (Eq.refl (v58 : Int64))) (Eq.refl ((nI q27) : Int32))) (Eq.refl (p1 : Int32))))
                              exact ih62 (q562 + 1) Fl86 Hl86 lol86 (by omega) (by omega) hWl86 hFl86 hPl86 hSl86 hE98 ls96 (lv_sub hl96 [0, 3, 4, 5, 6] rfl)
                            have k99 := ci_nle (nI_toInt (n := b92) (by omega)) (nI_toInt (n := q786) (by omega)) c94
                            refine lv_aload_n S.1 S.2.1 dX8_sealsOn_185 rfl (lv_at hl86 5 rfl) ?_
                            refine r_get S hK hPl86 58 (by decide) hF88 (C := RX8) (T := TX8) (N := 23) hiX8 rfl 21 (by decide) (by decide +kernel) (v := .ref (ad 70)) rfl dX8_sealsOn_186 ?_
                            refine lv_iload_n S.1 S.2.1 dX8_sealsOn_189 rfl (lv_at hl86 4 rfl) ?_
                            refine lv_dup2_11 S.1 S.2.1 dX8_sealsOn_190 rfl rfl ?_
                            obtain ⟨g100, hF100⟩ := wt_L hWl86 (show (70, 256) ∈ rLL by decide)
                            refine r_lald S hK hPl86 70 (by decide) hF100 (vp_in_nI (show q27 < 256 by omega) (by omega)) dX8_sealsOn_191 ?_
                            refine lv_topl (fun v102 e102 => ?_)
                            have m103 : (((AB3 ad Fl86)).2 70 (rl (nI q27))) = v102 := (al_cg (Eq.refl 70) (Eq.refl ((nI q27) : Int32))).trans ((AM_g hF100).trans e102.symm)
                            refine lv_iload S.1 S.2.1 dX8_sealsOn_192 (lv_at hl86 1 rfl) ?_
                            refine lv_iload S.1 S.2.1 dX8_sealsOn_194 (lv_at hl86 0 rfl) ?_
                            refine lv_ishr S.1 S.2.1 dX8_sealsOn_196 ?_
                            refine lv_topi (fun v104 e104 => ?_)
                            have m105 : ((nI 0) >>> ((nI q786) &&& 31)) = v104 := cg2 (fun (x : Int32) (y : Int32) => x >>> (y &&& 31)) (Eq.refl ((nI 0) : Int32)) (Eq.refl ((nI q786) : Int32)) e104
                            refine lv_iconst (v := (nI 1)) S.1 S.2.1 dX8_sealsOn_197 (by decide +kernel) ?_
                            refine lv_iand S.1 S.2.1 dX8_sealsOn_198 ?_
                            refine lv_topi (fun v106 e106 => ?_)
                            have m107 : (((nI 0) >>> ((nI q786) &&& 31)) &&& (nI 1)) = v106 := cg2 (fun (x : Int32) (y : Int32) => x &&& y) m105 (Eq.refl ((nI 1) : Int32)) e106
                            refine lv_iconst (v := (nI 1)) S.1 S.2.1 dX8_sealsOn_199 (by decide +kernel) ?_
                            refine lv_icmp_ne (tgt := 212) S.1 S.2.1 dX8_sealsOn_200 (by decide) (fun c108 => ?_) (fun c108 => ?_)
                            · skip
                              have k109 := ci_ne rfl (nI_toInt (n := 1) (by omega)) c108
                              refine lv_lconst (v := 0) S.1 S.2.1 dX8_sealsOn_212 (by decide +kernel) ?_
                              refine lv_lor S.1 S.2.1 dX8_sealsOn_213 ?_
                              refine lv_topl (fun v110 e110 => ?_)
                              have m111 : ((((AB3 ad Fl86)).2 70 (rl (nI q27))) ||| (0 : Int64)) = v110 := cg2 (fun (x : Int64) (y : Int64) => x ||| y) m103 (Eq.refl (0 : Int64)) e110
                              refine r_last S hI hK hPl86 hSl86 70 (by decide) hF100 (vp_in_nI (show q27 < 256 by omega) (by omega)) dX8_sealsOn_214 (fun F112 H112 locs112 eF112 hP112 hS112 => ?_)
                              have hW112 := hWl86.up eF112 (ok_L (show (70, 256) ∈ rLL by decide) ⟨_, rfl⟩)
                              have hFr112 := hFl86.up eF112 (by simp <;> first | omega | (simp only [isC, isJ] at *; omega))
                              have hE114 : M = m_X8_sealsOn_113 (m_X8_sealsOn_L2_2 n2) (m_X8_sealsOn_L24_7 (m_X8_sealsOn_L2_2 n2) n7) (m_X8_sealsOn_L44_46 (m_X8_sealsOn_L2_2 n2) (m_X8_sealsOn_L24_7 (m_X8_sealsOn_L2_2 n2) n7) n46) (m_X8_sealsOn_L129_62 (m_X8_sealsOn_L2_2 n2) (m_X8_sealsOn_L24_7 (m_X8_sealsOn_L2_2 n2) n7) (m_X8_sealsOn_L44_46 (m_X8_sealsOn_L2_2 n2) (m_X8_sealsOn_L24_7 (m_X8_sealsOn_L2_2 n2) n7) n46) n62) (m_X8_sealsOn_L174_86 (m_X8_sealsOn_L2_2 n2) (m_X8_sealsOn_L24_7 (m_X8_sealsOn_L2_2 n2) n7) (m_X8_sealsOn_L44_46 (m_X8_sealsOn_L2_2 n2) (m_X8_sealsOn_L24_7 (m_X8_sealsOn_L2_2 n2) n7) n46) (m_X8_sealsOn_L129_62 (m_X8_sealsOn_L2_2 n2) (m_X8_sealsOn_L24_7 (m_X8_sealsOn_L2_2 n2) n7) (m_X8_sealsOn_L44_46 (m_X8_sealsOn_L2_2 n2) (m_X8_sealsOn_L24_7 (m_X8_sealsOn_L2_2 n2) n7) n46) n62) n86) (AB3 ad F112) (nI q786) (nI q562) v58 (nI q27) p1 := hE87.trans ((show m_X8_sealsOn_L174_86_b (m_X8_sealsOn_L2_2 n2) (m_X8_sealsOn_L24_7 (m_X8_sealsOn_L2_2 n2) n7) (m_X8_sealsOn_L44_46 (m_X8_sealsOn_L2_2 n2) (m_X8_sealsOn_L24_7 (m_X8_sealsOn_L2_2 n2) n7) n46) (m_X8_sealsOn_L129_62 (m_X8_sealsOn_L2_2 n2) (m_X8_sealsOn_L24_7 (m_X8_sealsOn_L2_2 n2) n7) (m_X8_sealsOn_L44_46 (m_X8_sealsOn_L2_2 n2) (m_X8_sealsOn_L24_7 (m_X8_sealsOn_L2_2 n2) n7) n46) n62) (m_X8_sealsOn_L174_86 (m_X8_sealsOn_L2_2 n2) (m_X8_sealsOn_L24_7 (m_X8_sealsOn_L2_2 n2) n7) (m_X8_sealsOn_L44_46 (m_X8_sealsOn_L2_2 n2) (m_X8_sealsOn_L24_7 (m_X8_sealsOn_L2_2 n2) n7) n46) (m_X8_sealsOn_L129_62 (m_X8_sealsOn_L2_2 n2) (m_X8_sealsOn_L24_7 (m_X8_sealsOn_L2_2 n2) n7) (m_X8_sealsOn_L44_46 (m_X8_sealsOn_L2_2 n2) (m_X8_sealsOn_L24_7 (m_X8_sealsOn_L2_2 n2) n7) n46) n62) n86) (AB3 ad Fl86) (nI q786) (nI q562) v58 (nI q27) p1 = m_X8_sealsOn_113 (m_X8_sealsOn_L2_2 n2) (m_X8_sealsOn_L24_7 (m_X8_sealsOn_L2_2 n2) n7) (m_X8_sealsOn_L44_46 (m_X8_sealsOn_L2_2 n2) (m_X8_sealsOn_L24_7 (m_X8_sealsOn_L2_2 n2) n7) n46) (m_X8_sealsOn_L129_62 (m_X8_sealsOn_L2_2 n2) (m_X8_sealsOn_L24_7 (m_X8_sealsOn_L2_2 n2) n7) (m_X8_sealsOn_L44_46 (m_X8_sealsOn_L2_2 n2) (m_X8_sealsOn_L24_7 (m_X8_sealsOn_L2_2 n2) n7) n46) n62) (m_X8_sealsOn_L174_86 (m_X8_sealsOn_L2_2 n2) (m_X8_sealsOn_L24_7 (m_X8_sealsOn_L2_2 n2) n7) (m_X8_sealsOn_L44_46 (m_X8_sealsOn_L2_2 n2) (m_X8_sealsOn_L24_7 (m_X8_sealsOn_L2_2 n2) n7) n46) (m_X8_sealsOn_L129_62 (m_X8_sealsOn_L2_2 n2) (m_X8_sealsOn_L24_7 (m_X8_sealsOn_L2_2 n2) n7) (m_X8_sealsOn_L44_46 (m_X8_sealsOn_L2_2 n2) (m_X8_sealsOn_L24_7 (m_X8_sealsOn_L2_2 n2) n7) n46) n62) n86) ((AB3 ad Fl86).1, stL ((AB3 ad Fl86)).2 70 (rl (nI q27)) ((((AB3 ad Fl86)).2 70 (rl (nI q27))) ||| (0 : Int64))) (nI q786) (nI q562) v58 (nI q27) p1 from by unfold m_X8_sealsOn_L174_86_b; rw [if_neg (nle_cg m93 rfl c94), if_neg (neq_cg m107 rfl c108)]).trans (congr (congr (congr (congr (congr (congrArg (m_X8_sealsOn_113 (m_X8_sealsOn_L2_2 n2) (m_X8_sealsOn_L24_7 (m_X8_sealsOn_L2_2 n2) n7) (m_X8_sealsOn_L44_46 (m_X8_sealsOn_L2_2 n2) (m_X8_sealsOn_L24_7 (m_X8_sealsOn_L2_2 n2) n7) n46) (m_X8_sealsOn_L129_62 (m_X8_sealsOn_L2_2 n2) (m_X8_sealsOn_L24_7 (m_X8_sealsOn_L2_2 n2) n7) (m_X8_sealsOn_L44_46 (m_X8_sealsOn_L2_2 n2) (m_X8_sealsOn_L24_7 (m_X8_sealsOn_L2_2 n2) n7) n46) n62) (m_X8_sealsOn_L174_86 (m_X8_sealsOn_L2_2 n2) (m_X8_sealsOn_L24_7 (m_X8_sealsOn_L2_2 n2) n7) (m_X8_sealsOn_L44_46 (m_X8_sealsOn_L2_2 n2) (m_X8_sealsOn_L24_7 (m_X8_sealsOn_L2_2 n2) n7) n46) (m_X8_sealsOn_L129_62 (m_X8_sealsOn_L2_2 n2) (m_X8_sealsOn_L24_7 (m_X8_sealsOn_L2_2 n2) n7) (m_X8_sealsOn_L44_46 (m_X8_sealsOn_L2_2 n2) (m_X8_sealsOn_L24_7 (m_X8_sealsOn_L2_2 n2) n7) n46) n62) n86)) (AM_cg (Eq.refl 70) (Eq.refl ((nI q27) : Int32)) m111 (AM_ast hF100 eF112))) (Eq.refl ((nI q786) : Int32))) (Eq.refl ((nI q562) : Int32))) (Eq.refl (v58 : Int64))) (Eq.refl ((nI q27) : Int32))) (Eq.refl (p1 : Int32))))
                              have m116 : ((nI q786) + Int32.ofInt (1)) = (nI (q786 + 1)) := (congrArg (fun q : Int32 => q + Int32.ofInt (1)) rfl).trans (nI_add _ 1)
                              refine lv_iinc (v := (nI (q786 + 1))) (lv' := [(7, .int (nI (q786 + 1))), (6, .int (nI 0)), (5, .int (nI q562)), (3, .long v58), (2, .int (nI q27)), (0, .ref (ad 58)), (1, .int p1)]) S.1 S.2.1 dX8_sealsOn_215 hl86 (k := 0) rfl (nI_add _ 1) (by decide) rfl (fun ls115 hl115 => ?_)
                              refine lv_goto (tgt := 174) S.1 S.2.1 dX8_sealsOn_218 (by decide) ?_
                              have hE117 : M = (m_X8_sealsOn_L174_86 (m_X8_sealsOn_L2_2 n2) (m_X8_sealsOn_L24_7 (m_X8_sealsOn_L2_2 n2) n7) (m_X8_sealsOn_L44_46 (m_X8_sealsOn_L2_2 n2) (m_X8_sealsOn_L24_7 (m_X8_sealsOn_L2_2 n2) n7) n46) (m_X8_sealsOn_L129_62 (m_X8_sealsOn_L2_2 n2) (m_X8_sealsOn_L24_7 (m_X8_sealsOn_L2_2 n2) n7) (m_X8_sealsOn_L44_46 (m_X8_sealsOn_L2_2 n2) (m_X8_sealsOn_L24_7 (m_X8_sealsOn_L2_2 n2) n7) n46) n62) n86) (AB3 ad F112) (nI (q786 + 1)) (nI q562) v58 (nI q27) p1 := hE114.trans ((show m_X8_sealsOn_113 (m_X8_sealsOn_L2_2 n2) (m_X8_sealsOn_L24_7 (m_X8_sealsOn_L2_2 n2) n7) (m_X8_sealsOn_L44_46 (m_X8_sealsOn_L2_2 n2) (m_X8_sealsOn_L24_7 (m_X8_sealsOn_L2_2 n2) n7) n46) (m_X8_sealsOn_L129_62 (m_X8_sealsOn_L2_2 n2) (m_X8_sealsOn_L24_7 (m_X8_sealsOn_L2_2 n2) n7) (m_X8_sealsOn_L44_46 (m_X8_sealsOn_L2_2 n2) (m_X8_sealsOn_L24_7 (m_X8_sealsOn_L2_2 n2) n7) n46) n62) (m_X8_sealsOn_L174_86 (m_X8_sealsOn_L2_2 n2) (m_X8_sealsOn_L24_7 (m_X8_sealsOn_L2_2 n2) n7) (m_X8_sealsOn_L44_46 (m_X8_sealsOn_L2_2 n2) (m_X8_sealsOn_L24_7 (m_X8_sealsOn_L2_2 n2) n7) n46) (m_X8_sealsOn_L129_62 (m_X8_sealsOn_L2_2 n2) (m_X8_sealsOn_L24_7 (m_X8_sealsOn_L2_2 n2) n7) (m_X8_sealsOn_L44_46 (m_X8_sealsOn_L2_2 n2) (m_X8_sealsOn_L24_7 (m_X8_sealsOn_L2_2 n2) n7) n46) n62) n86) (AB3 ad F112) (nI q786) (nI q562) v58 (nI q27) p1 = (m_X8_sealsOn_L174_86 (m_X8_sealsOn_L2_2 n2) (m_X8_sealsOn_L24_7 (m_X8_sealsOn_L2_2 n2) n7) (m_X8_sealsOn_L44_46 (m_X8_sealsOn_L2_2 n2) (m_X8_sealsOn_L24_7 (m_X8_sealsOn_L2_2 n2) n7) n46) (m_X8_sealsOn_L129_62 (m_X8_sealsOn_L2_2 n2) (m_X8_sealsOn_L24_7 (m_X8_sealsOn_L2_2 n2) n7) (m_X8_sealsOn_L44_46 (m_X8_sealsOn_L2_2 n2) (m_X8_sealsOn_L24_7 (m_X8_sealsOn_L2_2 n2) n7) n46) n62) n86) (AB3 ad F112) ((nI q786) + Int32.ofInt (1)) (nI q562) v58 (nI q27) p1 from rfl).trans (congr (congr (congr (congr (congr (congrArg ((m_X8_sealsOn_L174_86 (m_X8_sealsOn_L2_2 n2) (m_X8_sealsOn_L24_7 (m_X8_sealsOn_L2_2 n2) n7) (m_X8_sealsOn_L44_46 (m_X8_sealsOn_L2_2 n2) (m_X8_sealsOn_L24_7 (m_X8_sealsOn_L2_2 n2) n7) n46) (m_X8_sealsOn_L129_62 (m_X8_sealsOn_L2_2 n2) (m_X8_sealsOn_L24_7 (m_X8_sealsOn_L2_2 n2) n7) (m_X8_sealsOn_L44_46 (m_X8_sealsOn_L2_2 n2) (m_X8_sealsOn_L24_7 (m_X8_sealsOn_L2_2 n2) n7) n46) n62) n86)) (rfl : AB3 ad F112 = AB3 ad F112)) m116) (Eq.refl ((nI q562) : Int32))) (Eq.refl (v58 : Int64))) (Eq.refl ((nI q27) : Int32))) (Eq.refl (p1 : Int32))))
                              exact ih86 (q786 + 1) F112 H112 locs112 (by omega) (by omega) hW112 hFr112 hP112 hS112 hE117 ls115 (lv_sub hl115 [0, 1, 2, 3, 4, 5, 6] rfl)
                            have k118 := ci_eq rfl (nI_toInt (n := 1) (by omega)) c108
                            refine lv_iload S.1 S.2.1 dX8_sealsOn_203 (lv_at hl86 0 rfl) ?_
                            refine lv_iconst (v := (nI 0)) S.1 S.2.1 dX8_sealsOn_205 (by decide +kernel) ?_
                            refine r_cSl (As := [.int (nI q786), .int (nI 0)]) (rest := [.long v102, .int (nI q27), .ref (ad 70)]) S hK hZ hPl86 hSl86 hl86.1 (c_X8_bit l D cA ad t hI Fl86 hWl86 (nI q786) (nI 0)) (va_cwS 2 S.2.2.2.2 gX8_sealsOn_X8_bit rfl rfl rfl (by decide +kernel) ⟨Nat.le_of_ble_eq_true rfl, Nat.le_of_ble_eq_true rfl⟩) rfl rfl (Nat.le_of_ble_eq_true rfl) ⟨Nat.zero_le _, Nat.zero_le _⟩ dX8_sealsOn_206 (fun r119 hr119 => ?_)
                            obtain ⟨hr119, hm119⟩ := hr119
                            have m120 : (m_X8_bit (AB3 ad Fl86).1 (nI q786) (nI 0)) = r119 := (congr (congr (Eq.refl (m_X8_bit (AB ad Fl86))) (Eq.refl ((nI q786) : Int32))) (Eq.refl ((nI 0) : Int32))).trans hm119
                            refine lv_goto (tgt := 213) S.1 S.2.1 dX8_sealsOn_209 (by decide) ?_
                            refine lv_lor S.1 S.2.1 dX8_sealsOn_213 ?_
                            refine lv_topl (fun v121 e121 => ?_)
                            have m122 : ((((AB3 ad Fl86)).2 70 (rl (nI q27))) ||| (m_X8_bit (AB3 ad Fl86).1 (nI q786) (nI 0))) = v121 := cg2 (fun (x : Int64) (y : Int64) => x ||| y) m103 m120 e121
                            refine r_last S hI hK hPl86 hSl86 70 (by decide) hF100 (vp_in_nI (show q27 < 256 by omega) (by omega)) dX8_sealsOn_214 (fun F123 H123 locs123 eF123 hP123 hS123 => ?_)
                            have hW123 := hWl86.up eF123 (ok_L (show (70, 256) ∈ rLL by decide) ⟨_, rfl⟩)
                            have hFr123 := hFl86.up eF123 (by simp <;> first | omega | (simp only [isC, isJ] at *; omega))
                            have hE125 : M = m_X8_sealsOn_124 (m_X8_sealsOn_L2_2 n2) (m_X8_sealsOn_L24_7 (m_X8_sealsOn_L2_2 n2) n7) (m_X8_sealsOn_L44_46 (m_X8_sealsOn_L2_2 n2) (m_X8_sealsOn_L24_7 (m_X8_sealsOn_L2_2 n2) n7) n46) (m_X8_sealsOn_L129_62 (m_X8_sealsOn_L2_2 n2) (m_X8_sealsOn_L24_7 (m_X8_sealsOn_L2_2 n2) n7) (m_X8_sealsOn_L44_46 (m_X8_sealsOn_L2_2 n2) (m_X8_sealsOn_L24_7 (m_X8_sealsOn_L2_2 n2) n7) n46) n62) (m_X8_sealsOn_L174_86 (m_X8_sealsOn_L2_2 n2) (m_X8_sealsOn_L24_7 (m_X8_sealsOn_L2_2 n2) n7) (m_X8_sealsOn_L44_46 (m_X8_sealsOn_L2_2 n2) (m_X8_sealsOn_L24_7 (m_X8_sealsOn_L2_2 n2) n7) n46) (m_X8_sealsOn_L129_62 (m_X8_sealsOn_L2_2 n2) (m_X8_sealsOn_L24_7 (m_X8_sealsOn_L2_2 n2) n7) (m_X8_sealsOn_L44_46 (m_X8_sealsOn_L2_2 n2) (m_X8_sealsOn_L24_7 (m_X8_sealsOn_L2_2 n2) n7) n46) n62) n86) (AB3 ad F123) (nI q786) (nI q562) v58 (nI q27) p1 := hE87.trans ((show m_X8_sealsOn_L174_86_b (m_X8_sealsOn_L2_2 n2) (m_X8_sealsOn_L24_7 (m_X8_sealsOn_L2_2 n2) n7) (m_X8_sealsOn_L44_46 (m_X8_sealsOn_L2_2 n2) (m_X8_sealsOn_L24_7 (m_X8_sealsOn_L2_2 n2) n7) n46) (m_X8_sealsOn_L129_62 (m_X8_sealsOn_L2_2 n2) (m_X8_sealsOn_L24_7 (m_X8_sealsOn_L2_2 n2) n7) (m_X8_sealsOn_L44_46 (m_X8_sealsOn_L2_2 n2) (m_X8_sealsOn_L24_7 (m_X8_sealsOn_L2_2 n2) n7) n46) n62) (m_X8_sealsOn_L174_86 (m_X8_sealsOn_L2_2 n2) (m_X8_sealsOn_L24_7 (m_X8_sealsOn_L2_2 n2) n7) (m_X8_sealsOn_L44_46 (m_X8_sealsOn_L2_2 n2) (m_X8_sealsOn_L24_7 (m_X8_sealsOn_L2_2 n2) n7) n46) (m_X8_sealsOn_L129_62 (m_X8_sealsOn_L2_2 n2) (m_X8_sealsOn_L24_7 (m_X8_sealsOn_L2_2 n2) n7) (m_X8_sealsOn_L44_46 (m_X8_sealsOn_L2_2 n2) (m_X8_sealsOn_L24_7 (m_X8_sealsOn_L2_2 n2) n7) n46) n62) n86) (AB3 ad Fl86) (nI q786) (nI q562) v58 (nI q27) p1 = m_X8_sealsOn_124 (m_X8_sealsOn_L2_2 n2) (m_X8_sealsOn_L24_7 (m_X8_sealsOn_L2_2 n2) n7) (m_X8_sealsOn_L44_46 (m_X8_sealsOn_L2_2 n2) (m_X8_sealsOn_L24_7 (m_X8_sealsOn_L2_2 n2) n7) n46) (m_X8_sealsOn_L129_62 (m_X8_sealsOn_L2_2 n2) (m_X8_sealsOn_L24_7 (m_X8_sealsOn_L2_2 n2) n7) (m_X8_sealsOn_L44_46 (m_X8_sealsOn_L2_2 n2) (m_X8_sealsOn_L24_7 (m_X8_sealsOn_L2_2 n2) n7) n46) n62) (m_X8_sealsOn_L174_86 (m_X8_sealsOn_L2_2 n2) (m_X8_sealsOn_L24_7 (m_X8_sealsOn_L2_2 n2) n7) (m_X8_sealsOn_L44_46 (m_X8_sealsOn_L2_2 n2) (m_X8_sealsOn_L24_7 (m_X8_sealsOn_L2_2 n2) n7) n46) (m_X8_sealsOn_L129_62 (m_X8_sealsOn_L2_2 n2) (m_X8_sealsOn_L24_7 (m_X8_sealsOn_L2_2 n2) n7) (m_X8_sealsOn_L44_46 (m_X8_sealsOn_L2_2 n2) (m_X8_sealsOn_L24_7 (m_X8_sealsOn_L2_2 n2) n7) n46) n62) n86) ((AB3 ad Fl86).1, stL ((AB3 ad Fl86)).2 70 (rl (nI q27)) ((((AB3 ad Fl86)).2 70 (rl (nI q27))) ||| (m_X8_bit (AB3 ad Fl86).1 (nI q786) (nI 0)))) (nI q786) (nI q562) v58 (nI q27) p1 from by unfold m_X8_sealsOn_L174_86_b; rw [if_neg (nle_cg m93 rfl c94), if_pos (eq_cg m107 rfl c108)]).trans (congr (congr (congr (congr (congr (congrArg (m_X8_sealsOn_124 (m_X8_sealsOn_L2_2 n2) (m_X8_sealsOn_L24_7 (m_X8_sealsOn_L2_2 n2) n7) (m_X8_sealsOn_L44_46 (m_X8_sealsOn_L2_2 n2) (m_X8_sealsOn_L24_7 (m_X8_sealsOn_L2_2 n2) n7) n46) (m_X8_sealsOn_L129_62 (m_X8_sealsOn_L2_2 n2) (m_X8_sealsOn_L24_7 (m_X8_sealsOn_L2_2 n2) n7) (m_X8_sealsOn_L44_46 (m_X8_sealsOn_L2_2 n2) (m_X8_sealsOn_L24_7 (m_X8_sealsOn_L2_2 n2) n7) n46) n62) (m_X8_sealsOn_L174_86 (m_X8_sealsOn_L2_2 n2) (m_X8_sealsOn_L24_7 (m_X8_sealsOn_L2_2 n2) n7) (m_X8_sealsOn_L44_46 (m_X8_sealsOn_L2_2 n2) (m_X8_sealsOn_L24_7 (m_X8_sealsOn_L2_2 n2) n7) n46) (m_X8_sealsOn_L129_62 (m_X8_sealsOn_L2_2 n2) (m_X8_sealsOn_L24_7 (m_X8_sealsOn_L2_2 n2) n7) (m_X8_sealsOn_L44_46 (m_X8_sealsOn_L2_2 n2) (m_X8_sealsOn_L24_7 (m_X8_sealsOn_L2_2 n2) n7) n46) n62) n86)) (AM_cg (Eq.refl 70) (Eq.refl ((nI q27) : Int32)) m122 (AM_ast hF100 eF123))) (Eq.refl ((nI q786) : Int32))) (Eq.refl ((nI q562) : Int32))) (Eq.refl (v58 : Int64))) (Eq.refl ((nI q27) : Int32))) (Eq.refl (p1 : Int32))))
                            have m127 : ((nI q786) + Int32.ofInt (1)) = (nI (q786 + 1)) := (congrArg (fun q : Int32 => q + Int32.ofInt (1)) rfl).trans (nI_add _ 1)
                            refine lv_iinc (v := (nI (q786 + 1))) (lv' := [(7, .int (nI (q786 + 1))), (6, .int (nI 0)), (5, .int (nI q562)), (3, .long v58), (2, .int (nI q27)), (0, .ref (ad 58)), (1, .int p1)]) S.1 S.2.1 dX8_sealsOn_215 hl86 (k := 0) rfl (nI_add _ 1) (by decide) rfl (fun ls126 hl126 => ?_)
                            refine lv_goto (tgt := 174) S.1 S.2.1 dX8_sealsOn_218 (by decide) ?_
                            have hE128 : M = (m_X8_sealsOn_L174_86 (m_X8_sealsOn_L2_2 n2) (m_X8_sealsOn_L24_7 (m_X8_sealsOn_L2_2 n2) n7) (m_X8_sealsOn_L44_46 (m_X8_sealsOn_L2_2 n2) (m_X8_sealsOn_L24_7 (m_X8_sealsOn_L2_2 n2) n7) n46) (m_X8_sealsOn_L129_62 (m_X8_sealsOn_L2_2 n2) (m_X8_sealsOn_L24_7 (m_X8_sealsOn_L2_2 n2) n7) (m_X8_sealsOn_L44_46 (m_X8_sealsOn_L2_2 n2) (m_X8_sealsOn_L24_7 (m_X8_sealsOn_L2_2 n2) n7) n46) n62) n86) (AB3 ad F123) (nI (q786 + 1)) (nI q562) v58 (nI q27) p1 := hE125.trans ((show m_X8_sealsOn_124 (m_X8_sealsOn_L2_2 n2) (m_X8_sealsOn_L24_7 (m_X8_sealsOn_L2_2 n2) n7) (m_X8_sealsOn_L44_46 (m_X8_sealsOn_L2_2 n2) (m_X8_sealsOn_L24_7 (m_X8_sealsOn_L2_2 n2) n7) n46) (m_X8_sealsOn_L129_62 (m_X8_sealsOn_L2_2 n2) (m_X8_sealsOn_L24_7 (m_X8_sealsOn_L2_2 n2) n7) (m_X8_sealsOn_L44_46 (m_X8_sealsOn_L2_2 n2) (m_X8_sealsOn_L24_7 (m_X8_sealsOn_L2_2 n2) n7) n46) n62) (m_X8_sealsOn_L174_86 (m_X8_sealsOn_L2_2 n2) (m_X8_sealsOn_L24_7 (m_X8_sealsOn_L2_2 n2) n7) (m_X8_sealsOn_L44_46 (m_X8_sealsOn_L2_2 n2) (m_X8_sealsOn_L24_7 (m_X8_sealsOn_L2_2 n2) n7) n46) (m_X8_sealsOn_L129_62 (m_X8_sealsOn_L2_2 n2) (m_X8_sealsOn_L24_7 (m_X8_sealsOn_L2_2 n2) n7) (m_X8_sealsOn_L44_46 (m_X8_sealsOn_L2_2 n2) (m_X8_sealsOn_L24_7 (m_X8_sealsOn_L2_2 n2) n7) n46) n62) n86) (AB3 ad F123) (nI q786) (nI q562) v58 (nI q27) p1 = (m_X8_sealsOn_L174_86 (m_X8_sealsOn_L2_2 n2) (m_X8_sealsOn_L24_7 (m_X8_sealsOn_L2_2 n2) n7) (m_X8_sealsOn_L44_46 (m_X8_sealsOn_L2_2 n2) (m_X8_sealsOn_L24_7 (m_X8_sealsOn_L2_2 n2) n7) n46) (m_X8_sealsOn_L129_62 (m_X8_sealsOn_L2_2 n2) (m_X8_sealsOn_L24_7 (m_X8_sealsOn_L2_2 n2) n7) (m_X8_sealsOn_L44_46 (m_X8_sealsOn_L2_2 n2) (m_X8_sealsOn_L24_7 (m_X8_sealsOn_L2_2 n2) n7) n46) n62) n86) (AB3 ad F123) ((nI q786) + Int32.ofInt (1)) (nI q562) v58 (nI q27) p1 from rfl).trans (congr (congr (congr (congr (congr (congrArg ((m_X8_sealsOn_L174_86 (m_X8_sealsOn_L2_2 n2) (m_X8_sealsOn_L24_7 (m_X8_sealsOn_L2_2 n2) n7) (m_X8_sealsOn_L44_46 (m_X8_sealsOn_L2_2 n2) (m_X8_sealsOn_L24_7 (m_X8_sealsOn_L2_2 n2) n7) n46) (m_X8_sealsOn_L129_62 (m_X8_sealsOn_L2_2 n2) (m_X8_sealsOn_L24_7 (m_X8_sealsOn_L2_2 n2) n7) (m_X8_sealsOn_L44_46 (m_X8_sealsOn_L2_2 n2) (m_X8_sealsOn_L24_7 (m_X8_sealsOn_L2_2 n2) n7) n46) n62) n86)) (rfl : AB3 ad F123 = AB3 ad F123)) m127) (Eq.refl ((nI q562) : Int32))) (Eq.refl (v58 : Int64))) (Eq.refl ((nI q27) : Int32))) (Eq.refl (p1 : Int32))))
                            exact ih86 (q786 + 1) F123 H123 locs123 (by omega) (by omega) hW123 hFr123 hP123 hS123 hE128 ls126 (lv_sub hl126 [0, 1, 2, 3, 4, 5, 6] rfl)
                        have hE129 : M = m_X8_sealsOn_L174_86 (m_X8_sealsOn_L2_2 n2) (m_X8_sealsOn_L24_7 (m_X8_sealsOn_L2_2 n2) n7) (m_X8_sealsOn_L44_46 (m_X8_sealsOn_L2_2 n2) (m_X8_sealsOn_L24_7 (m_X8_sealsOn_L2_2 n2) n7) n46) (m_X8_sealsOn_L129_62 (m_X8_sealsOn_L2_2 n2) (m_X8_sealsOn_L24_7 (m_X8_sealsOn_L2_2 n2) n7) (m_X8_sealsOn_L44_46 (m_X8_sealsOn_L2_2 n2) (m_X8_sealsOn_L24_7 (m_X8_sealsOn_L2_2 n2) n7) n46) n62) 2000 (AB3 ad Fl62) (nI 0) (nI q562) v58 (nI q27) p1 := hE63.trans ((show m_X8_sealsOn_L129_62_b (m_X8_sealsOn_L2_2 n2) (m_X8_sealsOn_L24_7 (m_X8_sealsOn_L2_2 n2) n7) (m_X8_sealsOn_L44_46 (m_X8_sealsOn_L2_2 n2) (m_X8_sealsOn_L24_7 (m_X8_sealsOn_L2_2 n2) n7) n46) (m_X8_sealsOn_L129_62 (m_X8_sealsOn_L2_2 n2) (m_X8_sealsOn_L24_7 (m_X8_sealsOn_L2_2 n2) n7) (m_X8_sealsOn_L44_46 (m_X8_sealsOn_L2_2 n2) (m_X8_sealsOn_L24_7 (m_X8_sealsOn_L2_2 n2) n7) n46) n62) (AB3 ad Fl62) (nI q562) v58 (nI q27) p1 = m_X8_sealsOn_L174_86 (m_X8_sealsOn_L2_2 n2) (m_X8_sealsOn_L24_7 (m_X8_sealsOn_L2_2 n2) n7) (m_X8_sealsOn_L44_46 (m_X8_sealsOn_L2_2 n2) (m_X8_sealsOn_L24_7 (m_X8_sealsOn_L2_2 n2) n7) n46) (m_X8_sealsOn_L129_62 (m_X8_sealsOn_L2_2 n2) (m_X8_sealsOn_L24_7 (m_X8_sealsOn_L2_2 n2) n7) (m_X8_sealsOn_L44_46 (m_X8_sealsOn_L2_2 n2) (m_X8_sealsOn_L24_7 (m_X8_sealsOn_L2_2 n2) n7) n46) n62) 2000 (AB3 ad Fl62) (nI 0) (nI q562) v58 (nI q27) p1 from by unfold m_X8_sealsOn_L129_62_b; rw [if_neg (nle_cg m69 rfl c70), if_neg (neq_cg m81 rfl c82)]).trans (congr (congr (congr (congr (congr (congrArg (m_X8_sealsOn_L174_86 (m_X8_sealsOn_L2_2 n2) (m_X8_sealsOn_L24_7 (m_X8_sealsOn_L2_2 n2) n7) (m_X8_sealsOn_L44_46 (m_X8_sealsOn_L2_2 n2) (m_X8_sealsOn_L24_7 (m_X8_sealsOn_L2_2 n2) n7) n46) (m_X8_sealsOn_L129_62 (m_X8_sealsOn_L2_2 n2) (m_X8_sealsOn_L24_7 (m_X8_sealsOn_L2_2 n2) n7) (m_X8_sealsOn_L44_46 (m_X8_sealsOn_L2_2 n2) (m_X8_sealsOn_L24_7 (m_X8_sealsOn_L2_2 n2) n7) n46) n62) 2000) (rfl : AB3 ad Fl62 = AB3 ad Fl62)) (Eq.refl ((nI 0) : Int32))) (Eq.refl ((nI q562) : Int32))) (Eq.refl (v58 : Int64))) (Eq.refl ((nI q27) : Int32))) (Eq.refl (p1 : Int32))))
                        exact lp86 2000 (0) Fl62 Hl62 lol62 (by omega) (by omega) hWl62 hFl62 hPl62 hSl62 hE129 ls85 (lv_sub hl85 [0, 1, 2, 3, 4, 5, 6] rfl)
                      have k130 := ci_eq rfl (nI_toInt (n := 1) (by omega)) c82
                      refine lv_aload_n S.1 S.2.1 dX8_sealsOn_153 rfl (lv_at hl62 3 rfl) ?_
                      refine lv_iload S.1 S.2.1 dX8_sealsOn_154 (lv_at hl62 0 rfl) ?_
                      refine lv_aload_n S.1 S.2.1 dX8_sealsOn_156 rfl (lv_at hl62 3 rfl) ?_
                      refine r_get S hK hPl62 58 (by decide) hF64 (C := RX8) (T := TX8) (N := 23) hiX8 rfl 4 (by decide) (by decide +kernel) (v := .ref (ad 62)) rfl dX8_sealsOn_157 ?_
                      refine lv_iconst (v := (nI 5)) S.1 S.2.1 dX8_sealsOn_160 (by decide +kernel) ?_
                      obtain ⟨g131, hF131, hg131⟩ := wt_I hWl62 (show (62, 7) ∈ rLI by decide)
                      refine r_iald S hK hPl62 62 (by decide) hF131 (vp_in_nI (show 5 < 7 by omega) (by omega)) dX8_sealsOn_161 ?_
                      refine lv_topi (fun v133 e133 => ?_)
                      have m134 : ((AB3 ad Fl62).1 62 (rl (nI 5))) = v133 := (ab_cg rfl rfl).trans ((AB_g hF131).trans e133.symm)
                      refine r_cVp (As := [.int (nI q562), .int v133]) (rest := []) S hK hZ hPl62 hSl62 hl62.1 58 (by decide) hF64 (C := RX8) rfl (c_X8_walks l D cA ad t hI Fl62 hWl62 (nI q562) v133) (cwV 2 S.2.2.2.2 gX8_sealsOn_X8_walks rfl rfl rfl (by decide +kernel) ⟨Nat.le_of_ble_eq_true rfl, Nat.le_of_ble_eq_true rfl⟩) rfl rfl (Nat.le_of_ble_eq_true rfl) ⟨Nat.zero_le _, Nat.zero_le _⟩ dX8_sealsOn_162 (fun r135 hr135 => ?_)
                      obtain ⟨hr135, hm135⟩ := hr135
                      have m136 : (m_X8_walks (AB3 ad Fl62).1 (nI q562) ((AB3 ad Fl62).1 62 (rl (nI 5)))) = r135 := (congr (congr (Eq.refl (m_X8_walks (AB ad Fl62))) (Eq.refl ((nI q562) : Int32))) m134).trans hm135
                      refine lv_goto (tgt := 169) S.1 S.2.1 dX8_sealsOn_165 (by decide) ?_
                      refine lv_istore (lv' := [(6, .int r135), (5, .int (nI q562)), (3, .long v58), (2, .int (nI q27)), (0, .ref (ad 58)), (1, .int p1)]) S.1 S.2.1 dX8_sealsOn_169 hl62 (by decide) rfl (fun ls137 hl137 => ?_)
                      refine lv_iconst (v := (nI 0)) S.1 S.2.1 dX8_sealsOn_171 (by decide +kernel) ?_
                      refine lv_istore (lv' := [(7, .int (nI 0)), (6, .int r135), (5, .int (nI q562)), (3, .long v58), (2, .int (nI q27)), (0, .ref (ad 58)), (1, .int p1)]) S.1 S.2.1 dX8_sealsOn_172 hl137 (by decide) rfl (fun ls138 hl138 => ?_)
                      have lp139 : ∀ (n139 : Nat) (q7139 : Nat), ∀ (Fl139 : Nat → va_E) (Hl139 : Heap) (lol139 : List Loc), q7139 ≤ 8 → 8 - q7139 < n139 → WT cA ad Fl139 → rFr [69, 70] F Fl139 → va_P D vwCl (rW ad Fl139) Hl139 → va_S (rA ad) s.heap Hl139 lol139 → M = m_X8_sealsOn_L174_139 (m_X8_sealsOn_L2_2 n2) (m_X8_sealsOn_L24_7 (m_X8_sealsOn_L2_2 n2) n7) (m_X8_sealsOn_L44_46 (m_X8_sealsOn_L2_2 n2) (m_X8_sealsOn_L24_7 (m_X8_sealsOn_L2_2 n2) n7) n46) (m_X8_sealsOn_L129_62 (m_X8_sealsOn_L2_2 n2) (m_X8_sealsOn_L24_7 (m_X8_sealsOn_L2_2 n2) n7) (m_X8_sealsOn_L44_46 (m_X8_sealsOn_L2_2 n2) (m_X8_sealsOn_L24_7 (m_X8_sealsOn_L2_2 n2) n7) n46) n62) n139 (AB3 ad Fl139) (nI q7139) r135 (nI q562) v58 (nI q27) p1 → ∀ (ls : Array Slot), lv_has ls 8 [(7, .int (nI q7139)), (6, .int r135), (5, .int (nI q562)), (3, .long v58), (2, .int (nI q27)), (0, .ref (ad 58)), (1, .int p1)] → W p l e { frames := 3, cells := 0, slots := 0, locals := 78 } s m args below meth c Hl139 lol139 0 0 Q (F0 m 174 ls []) := by
                        intro n139
                        induction n139 with
                        | zero =>
                          intro q7139 Fl139 Hl139 lol139 iv139_0 hm139 hWl139 hFl139 hPl139 hSl139 hEl139 ls139 hl139
                          exact absurd hm139 (Nat.not_lt_zero _)
                        | succ n139 ih139 =>
                          intro q7139 Fl139 Hl139 lol139 iv139_0 hm139 hWl139 hFl139 hPl139 hSl139 hEl139 ls139 hl139
                          have hE140 : M = m_X8_sealsOn_L174_139_b (m_X8_sealsOn_L2_2 n2) (m_X8_sealsOn_L24_7 (m_X8_sealsOn_L2_2 n2) n7) (m_X8_sealsOn_L44_46 (m_X8_sealsOn_L2_2 n2) (m_X8_sealsOn_L24_7 (m_X8_sealsOn_L2_2 n2) n7) n46) (m_X8_sealsOn_L129_62 (m_X8_sealsOn_L2_2 n2) (m_X8_sealsOn_L24_7 (m_X8_sealsOn_L2_2 n2) n7) (m_X8_sealsOn_L44_46 (m_X8_sealsOn_L2_2 n2) (m_X8_sealsOn_L24_7 (m_X8_sealsOn_L2_2 n2) n7) n46) n62) (m_X8_sealsOn_L174_139 (m_X8_sealsOn_L2_2 n2) (m_X8_sealsOn_L24_7 (m_X8_sealsOn_L2_2 n2) n7) (m_X8_sealsOn_L44_46 (m_X8_sealsOn_L2_2 n2) (m_X8_sealsOn_L24_7 (m_X8_sealsOn_L2_2 n2) n7) n46) (m_X8_sealsOn_L129_62 (m_X8_sealsOn_L2_2 n2) (m_X8_sealsOn_L24_7 (m_X8_sealsOn_L2_2 n2) n7) (m_X8_sealsOn_L44_46 (m_X8_sealsOn_L2_2 n2) (m_X8_sealsOn_L24_7 (m_X8_sealsOn_L2_2 n2) n7) n46) n62) n139) (AB3 ad Fl139) (nI q7139) r135 (nI q562) v58 (nI q27) p1 := hEl139
                          refine lv_iload S.1 S.2.1 dX8_sealsOn_174 (lv_at hl139 0 rfl) ?_
                          refine lv_aload_n S.1 S.2.1 dX8_sealsOn_176 rfl (lv_at hl139 5 rfl) ?_
                          obtain ⟨ty141, kn141, no141, en141, at141, sa141, sd141, wr141, pl141, va141, hF141, hb141_1, hb141_2, hb141_3, hb141_4, hb141_5, hb141_6⟩ := wt_m hWl139
                          refine r_get S hK hPl139 58 (by decide) hF141 (C := RX8) (T := TX8) (N := 23) hiX8 rfl 2 (by decide) (by decide +kernel) (v := .ref (ad 60)) rfl dX8_sealsOn_177 ?_
                          refine lv_iconst (v := (nI 2)) S.1 S.2.1 dX8_sealsOn_180 (by decide +kernel) ?_
                          obtain ⟨g142, hF142, hg142⟩ := wt_I hWl139 (show (60, 52) ∈ rLI by decide)
                          refine r_iald S hK hPl139 60 (by decide) hF142 (vp_in_nI (show 2 < 52 by omega) (by omega)) dX8_sealsOn_181 ?_
                          refine lv_topi (fun v144 e144 => ?_)
                          obtain ⟨b145, hb145, he145⟩ := (pr_T (by decide) (hg142 2 (by decide))).2.1 rfl
                          obtain rfl : v144 = nI b145 := e144.trans he145
                          have m146 : ((AB3 ad Fl139).1 60 (rl (nI 2))) = (nI b145) := (ab_cg rfl rfl).trans ((AB_g hF142).trans e144.symm)
                          refine lv_icmp_ge (tgt := 221) S.1 S.2.1 dX8_sealsOn_182 (by decide) (fun c147 => ?_) (fun c147 => ?_)
                          · skip
                            have k148 := ci_le (nI_toInt (n := b145) (by omega)) (nI_toInt (n := q7139) (by omega)) c147
                            have m150 : ((nI q562) + Int32.ofInt (1)) = (nI (q562 + 1)) := (congrArg (fun q : Int32 => q + Int32.ofInt (1)) rfl).trans (nI_add _ 1)
                            refine lv_iinc (v := (nI (q562 + 1))) (lv' := [(5, .int (nI (q562 + 1))), (7, .int (nI q7139)), (6, .int r135), (3, .long v58), (2, .int (nI q27)), (0, .ref (ad 58)), (1, .int p1)]) S.1 S.2.1 dX8_sealsOn_221 hl139 (k := 2) rfl (nI_add _ 1) (by decide) rfl (fun ls149 hl149 => ?_)
                            refine lv_goto (tgt := 129) S.1 S.2.1 dX8_sealsOn_224 (by decide) ?_
                            have hE151 : M = (m_X8_sealsOn_L129_62 (m_X8_sealsOn_L2_2 n2) (m_X8_sealsOn_L24_7 (m_X8_sealsOn_L2_2 n2) n7) (m_X8_sealsOn_L44_46 (m_X8_sealsOn_L2_2 n2) (m_X8_sealsOn_L24_7 (m_X8_sealsOn_L2_2 n2) n7) n46) n62) (AB3 ad Fl139) (nI (q562 + 1)) v58 (nI q27) p1 := hE140.trans ((show m_X8_sealsOn_L174_139_b (m_X8_sealsOn_L2_2 n2) (m_X8_sealsOn_L24_7 (m_X8_sealsOn_L2_2 n2) n7) (m_X8_sealsOn_L44_46 (m_X8_sealsOn_L2_2 n2) (m_X8_sealsOn_L24_7 (m_X8_sealsOn_L2_2 n2) n7) n46) (m_X8_sealsOn_L129_62 (m_X8_sealsOn_L2_2 n2) (m_X8_sealsOn_L24_7 (m_X8_sealsOn_L2_2 n2) n7) (m_X8_sealsOn_L44_46 (m_X8_sealsOn_L2_2 n2) (m_X8_sealsOn_L24_7 (m_X8_sealsOn_L2_2 n2) n7) n46) n62) (m_X8_sealsOn_L174_139 (m_X8_sealsOn_L2_2 n2) (m_X8_sealsOn_L24_7 (m_X8_sealsOn_L2_2 n2) n7) (m_X8_sealsOn_L44_46 (m_X8_sealsOn_L2_2 n2) (m_X8_sealsOn_L24_7 (m_X8_sealsOn_L2_2 n2) n7) n46) (m_X8_sealsOn_L129_62 (m_X8_sealsOn_L2_2 n2) (m_X8_sealsOn_L24_7 (m_X8_sealsOn_L2_2 n2) n7) (m_X8_sealsOn_L44_46 (m_X8_sealsOn_L2_2 n2) (m_X8_sealsOn_L24_7 (m_X8_sealsOn_L2_2 n2) n7) n46) n62) n139) (AB3 ad Fl139) (nI q7139) r135 (nI q562) v58 (nI q27) p1 = (m_X8_sealsOn_L129_62 (m_X8_sealsOn_L2_2 n2) (m_X8_sealsOn_L24_7 (m_X8_sealsOn_L2_2 n2) n7) (m_X8_sealsOn_L44_46 (m_X8_sealsOn_L2_2 n2) (m_X8_sealsOn_L24_7 (m_X8_sealsOn_L2_2 n2) n7) n46) n62) (AB3 ad Fl139) ((nI q562) + Int32.ofInt (1)) v58 (nI q27) p1 from by unfold m_X8_sealsOn_L174_139_b; rw [if_pos (le_cg m146 rfl c147)]).trans (congr (congr (congr (congr (congrArg ((m_X8_sealsOn_L129_62 (m_X8_sealsOn_L2_2 n2) (m_X8_sealsOn_L24_7 (m_X8_sealsOn_L2_2 n2) n7) (m_X8_sealsOn_L44_46 (m_X8_sealsOn_L2_2 n2) (m_X8_sealsOn_L24_7 (m_X8_sealsOn_L2_2 n2) n7) n46) n62)) (rfl : AB3 ad Fl139 = AB3 ad Fl139)) m150) (Eq.refl (v58 : Int64))) (Eq.refl ((nI q27) : Int32))) (Eq.refl (p1 : Int32))))
                            exact ih62 (q562 + 1) Fl139 Hl139 lol139 (by omega) (by omega) hWl139 hFl139 hPl139 hSl139 hE151 ls149 (lv_sub hl149 [0, 3, 4, 5, 6] rfl)
                          have k152 := ci_nle (nI_toInt (n := b145) (by omega)) (nI_toInt (n := q7139) (by omega)) c147
                          refine lv_aload_n S.1 S.2.1 dX8_sealsOn_185 rfl (lv_at hl139 5 rfl) ?_
                          refine r_get S hK hPl139 58 (by decide) hF141 (C := RX8) (T := TX8) (N := 23) hiX8 rfl 21 (by decide) (by decide +kernel) (v := .ref (ad 70)) rfl dX8_sealsOn_186 ?_
                          refine lv_iload_n S.1 S.2.1 dX8_sealsOn_189 rfl (lv_at hl139 4 rfl) ?_
                          refine lv_dup2_11 S.1 S.2.1 dX8_sealsOn_190 rfl rfl ?_
                          obtain ⟨g153, hF153⟩ := wt_L hWl139 (show (70, 256) ∈ rLL by decide)
                          refine r_lald S hK hPl139 70 (by decide) hF153 (vp_in_nI (show q27 < 256 by omega) (by omega)) dX8_sealsOn_191 ?_
                          refine lv_topl (fun v155 e155 => ?_)
                          have m156 : (((AB3 ad Fl139)).2 70 (rl (nI q27))) = v155 := (al_cg (Eq.refl 70) (Eq.refl ((nI q27) : Int32))).trans ((AM_g hF153).trans e155.symm)
                          refine lv_iload S.1 S.2.1 dX8_sealsOn_192 (lv_at hl139 1 rfl) ?_
                          refine lv_iload S.1 S.2.1 dX8_sealsOn_194 (lv_at hl139 0 rfl) ?_
                          refine lv_ishr S.1 S.2.1 dX8_sealsOn_196 ?_
                          refine lv_topi (fun v157 e157 => ?_)
                          have m158 : (r135 >>> ((nI q7139) &&& 31)) = v157 := cg2 (fun (x : Int32) (y : Int32) => x >>> (y &&& 31)) (Eq.refl (r135 : Int32)) (Eq.refl ((nI q7139) : Int32)) e157
                          refine lv_iconst (v := (nI 1)) S.1 S.2.1 dX8_sealsOn_197 (by decide +kernel) ?_
                          refine lv_iand S.1 S.2.1 dX8_sealsOn_198 ?_
                          refine lv_topi (fun v159 e159 => ?_)
                          have m160 : ((r135 >>> ((nI q7139) &&& 31)) &&& (nI 1)) = v159 := cg2 (fun (x : Int32) (y : Int32) => x &&& y) m158 (Eq.refl ((nI 1) : Int32)) e159
                          refine lv_iconst (v := (nI 1)) S.1 S.2.1 dX8_sealsOn_199 (by decide +kernel) ?_
                          refine lv_icmp_ne (tgt := 212) S.1 S.2.1 dX8_sealsOn_200 (by decide) (fun c161 => ?_) (fun c161 => ?_)
                          · skip
                            have k162 := ci_ne rfl (nI_toInt (n := 1) (by omega)) c161
                            refine lv_lconst (v := 0) S.1 S.2.1 dX8_sealsOn_212 (by decide +kernel) ?_
                            refine lv_lor S.1 S.2.1 dX8_sealsOn_213 ?_
                            refine lv_topl (fun v163 e163 => ?_)
                            have m164 : ((((AB3 ad Fl139)).2 70 (rl (nI q27))) ||| (0 : Int64)) = v163 := cg2 (fun (x : Int64) (y : Int64) => x ||| y) m156 (Eq.refl (0 : Int64)) e163
                            refine r_last S hI hK hPl139 hSl139 70 (by decide) hF153 (vp_in_nI (show q27 < 256 by omega) (by omega)) dX8_sealsOn_214 (fun F165 H165 locs165 eF165 hP165 hS165 => ?_)
                            have hW165 := hWl139.up eF165 (ok_L (show (70, 256) ∈ rLL by decide) ⟨_, rfl⟩)
                            have hFr165 := hFl139.up eF165 (by simp <;> first | omega | (simp only [isC, isJ] at *; omega))
                            have hE167 : M = m_X8_sealsOn_166 (m_X8_sealsOn_L2_2 n2) (m_X8_sealsOn_L24_7 (m_X8_sealsOn_L2_2 n2) n7) (m_X8_sealsOn_L44_46 (m_X8_sealsOn_L2_2 n2) (m_X8_sealsOn_L24_7 (m_X8_sealsOn_L2_2 n2) n7) n46) (m_X8_sealsOn_L129_62 (m_X8_sealsOn_L2_2 n2) (m_X8_sealsOn_L24_7 (m_X8_sealsOn_L2_2 n2) n7) (m_X8_sealsOn_L44_46 (m_X8_sealsOn_L2_2 n2) (m_X8_sealsOn_L24_7 (m_X8_sealsOn_L2_2 n2) n7) n46) n62) (m_X8_sealsOn_L174_139 (m_X8_sealsOn_L2_2 n2) (m_X8_sealsOn_L24_7 (m_X8_sealsOn_L2_2 n2) n7) (m_X8_sealsOn_L44_46 (m_X8_sealsOn_L2_2 n2) (m_X8_sealsOn_L24_7 (m_X8_sealsOn_L2_2 n2) n7) n46) (m_X8_sealsOn_L129_62 (m_X8_sealsOn_L2_2 n2) (m_X8_sealsOn_L24_7 (m_X8_sealsOn_L2_2 n2) n7) (m_X8_sealsOn_L44_46 (m_X8_sealsOn_L2_2 n2) (m_X8_sealsOn_L24_7 (m_X8_sealsOn_L2_2 n2) n7) n46) n62) n139) (AB3 ad F165) (nI q7139) r135 (nI q562) v58 (nI q27) p1 := hE140.trans ((show m_X8_sealsOn_L174_139_b (m_X8_sealsOn_L2_2 n2) (m_X8_sealsOn_L24_7 (m_X8_sealsOn_L2_2 n2) n7) (m_X8_sealsOn_L44_46 (m_X8_sealsOn_L2_2 n2) (m_X8_sealsOn_L24_7 (m_X8_sealsOn_L2_2 n2) n7) n46) (m_X8_sealsOn_L129_62 (m_X8_sealsOn_L2_2 n2) (m_X8_sealsOn_L24_7 (m_X8_sealsOn_L2_2 n2) n7) (m_X8_sealsOn_L44_46 (m_X8_sealsOn_L2_2 n2) (m_X8_sealsOn_L24_7 (m_X8_sealsOn_L2_2 n2) n7) n46) n62) (m_X8_sealsOn_L174_139 (m_X8_sealsOn_L2_2 n2) (m_X8_sealsOn_L24_7 (m_X8_sealsOn_L2_2 n2) n7) (m_X8_sealsOn_L44_46 (m_X8_sealsOn_L2_2 n2) (m_X8_sealsOn_L24_7 (m_X8_sealsOn_L2_2 n2) n7) n46) (m_X8_sealsOn_L129_62 (m_X8_sealsOn_L2_2 n2) (m_X8_sealsOn_L24_7 (m_X8_sealsOn_L2_2 n2) n7) (m_X8_sealsOn_L44_46 (m_X8_sealsOn_L2_2 n2) (m_X8_sealsOn_L24_7 (m_X8_sealsOn_L2_2 n2) n7) n46) n62) n139) (AB3 ad Fl139) (nI q7139) r135 (nI q562) v58 (nI q27) p1 = m_X8_sealsOn_166 (m_X8_sealsOn_L2_2 n2) (m_X8_sealsOn_L24_7 (m_X8_sealsOn_L2_2 n2) n7) (m_X8_sealsOn_L44_46 (m_X8_sealsOn_L2_2 n2) (m_X8_sealsOn_L24_7 (m_X8_sealsOn_L2_2 n2) n7) n46) (m_X8_sealsOn_L129_62 (m_X8_sealsOn_L2_2 n2) (m_X8_sealsOn_L24_7 (m_X8_sealsOn_L2_2 n2) n7) (m_X8_sealsOn_L44_46 (m_X8_sealsOn_L2_2 n2) (m_X8_sealsOn_L24_7 (m_X8_sealsOn_L2_2 n2) n7) n46) n62) (m_X8_sealsOn_L174_139 (m_X8_sealsOn_L2_2 n2) (m_X8_sealsOn_L24_7 (m_X8_sealsOn_L2_2 n2) n7) (m_X8_sealsOn_L44_46 (m_X8_sealsOn_L2_2 n2) (m_X8_sealsOn_L24_7 (m_X8_sealsOn_L2_2 n2) n7) n46) (m_X8_sealsOn_L129_62 (m_X8_sealsOn_L2_2 n2) (m_X8_sealsOn_L24_7 (m_X8_sealsOn_L2_2 n2) n7) (m_X8_sealsOn_L44_46 (m_X8_sealsOn_L2_2 n2) (m_X8_sealsOn_L24_7 (m_X8_sealsOn_L2_2 n2) n7) n46) n62) n139) ((AB3 ad Fl139).1, stL ((AB3 ad Fl139)).2 70 (rl (nI q27)) ((((AB3 ad Fl139)).2 70 (rl (nI q27))) ||| (0 : Int64))) (nI q7139) r135 (nI q562) v58 (nI q27) p1 from by unfold m_X8_sealsOn_L174_139_b; rw [if_neg (nle_cg m146 rfl c147), if_neg (neq_cg m160 rfl c161)]).trans (congr (congr (congr (congr (congr (congr (congrArg (m_X8_sealsOn_166 (m_X8_sealsOn_L2_2 n2) (m_X8_sealsOn_L24_7 (m_X8_sealsOn_L2_2 n2) n7) (m_X8_sealsOn_L44_46 (m_X8_sealsOn_L2_2 n2) (m_X8_sealsOn_L24_7 (m_X8_sealsOn_L2_2 n2) n7) n46) (m_X8_sealsOn_L129_62 (m_X8_sealsOn_L2_2 n2) (m_X8_sealsOn_L24_7 (m_X8_sealsOn_L2_2 n2) n7) (m_X8_sealsOn_L44_46 (m_X8_sealsOn_L2_2 n2) (m_X8_sealsOn_L24_7 (m_X8_sealsOn_L2_2 n2) n7) n46) n62) (m_X8_sealsOn_L174_139 (m_X8_sealsOn_L2_2 n2) (m_X8_sealsOn_L24_7 (m_X8_sealsOn_L2_2 n2) n7) (m_X8_sealsOn_L44_46 (m_X8_sealsOn_L2_2 n2) (m_X8_sealsOn_L24_7 (m_X8_sealsOn_L2_2 n2) n7) n46) (m_X8_sealsOn_L129_62 (m_X8_sealsOn_L2_2 n2) (m_X8_sealsOn_L24_7 (m_X8_sealsOn_L2_2 n2) n7) (m_X8_sealsOn_L44_46 (m_X8_sealsOn_L2_2 n2) (m_X8_sealsOn_L24_7 (m_X8_sealsOn_L2_2 n2) n7) n46) n62) n139)) (AM_cg (Eq.refl 70) (Eq.refl ((nI q27) : Int32)) m164 (AM_ast hF153 eF165))) (Eq.refl ((nI q7139) : Int32))) (Eq.refl (r135 : Int32))) (Eq.refl ((nI q562) : Int32))) (Eq.refl (v58 : Int64))) (Eq.refl ((nI q27) : Int32))) (Eq.refl (p1 : Int32))))
                            have m169 : ((nI q7139) + Int32.ofInt (1)) = (nI (q7139 + 1)) := (congrArg (fun q : Int32 => q + Int32.ofInt (1)) rfl).trans (nI_add _ 1)
                            refine lv_iinc (v := (nI (q7139 + 1))) (lv' := [(7, .int (nI (q7139 + 1))), (6, .int r135), (5, .int (nI q562)), (3, .long v58), (2, .int (nI q27)), (0, .ref (ad 58)), (1, .int p1)]) S.1 S.2.1 dX8_sealsOn_215 hl139 (k := 0) rfl (nI_add _ 1) (by decide) rfl (fun ls168 hl168 => ?_)
                            refine lv_goto (tgt := 174) S.1 S.2.1 dX8_sealsOn_218 (by decide) ?_
                            have hE170 : M = (m_X8_sealsOn_L174_139 (m_X8_sealsOn_L2_2 n2) (m_X8_sealsOn_L24_7 (m_X8_sealsOn_L2_2 n2) n7) (m_X8_sealsOn_L44_46 (m_X8_sealsOn_L2_2 n2) (m_X8_sealsOn_L24_7 (m_X8_sealsOn_L2_2 n2) n7) n46) (m_X8_sealsOn_L129_62 (m_X8_sealsOn_L2_2 n2) (m_X8_sealsOn_L24_7 (m_X8_sealsOn_L2_2 n2) n7) (m_X8_sealsOn_L44_46 (m_X8_sealsOn_L2_2 n2) (m_X8_sealsOn_L24_7 (m_X8_sealsOn_L2_2 n2) n7) n46) n62) n139) (AB3 ad F165) (nI (q7139 + 1)) r135 (nI q562) v58 (nI q27) p1 := hE167.trans ((show m_X8_sealsOn_166 (m_X8_sealsOn_L2_2 n2) (m_X8_sealsOn_L24_7 (m_X8_sealsOn_L2_2 n2) n7) (m_X8_sealsOn_L44_46 (m_X8_sealsOn_L2_2 n2) (m_X8_sealsOn_L24_7 (m_X8_sealsOn_L2_2 n2) n7) n46) (m_X8_sealsOn_L129_62 (m_X8_sealsOn_L2_2 n2) (m_X8_sealsOn_L24_7 (m_X8_sealsOn_L2_2 n2) n7) (m_X8_sealsOn_L44_46 (m_X8_sealsOn_L2_2 n2) (m_X8_sealsOn_L24_7 (m_X8_sealsOn_L2_2 n2) n7) n46) n62) (m_X8_sealsOn_L174_139 (m_X8_sealsOn_L2_2 n2) (m_X8_sealsOn_L24_7 (m_X8_sealsOn_L2_2 n2) n7) (m_X8_sealsOn_L44_46 (m_X8_sealsOn_L2_2 n2) (m_X8_sealsOn_L24_7 (m_X8_sealsOn_L2_2 n2) n7) n46) (m_X8_sealsOn_L129_62 (m_X8_sealsOn_L2_2 n2) (m_X8_sealsOn_L24_7 (m_X8_sealsOn_L2_2 n2) n7) (m_X8_sealsOn_L44_46 (m_X8_sealsOn_L2_2 n2) (m_X8_sealsOn_L24_7 (m_X8_sealsOn_L2_2 n2) n7) n46) n62) n139) (AB3 ad F165) (nI q7139) r135 (nI q562) v58 (nI q27) p1 = (m_X8_sealsOn_L174_139 (m_X8_sealsOn_L2_2 n2) (m_X8_sealsOn_L24_7 (m_X8_sealsOn_L2_2 n2) n7) (m_X8_sealsOn_L44_46 (m_X8_sealsOn_L2_2 n2) (m_X8_sealsOn_L24_7 (m_X8_sealsOn_L2_2 n2) n7) n46) (m_X8_sealsOn_L129_62 (m_X8_sealsOn_L2_2 n2) (m_X8_sealsOn_L24_7 (m_X8_sealsOn_L2_2 n2) n7) (m_X8_sealsOn_L44_46 (m_X8_sealsOn_L2_2 n2) (m_X8_sealsOn_L24_7 (m_X8_sealsOn_L2_2 n2) n7) n46) n62) n139) (AB3 ad F165) ((nI q7139) + Int32.ofInt (1)) r135 (nI q562) v58 (nI q27) p1 from rfl).trans (congr (congr (congr (congr (congr (congr (congrArg ((m_X8_sealsOn_L174_139 (m_X8_sealsOn_L2_2 n2) (m_X8_sealsOn_L24_7 (m_X8_sealsOn_L2_2 n2) n7) (m_X8_sealsOn_L44_46 (m_X8_sealsOn_L2_2 n2) (m_X8_sealsOn_L24_7 (m_X8_sealsOn_L2_2 n2) n7) n46) (m_X8_sealsOn_L129_62 (m_X8_sealsOn_L2_2 n2) (m_X8_sealsOn_L24_7 (m_X8_sealsOn_L2_2 n2) n7) (m_X8_sealsOn_L44_46 (m_X8_sealsOn_L2_2 n2) (m_X8_sealsOn_L24_7 (m_X8_sealsOn_L2_2 n2) n7) n46) n62) n139)) (rfl : AB3 ad F165 = AB3 ad F165)) m169) (Eq.refl (r135 : Int32))) (Eq.refl ((nI q562) : Int32))) (Eq.refl (v58 : Int64))) (Eq.refl ((nI q27) : Int32))) (Eq.refl (p1 : Int32))))
                            exact ih139 (q7139 + 1) F165 H165 locs165 (by omega) (by omega) hW165 hFr165 hP165 hS165 hE170 ls168 (lv_sub hl168 [0, 1, 2, 3, 4, 5, 6] rfl)
                          have k171 := ci_eq rfl (nI_toInt (n := 1) (by omega)) c161
                          refine lv_iload S.1 S.2.1 dX8_sealsOn_203 (lv_at hl139 0 rfl) ?_
                          refine lv_iconst (v := (nI 0)) S.1 S.2.1 dX8_sealsOn_205 (by decide +kernel) ?_
                          refine r_cSl (As := [.int (nI q7139), .int (nI 0)]) (rest := [.long v155, .int (nI q27), .ref (ad 70)]) S hK hZ hPl139 hSl139 hl139.1 (c_X8_bit l D cA ad t hI Fl139 hWl139 (nI q7139) (nI 0)) (va_cwS 2 S.2.2.2.2 gX8_sealsOn_X8_bit rfl rfl rfl (by decide +kernel) ⟨Nat.le_of_ble_eq_true rfl, Nat.le_of_ble_eq_true rfl⟩) rfl rfl (Nat.le_of_ble_eq_true rfl) ⟨Nat.zero_le _, Nat.zero_le _⟩ dX8_sealsOn_206 (fun r172 hr172 => ?_)
                          obtain ⟨hr172, hm172⟩ := hr172
                          have m173 : (m_X8_bit (AB3 ad Fl139).1 (nI q7139) (nI 0)) = r172 := (congr (congr (Eq.refl (m_X8_bit (AB ad Fl139))) (Eq.refl ((nI q7139) : Int32))) (Eq.refl ((nI 0) : Int32))).trans hm172
                          refine lv_goto (tgt := 213) S.1 S.2.1 dX8_sealsOn_209 (by decide) ?_
                          refine lv_lor S.1 S.2.1 dX8_sealsOn_213 ?_
                          refine lv_topl (fun v174 e174 => ?_)
                          have m175 : ((((AB3 ad Fl139)).2 70 (rl (nI q27))) ||| (m_X8_bit (AB3 ad Fl139).1 (nI q7139) (nI 0))) = v174 := cg2 (fun (x : Int64) (y : Int64) => x ||| y) m156 m173 e174
                          refine r_last S hI hK hPl139 hSl139 70 (by decide) hF153 (vp_in_nI (show q27 < 256 by omega) (by omega)) dX8_sealsOn_214 (fun F176 H176 locs176 eF176 hP176 hS176 => ?_)
                          have hW176 := hWl139.up eF176 (ok_L (show (70, 256) ∈ rLL by decide) ⟨_, rfl⟩)
                          have hFr176 := hFl139.up eF176 (by simp <;> first | omega | (simp only [isC, isJ] at *; omega))
                          have hE178 : M = m_X8_sealsOn_177 (m_X8_sealsOn_L2_2 n2) (m_X8_sealsOn_L24_7 (m_X8_sealsOn_L2_2 n2) n7) (m_X8_sealsOn_L44_46 (m_X8_sealsOn_L2_2 n2) (m_X8_sealsOn_L24_7 (m_X8_sealsOn_L2_2 n2) n7) n46) (m_X8_sealsOn_L129_62 (m_X8_sealsOn_L2_2 n2) (m_X8_sealsOn_L24_7 (m_X8_sealsOn_L2_2 n2) n7) (m_X8_sealsOn_L44_46 (m_X8_sealsOn_L2_2 n2) (m_X8_sealsOn_L24_7 (m_X8_sealsOn_L2_2 n2) n7) n46) n62) (m_X8_sealsOn_L174_139 (m_X8_sealsOn_L2_2 n2) (m_X8_sealsOn_L24_7 (m_X8_sealsOn_L2_2 n2) n7) (m_X8_sealsOn_L44_46 (m_X8_sealsOn_L2_2 n2) (m_X8_sealsOn_L24_7 (m_X8_sealsOn_L2_2 n2) n7) n46) (m_X8_sealsOn_L129_62 (m_X8_sealsOn_L2_2 n2) (m_X8_sealsOn_L24_7 (m_X8_sealsOn_L2_2 n2) n7) (m_X8_sealsOn_L44_46 (m_X8_sealsOn_L2_2 n2) (m_X8_sealsOn_L24_7 (m_X8_sealsOn_L2_2 n2) n7) n46) n62) n139) (AB3 ad F176) (nI q7139) r135 (nI q562) v58 (nI q27) p1 := hE140.trans ((show m_X8_sealsOn_L174_139_b (m_X8_sealsOn_L2_2 n2) (m_X8_sealsOn_L24_7 (m_X8_sealsOn_L2_2 n2) n7) (m_X8_sealsOn_L44_46 (m_X8_sealsOn_L2_2 n2) (m_X8_sealsOn_L24_7 (m_X8_sealsOn_L2_2 n2) n7) n46) (m_X8_sealsOn_L129_62 (m_X8_sealsOn_L2_2 n2) (m_X8_sealsOn_L24_7 (m_X8_sealsOn_L2_2 n2) n7) (m_X8_sealsOn_L44_46 (m_X8_sealsOn_L2_2 n2) (m_X8_sealsOn_L24_7 (m_X8_sealsOn_L2_2 n2) n7) n46) n62) (m_X8_sealsOn_L174_139 (m_X8_sealsOn_L2_2 n2) (m_X8_sealsOn_L24_7 (m_X8_sealsOn_L2_2 n2) n7) (m_X8_sealsOn_L44_46 (m_X8_sealsOn_L2_2 n2) (m_X8_sealsOn_L24_7 (m_X8_sealsOn_L2_2 n2) n7) n46) (m_X8_sealsOn_L129_62 (m_X8_sealsOn_L2_2 n2) (m_X8_sealsOn_L24_7 (m_X8_sealsOn_L2_2 n2) n7) (m_X8_sealsOn_L44_46 (m_X8_sealsOn_L2_2 n2) (m_X8_sealsOn_L24_7 (m_X8_sealsOn_L2_2 n2) n7) n46) n62) n139) (AB3 ad Fl139) (nI q7139) r135 (nI q562) v58 (nI q27) p1 = m_X8_sealsOn_177 (m_X8_sealsOn_L2_2 n2) (m_X8_sealsOn_L24_7 (m_X8_sealsOn_L2_2 n2) n7) (m_X8_sealsOn_L44_46 (m_X8_sealsOn_L2_2 n2) (m_X8_sealsOn_L24_7 (m_X8_sealsOn_L2_2 n2) n7) n46) (m_X8_sealsOn_L129_62 (m_X8_sealsOn_L2_2 n2) (m_X8_sealsOn_L24_7 (m_X8_sealsOn_L2_2 n2) n7) (m_X8_sealsOn_L44_46 (m_X8_sealsOn_L2_2 n2) (m_X8_sealsOn_L24_7 (m_X8_sealsOn_L2_2 n2) n7) n46) n62) (m_X8_sealsOn_L174_139 (m_X8_sealsOn_L2_2 n2) (m_X8_sealsOn_L24_7 (m_X8_sealsOn_L2_2 n2) n7) (m_X8_sealsOn_L44_46 (m_X8_sealsOn_L2_2 n2) (m_X8_sealsOn_L24_7 (m_X8_sealsOn_L2_2 n2) n7) n46) (m_X8_sealsOn_L129_62 (m_X8_sealsOn_L2_2 n2) (m_X8_sealsOn_L24_7 (m_X8_sealsOn_L2_2 n2) n7) (m_X8_sealsOn_L44_46 (m_X8_sealsOn_L2_2 n2) (m_X8_sealsOn_L24_7 (m_X8_sealsOn_L2_2 n2) n7) n46) n62) n139) ((AB3 ad Fl139).1, stL ((AB3 ad Fl139)).2 70 (rl (nI q27)) ((((AB3 ad Fl139)).2 70 (rl (nI q27))) ||| (m_X8_bit (AB3 ad Fl139).1 (nI q7139) (nI 0)))) (nI q7139) r135 (nI q562) v58 (nI q27) p1 from by unfold m_X8_sealsOn_L174_139_b; rw [if_neg (nle_cg m146 rfl c147), if_pos (eq_cg m160 rfl c161)]).trans (congr (congr (congr (congr (congr (congr (congrArg (m_X8_sealsOn_177 (m_X8_sealsOn_L2_2 n2) (m_X8_sealsOn_L24_7 (m_X8_sealsOn_L2_2 n2) n7) (m_X8_sealsOn_L44_46 (m_X8_sealsOn_L2_2 n2) (m_X8_sealsOn_L24_7 (m_X8_sealsOn_L2_2 n2) n7) n46) (m_X8_sealsOn_L129_62 (m_X8_sealsOn_L2_2 n2) (m_X8_sealsOn_L24_7 (m_X8_sealsOn_L2_2 n2) n7) (m_X8_sealsOn_L44_46 (m_X8_sealsOn_L2_2 n2) (m_X8_sealsOn_L24_7 (m_X8_sealsOn_L2_2 n2) n7) n46) n62) (m_X8_sealsOn_L174_139 (m_X8_sealsOn_L2_2 n2) (m_X8_sealsOn_L24_7 (m_X8_sealsOn_L2_2 n2) n7) (m_X8_sealsOn_L44_46 (m_X8_sealsOn_L2_2 n2) (m_X8_sealsOn_L24_7 (m_X8_sealsOn_L2_2 n2) n7) n46) (m_X8_sealsOn_L129_62 (m_X8_sealsOn_L2_2 n2) (m_X8_sealsOn_L24_7 (m_X8_sealsOn_L2_2 n2) n7) (m_X8_sealsOn_L44_46 (m_X8_sealsOn_L2_2 n2) (m_X8_sealsOn_L24_7 (m_X8_sealsOn_L2_2 n2) n7) n46) n62) n139)) (AM_cg (Eq.refl 70) (Eq.refl ((nI q27) : Int32)) m175 (AM_ast hF153 eF176))) (Eq.refl ((nI q7139) : Int32))) (Eq.refl (r135 : Int32))) (Eq.refl ((nI q562) : Int32))) (Eq.refl (v58 : Int64))) (Eq.refl ((nI q27) : Int32))) (Eq.refl (p1 : Int32))))
                          have m180 : ((nI q7139) + Int32.ofInt (1)) = (nI (q7139 + 1)) := (congrArg (fun q : Int32 => q + Int32.ofInt (1)) rfl).trans (nI_add _ 1)
                          refine lv_iinc (v := (nI (q7139 + 1))) (lv' := [(7, .int (nI (q7139 + 1))), (6, .int r135), (5, .int (nI q562)), (3, .long v58), (2, .int (nI q27)), (0, .ref (ad 58)), (1, .int p1)]) S.1 S.2.1 dX8_sealsOn_215 hl139 (k := 0) rfl (nI_add _ 1) (by decide) rfl (fun ls179 hl179 => ?_)
                          refine lv_goto (tgt := 174) S.1 S.2.1 dX8_sealsOn_218 (by decide) ?_
                          have hE181 : M = (m_X8_sealsOn_L174_139 (m_X8_sealsOn_L2_2 n2) (m_X8_sealsOn_L24_7 (m_X8_sealsOn_L2_2 n2) n7) (m_X8_sealsOn_L44_46 (m_X8_sealsOn_L2_2 n2) (m_X8_sealsOn_L24_7 (m_X8_sealsOn_L2_2 n2) n7) n46) (m_X8_sealsOn_L129_62 (m_X8_sealsOn_L2_2 n2) (m_X8_sealsOn_L24_7 (m_X8_sealsOn_L2_2 n2) n7) (m_X8_sealsOn_L44_46 (m_X8_sealsOn_L2_2 n2) (m_X8_sealsOn_L24_7 (m_X8_sealsOn_L2_2 n2) n7) n46) n62) n139) (AB3 ad F176) (nI (q7139 + 1)) r135 (nI q562) v58 (nI q27) p1 := hE178.trans ((show m_X8_sealsOn_177 (m_X8_sealsOn_L2_2 n2) (m_X8_sealsOn_L24_7 (m_X8_sealsOn_L2_2 n2) n7) (m_X8_sealsOn_L44_46 (m_X8_sealsOn_L2_2 n2) (m_X8_sealsOn_L24_7 (m_X8_sealsOn_L2_2 n2) n7) n46) (m_X8_sealsOn_L129_62 (m_X8_sealsOn_L2_2 n2) (m_X8_sealsOn_L24_7 (m_X8_sealsOn_L2_2 n2) n7) (m_X8_sealsOn_L44_46 (m_X8_sealsOn_L2_2 n2) (m_X8_sealsOn_L24_7 (m_X8_sealsOn_L2_2 n2) n7) n46) n62) (m_X8_sealsOn_L174_139 (m_X8_sealsOn_L2_2 n2) (m_X8_sealsOn_L24_7 (m_X8_sealsOn_L2_2 n2) n7) (m_X8_sealsOn_L44_46 (m_X8_sealsOn_L2_2 n2) (m_X8_sealsOn_L24_7 (m_X8_sealsOn_L2_2 n2) n7) n46) (m_X8_sealsOn_L129_62 (m_X8_sealsOn_L2_2 n2) (m_X8_sealsOn_L24_7 (m_X8_sealsOn_L2_2 n2) n7) (m_X8_sealsOn_L44_46 (m_X8_sealsOn_L2_2 n2) (m_X8_sealsOn_L24_7 (m_X8_sealsOn_L2_2 n2) n7) n46) n62) n139) (AB3 ad F176) (nI q7139) r135 (nI q562) v58 (nI q27) p1 = (m_X8_sealsOn_L174_139 (m_X8_sealsOn_L2_2 n2) (m_X8_sealsOn_L24_7 (m_X8_sealsOn_L2_2 n2) n7) (m_X8_sealsOn_L44_46 (m_X8_sealsOn_L2_2 n2) (m_X8_sealsOn_L24_7 (m_X8_sealsOn_L2_2 n2) n7) n46) (m_X8_sealsOn_L129_62 (m_X8_sealsOn_L2_2 n2) (m_X8_sealsOn_L24_7 (m_X8_sealsOn_L2_2 n2) n7) (m_X8_sealsOn_L44_46 (m_X8_sealsOn_L2_2 n2) (m_X8_sealsOn_L24_7 (m_X8_sealsOn_L2_2 n2) n7) n46) n62) n139) (AB3 ad F176) ((nI q7139) + Int32.ofInt (1)) r135 (nI q562) v58 (nI q27) p1 from rfl).trans (congr (congr (congr (congr (congr (congr (congrArg ((m_X8_sealsOn_L174_139 (m_X8_sealsOn_L2_2 n2) (m_X8_sealsOn_L24_7 (m_X8_sealsOn_L2_2 n2) n7) (m_X8_sealsOn_L44_46 (m_X8_sealsOn_L2_2 n2) (m_X8_sealsOn_L24_7 (m_X8_sealsOn_L2_2 n2) n7) n46) (m_X8_sealsOn_L129_62 (m_X8_sealsOn_L2_2 n2) (m_X8_sealsOn_L24_7 (m_X8_sealsOn_L2_2 n2) n7) (m_X8_sealsOn_L44_46 (m_X8_sealsOn_L2_2 n2) (m_X8_sealsOn_L24_7 (m_X8_sealsOn_L2_2 n2) n7) n46) n62) n139)) (rfl : AB3 ad F176 = AB3 ad F176)) m180) (Eq.refl (r135 : Int32))) (Eq.refl ((nI q562) : Int32))) (Eq.refl (v58 : Int64))) (Eq.refl ((nI q27) : Int32))) (Eq.refl (p1 : Int32))))
                          exact ih139 (q7139 + 1) F176 H176 locs176 (by omega) (by omega) hW176 hFr176 hP176 hS176 hE181 ls179 (lv_sub hl179 [0, 1, 2, 3, 4, 5, 6] rfl)
                      have hE182 : M = m_X8_sealsOn_L174_139 (m_X8_sealsOn_L2_2 n2) (m_X8_sealsOn_L24_7 (m_X8_sealsOn_L2_2 n2) n7) (m_X8_sealsOn_L44_46 (m_X8_sealsOn_L2_2 n2) (m_X8_sealsOn_L24_7 (m_X8_sealsOn_L2_2 n2) n7) n46) (m_X8_sealsOn_L129_62 (m_X8_sealsOn_L2_2 n2) (m_X8_sealsOn_L24_7 (m_X8_sealsOn_L2_2 n2) n7) (m_X8_sealsOn_L44_46 (m_X8_sealsOn_L2_2 n2) (m_X8_sealsOn_L24_7 (m_X8_sealsOn_L2_2 n2) n7) n46) n62) 2000 (AB3 ad Fl62) (nI 0) r135 (nI q562) v58 (nI q27) p1 := hE63.trans ((show m_X8_sealsOn_L129_62_b (m_X8_sealsOn_L2_2 n2) (m_X8_sealsOn_L24_7 (m_X8_sealsOn_L2_2 n2) n7) (m_X8_sealsOn_L44_46 (m_X8_sealsOn_L2_2 n2) (m_X8_sealsOn_L24_7 (m_X8_sealsOn_L2_2 n2) n7) n46) (m_X8_sealsOn_L129_62 (m_X8_sealsOn_L2_2 n2) (m_X8_sealsOn_L24_7 (m_X8_sealsOn_L2_2 n2) n7) (m_X8_sealsOn_L44_46 (m_X8_sealsOn_L2_2 n2) (m_X8_sealsOn_L24_7 (m_X8_sealsOn_L2_2 n2) n7) n46) n62) (AB3 ad Fl62) (nI q562) v58 (nI q27) p1 = m_X8_sealsOn_L174_139 (m_X8_sealsOn_L2_2 n2) (m_X8_sealsOn_L24_7 (m_X8_sealsOn_L2_2 n2) n7) (m_X8_sealsOn_L44_46 (m_X8_sealsOn_L2_2 n2) (m_X8_sealsOn_L24_7 (m_X8_sealsOn_L2_2 n2) n7) n46) (m_X8_sealsOn_L129_62 (m_X8_sealsOn_L2_2 n2) (m_X8_sealsOn_L24_7 (m_X8_sealsOn_L2_2 n2) n7) (m_X8_sealsOn_L44_46 (m_X8_sealsOn_L2_2 n2) (m_X8_sealsOn_L24_7 (m_X8_sealsOn_L2_2 n2) n7) n46) n62) 2000 (AB3 ad Fl62) (nI 0) (m_X8_walks (AB3 ad Fl62).1 (nI q562) ((AB3 ad Fl62).1 62 (rl (nI 5)))) (nI q562) v58 (nI q27) p1 from by unfold m_X8_sealsOn_L129_62_b; rw [if_neg (nle_cg m69 rfl c70), if_pos (eq_cg m81 rfl c82)]).trans (congr (congr (congr (congr (congr (congr (congrArg (m_X8_sealsOn_L174_139 (m_X8_sealsOn_L2_2 n2) (m_X8_sealsOn_L24_7 (m_X8_sealsOn_L2_2 n2) n7) (m_X8_sealsOn_L44_46 (m_X8_sealsOn_L2_2 n2) (m_X8_sealsOn_L24_7 (m_X8_sealsOn_L2_2 n2) n7) n46) (m_X8_sealsOn_L129_62 (m_X8_sealsOn_L2_2 n2) (m_X8_sealsOn_L24_7 (m_X8_sealsOn_L2_2 n2) n7) (m_X8_sealsOn_L44_46 (m_X8_sealsOn_L2_2 n2) (m_X8_sealsOn_L24_7 (m_X8_sealsOn_L2_2 n2) n7) n46) n62) 2000) (rfl : AB3 ad Fl62 = AB3 ad Fl62)) (Eq.refl ((nI 0) : Int32))) m136) (Eq.refl ((nI q562) : Int32))) (Eq.refl (v58 : Int64))) (Eq.refl ((nI q27) : Int32))) (Eq.refl (p1 : Int32))))
                      exact lp139 2000 (0) Fl62 Hl62 lol62 (by omega) (by omega) hWl62 hFl62 hPl62 hSl62 hE182 ls138 (lv_sub hl138 [0, 1, 2, 3, 4, 5, 6] rfl)
                  have hE183 : M = m_X8_sealsOn_L129_62 (m_X8_sealsOn_L2_2 n2) (m_X8_sealsOn_L24_7 (m_X8_sealsOn_L2_2 n2) n7) (m_X8_sealsOn_L44_46 (m_X8_sealsOn_L2_2 n2) (m_X8_sealsOn_L24_7 (m_X8_sealsOn_L2_2 n2) n7) n46) 2000 (AB3 ad Fl46) (nI 0) v58 (nI q27) p1 := hE47.trans ((show m_X8_sealsOn_L44_46_b (m_X8_sealsOn_L2_2 n2) (m_X8_sealsOn_L24_7 (m_X8_sealsOn_L2_2 n2) n7) (m_X8_sealsOn_L44_46 (m_X8_sealsOn_L2_2 n2) (m_X8_sealsOn_L24_7 (m_X8_sealsOn_L2_2 n2) n7) n46) (AB3 ad Fl46) (nI q346) (nI q27) p1 = m_X8_sealsOn_L129_62 (m_X8_sealsOn_L2_2 n2) (m_X8_sealsOn_L24_7 (m_X8_sealsOn_L2_2 n2) n7) (m_X8_sealsOn_L44_46 (m_X8_sealsOn_L2_2 n2) (m_X8_sealsOn_L24_7 (m_X8_sealsOn_L2_2 n2) n7) n46) 2000 (AB3 ad Fl46) (nI 0) (((AB3 ad Fl46)).2 69 (rl (nI q27))) (nI q27) p1 from by unfold m_X8_sealsOn_L44_46_b; rw [if_pos (le_cg m53 rfl c54)]).trans (congr (congr (congr (congr (congrArg (m_X8_sealsOn_L129_62 (m_X8_sealsOn_L2_2 n2) (m_X8_sealsOn_L24_7 (m_X8_sealsOn_L2_2 n2) n7) (m_X8_sealsOn_L44_46 (m_X8_sealsOn_L2_2 n2) (m_X8_sealsOn_L24_7 (m_X8_sealsOn_L2_2 n2) n7) n46) 2000) (rfl : AB3 ad Fl46 = AB3 ad Fl46)) (Eq.refl ((nI 0) : Int32))) m59) (Eq.refl ((nI q27) : Int32))) (Eq.refl (p1 : Int32))))
                  exact lp62 2000 (0) Fl46 Hl46 lol46 (by omega) (by omega) hWl46 hFl46 hPl46 hSl46 hE183 ls61 (lv_sub hl61 [0, 1, 2, 3, 4] rfl)
                have k184 := ci_nle (nI_toInt (n := b52) (by omega)) (nI_toInt (n := q346) (by omega)) c54
                refine lv_aload_n S.1 S.2.1 dX8_sealsOn_54 rfl (lv_at hl46 2 rfl) ?_
                refine r_get S hK hPl46 58 (by decide) hF48 (C := RX8) (T := TX8) (N := 23) hiX8 rfl 20 (by decide) (by decide +kernel) (v := .ref (ad 69)) rfl dX8_sealsOn_55 ?_
                refine lv_iload_n S.1 S.2.1 dX8_sealsOn_58 rfl (lv_at hl46 1 rfl) ?_
                obtain ⟨g185, hF185⟩ := wt_L hWl46 (show (69, 256) ∈ rLL by decide)
                refine r_lald S hK hPl46 69 (by decide) hF185 (vp_in_nI (show q27 < 256 by omega) (by omega)) dX8_sealsOn_59 ?_
                refine lv_topl (fun v187 e187 => ?_)
                have m188 : (((AB3 ad Fl46)).2 69 (rl (nI q27))) = v187 := (al_cg (Eq.refl 69) (Eq.refl ((nI q27) : Int32))).trans ((AM_g hF185).trans e187.symm)
                refine lv_ldc2 (v := 31) S.1 S.2.1 S.2.2.2.1 (S.2.2.2.2 (.constantLong RX8 182 (31)) (by decide +kernel)) dX8_sealsOn_60 ?_
                refine lv_iconst (v := (nI 5)) S.1 S.2.1 dX8_sealsOn_63 (by decide +kernel) ?_
                refine lv_iload_n S.1 S.2.1 dX8_sealsOn_64 rfl (lv_at hl46 0 rfl) ?_
                refine lv_imul S.1 S.2.1 dX8_sealsOn_65 ?_
                refine lv_topi (fun v189 e189 => ?_)
                obtain rfl : v189 = nI (5 * q346) := e189.trans (pk_mul _ _)
                have m190 : ((nI 5) * (nI q346)) = (nI (5 * q346)) := cg2 (fun (x : Int32) (y : Int32) => x * y) (Eq.refl ((nI 5) : Int32)) (Eq.refl ((nI q346) : Int32)) e189
                refine lv_lshl S.1 S.2.1 dX8_sealsOn_66 rfl ?_
                refine lv_topl (fun v191 e191 => ?_)
                have m192 : (((31) : Int64) <<< (((nI 5) * (nI q346)).toInt64 &&& 63)) = v191 := cg2 (fun (x : Int64) (y : Int32) => x <<< (y.toInt64 &&& 63)) (Eq.refl ((31) : Int64)) m190 e191
                refine lv_land S.1 S.2.1 dX8_sealsOn_67 ?_
                refine lv_topl (fun v193 e193 => ?_)
                have m194 : ((((AB3 ad Fl46)).2 69 (rl (nI q27))) &&& (((31) : Int64) <<< (((nI 5) * (nI q346)).toInt64 &&& 63))) = v193 := cg2 (fun (x : Int64) (y : Int64) => x &&& y) m188 m192 e193
                refine lv_lstore (lv' := [(4, .long v193), (3, .int (nI q346)), (2, .int (nI q27)), (0, .ref (ad 58)), (1, .int p1)]) S.1 S.2.1 dX8_sealsOn_68 hl46 (by decide) rfl (fun ls195 hl195 => ?_)
                refine lv_aload_n S.1 S.2.1 dX8_sealsOn_70 rfl (lv_at hl195 3 rfl) ?_
                refine lv_iload_n S.1 S.2.1 dX8_sealsOn_71 rfl (lv_at hl195 1 rfl) ?_
                refine lv_iload_n S.1 S.2.1 dX8_sealsOn_72 rfl (lv_at hl195 4 rfl) ?_
                have ta197 : ((nI q346) : Int32).toInt = ((q346 : Nat) : Int) := (nI_toInt (n := q346) (by omega))
                refine r_cVp (As := [.int (nI q346), .int p1]) (rest := []) S hK hZ hPl46 hSl46 hl195.1 58 (by decide) hF48 (C := RX8) rfl (c_X8_hasWork l D cA ad t hI Fl46 hWl46 (nI q346) p1 (by omega)) (cwV 2 S.2.2.2.2 gX8_sealsOn_X8_hasWork rfl rfl rfl (by decide +kernel) ⟨Nat.le_of_ble_eq_true rfl, Nat.le_of_ble_eq_true rfl⟩) rfl rfl (Nat.le_of_ble_eq_true rfl) ⟨Nat.zero_le _, Nat.zero_le _⟩ dX8_sealsOn_73 (fun r196 hr196 => ?_)
                obtain ⟨hr196, hm196⟩ := hr196
                obtain ⟨b198, hb198, rfl⟩ := hr196
                have m199 : (m_X8_hasWork (AB3 ad Fl46).1 (nI q346) p1) = (nI b198) := (congr (congr (Eq.refl (m_X8_hasWork (AB ad Fl46))) (Eq.refl ((nI q346) : Int32))) (Eq.refl (p1 : Int32))).trans hm196
                refine lv_if_eq (tgt := 85) S.1 S.2.1 dX8_sealsOn_76 (by decide) (fun c200 => ?_) (fun c200 => ?_)
                · skip
                  have k201 := ci_eq (nI_toInt (n := b198) (by omega)) z_ti c200
                  refine lv_iconst (v := (nI 0)) S.1 S.2.1 dX8_sealsOn_85 (by decide +kernel) ?_
                  refine lv_istore (lv' := [(6, .int (nI 0)), (4, .long v193), (3, .int (nI q346)), (2, .int (nI q27)), (0, .ref (ad 58)), (1, .int p1)]) S.1 S.2.1 dX8_sealsOn_86 hl195 (by decide) rfl (fun ls202 hl202 => ?_)
                  refine lv_aload_n S.1 S.2.1 dX8_sealsOn_88 rfl (lv_at hl202 4 rfl) ?_
                  refine r_get S hK hPl46 58 (by decide) hF48 (C := RX8) (T := TX8) (N := 23) hiX8 rfl 21 (by decide) (by decide +kernel) (v := .ref (ad 70)) rfl dX8_sealsOn_89 ?_
                  refine lv_iload_n S.1 S.2.1 dX8_sealsOn_92 rfl (lv_at hl202 3 rfl) ?_
                  refine lv_iload S.1 S.2.1 dX8_sealsOn_93 (lv_at hl202 0 rfl) ?_
                  refine lv_ior S.1 S.2.1 dX8_sealsOn_95 ?_
                  refine lv_topi (fun v203 e203 => ?_)
                  have m204 : ((nI q27) ||| (nI 0)) = v203 := cg2 (fun (x : Int32) (y : Int32) => x ||| y) (Eq.refl ((nI q27) : Int32)) (Eq.refl ((nI 0) : Int32)) e203
                  obtain rfl : v203 = nI q27 := e203.trans or_z
                  refine lv_dup2_11 S.1 S.2.1 dX8_sealsOn_96 rfl rfl ?_
                  obtain ⟨g206, hF206⟩ := wt_L hWl46 (show (70, 256) ∈ rLL by decide)
                  refine r_lald S hK hPl46 70 (by decide) hF206 (vp_in_nI (show q27 < 256 by omega) (by omega)) dX8_sealsOn_97 ?_
                  refine lv_topl (fun v208 e208 => ?_)
                  have m209 : (((AB3 ad Fl46)).2 70 (rl ((nI q27) ||| (nI 0)))) = v208 := (al_cg (Eq.refl 70) m204).trans ((AM_g hF206).trans e208.symm)
                  refine lv_aload_n S.1 S.2.1 dX8_sealsOn_98 rfl (lv_at hl202 4 rfl) ?_
                  refine lv_lload S.1 S.2.1 dX8_sealsOn_99 (lv_at hl202 1 rfl) ?_
                  refine lv_aload_n S.1 S.2.1 dX8_sealsOn_101 rfl (lv_at hl202 4 rfl) ?_
                  refine r_get S hK hPl46 58 (by decide) hF48 (C := RX8) (T := TX8) (N := 23) hiX8 rfl 4 (by decide) (by decide +kernel) (v := .ref (ad 62)) rfl dX8_sealsOn_102 ?_
                  refine lv_iconst (v := (nI 5)) S.1 S.2.1 dX8_sealsOn_105 (by decide +kernel) ?_
                  obtain ⟨g210, hF210, hg210⟩ := wt_I hWl46 (show (62, 7) ∈ rLI by decide)
                  refine r_iald S hK hPl46 62 (by decide) hF210 (vp_in_nI (show 5 < 7 by omega) (by omega)) dX8_sealsOn_106 ?_
                  refine lv_topi (fun v212 e212 => ?_)
                  have m213 : ((AB3 ad Fl46).1 62 (rl (nI 5))) = v212 := (ab_cg rfl rfl).trans ((AB_g hF210).trans e212.symm)
                  refine lv_iload_n S.1 S.2.1 dX8_sealsOn_107 rfl (lv_at hl202 2 rfl) ?_
                  refine r_cVl (As := [.long v193, .int v212, .int (nI q346)]) (rest := [.long v208, .int (nI q27), .ref (ad 70)]) S hK hZ hPl46 hSl46 hl202.1 58 (by decide) hF48 (C := RX8) rfl (c_X8_goes l D cA ad t hI Fl46 hWl46 v193 v212 (nI q346)) (cwV 3 S.2.2.2.2 gX8_sealsOn_X8_goes rfl rfl rfl (by decide +kernel) ⟨Nat.le_of_ble_eq_true rfl, Nat.le_of_ble_eq_true rfl⟩) rfl rfl (Nat.le_of_ble_eq_true rfl) ⟨Nat.zero_le _, Nat.zero_le _⟩ dX8_sealsOn_108 (fun r214 hr214 => ?_)
                  obtain ⟨hr214, hm214⟩ := hr214
                  have m215 : (m_X8_goes (AB3 ad Fl46).1 ((((AB3 ad Fl46)).2 69 (rl (nI q27))) &&& (((31) : Int64) <<< (((nI 5) * (nI q346)).toInt64 &&& 63))) ((AB3 ad Fl46).1 62 (rl (nI 5))) (nI q346)) = r214 := (congr (congr (congr (Eq.refl (m_X8_goes (AB ad Fl46))) m194) m213) (Eq.refl ((nI q346) : Int32))).trans hm214
                  refine lv_lor S.1 S.2.1 dX8_sealsOn_111 ?_
                  refine lv_topl (fun v216 e216 => ?_)
                  have m217 : ((((AB3 ad Fl46)).2 70 (rl ((nI q27) ||| (nI 0)))) ||| (m_X8_goes (AB3 ad Fl46).1 ((((AB3 ad Fl46)).2 69 (rl (nI q27))) &&& (((31) : Int64) <<< (((nI 5) * (nI q346)).toInt64 &&& 63))) ((AB3 ad Fl46).1 62 (rl (nI 5))) (nI q346))) = v216 := cg2 (fun (x : Int64) (y : Int64) => x ||| y) m209 m215 e216
                  refine r_last S hI hK hPl46 hSl46 70 (by decide) hF206 (vp_in_nI (show q27 < 256 by omega) (by omega)) dX8_sealsOn_112 (fun F218 H218 locs218 eF218 hP218 hS218 => ?_)
                  have hW218 := hWl46.up eF218 (ok_L (show (70, 256) ∈ rLL by decide) ⟨_, rfl⟩)
                  have hFr218 := hFl46.up eF218 (by simp <;> first | omega | (simp only [isC, isJ] at *; omega))
                  have hE220 : M = m_X8_sealsOn_219 (m_X8_sealsOn_L2_2 n2) (m_X8_sealsOn_L24_7 (m_X8_sealsOn_L2_2 n2) n7) (m_X8_sealsOn_L44_46 (m_X8_sealsOn_L2_2 n2) (m_X8_sealsOn_L24_7 (m_X8_sealsOn_L2_2 n2) n7) n46) (AB3 ad F218) v193 (nI q346) (nI q27) p1 := hE47.trans ((show m_X8_sealsOn_L44_46_b (m_X8_sealsOn_L2_2 n2) (m_X8_sealsOn_L24_7 (m_X8_sealsOn_L2_2 n2) n7) (m_X8_sealsOn_L44_46 (m_X8_sealsOn_L2_2 n2) (m_X8_sealsOn_L24_7 (m_X8_sealsOn_L2_2 n2) n7) n46) (AB3 ad Fl46) (nI q346) (nI q27) p1 = m_X8_sealsOn_219 (m_X8_sealsOn_L2_2 n2) (m_X8_sealsOn_L24_7 (m_X8_sealsOn_L2_2 n2) n7) (m_X8_sealsOn_L44_46 (m_X8_sealsOn_L2_2 n2) (m_X8_sealsOn_L24_7 (m_X8_sealsOn_L2_2 n2) n7) n46) ((AB3 ad Fl46).1, stL ((AB3 ad Fl46)).2 70 (rl ((nI q27) ||| (nI 0))) ((((AB3 ad Fl46)).2 70 (rl ((nI q27) ||| (nI 0)))) ||| (m_X8_goes (AB3 ad Fl46).1 ((((AB3 ad Fl46)).2 69 (rl (nI q27))) &&& (((31) : Int64) <<< (((nI 5) * (nI q346)).toInt64 &&& 63))) ((AB3 ad Fl46).1 62 (rl (nI 5))) (nI q346)))) ((((AB3 ad Fl46)).2 69 (rl (nI q27))) &&& (((31) : Int64) <<< (((nI 5) * (nI q346)).toInt64 &&& 63))) (nI q346) (nI q27) p1 from by unfold m_X8_sealsOn_L44_46_b; rw [if_neg (nle_cg m53 rfl c54), if_pos (eq_cg m199 rfl c200)]).trans (congr (congr (congr (congr (congrArg (m_X8_sealsOn_219 (m_X8_sealsOn_L2_2 n2) (m_X8_sealsOn_L24_7 (m_X8_sealsOn_L2_2 n2) n7) (m_X8_sealsOn_L44_46 (m_X8_sealsOn_L2_2 n2) (m_X8_sealsOn_L24_7 (m_X8_sealsOn_L2_2 n2) n7) n46)) (AM_cg (Eq.refl 70) m204 m217 (AM_ast hF206 eF218))) m194) (Eq.refl ((nI q346) : Int32))) (Eq.refl ((nI q27) : Int32))) (Eq.refl (p1 : Int32))))
                  have m222 : ((nI q346) + Int32.ofInt (1)) = (nI (q346 + 1)) := (congrArg (fun q : Int32 => q + Int32.ofInt (1)) rfl).trans (nI_add _ 1)
                  refine lv_iinc (v := (nI (q346 + 1))) (lv' := [(3, .int (nI (q346 + 1))), (6, .int (nI 0)), (4, .long v193), (2, .int (nI q27)), (0, .ref (ad 58)), (1, .int p1)]) S.1 S.2.1 dX8_sealsOn_113 hl202 (k := 2) rfl (nI_add _ 1) (by decide) rfl (fun ls221 hl221 => ?_)
                  refine lv_goto (tgt := 44) S.1 S.2.1 dX8_sealsOn_116 (by decide) ?_
                  have hE223 : M = (m_X8_sealsOn_L44_46 (m_X8_sealsOn_L2_2 n2) (m_X8_sealsOn_L24_7 (m_X8_sealsOn_L2_2 n2) n7) n46) (AB3 ad F218) (nI (q346 + 1)) (nI q27) p1 := hE220.trans ((show m_X8_sealsOn_219 (m_X8_sealsOn_L2_2 n2) (m_X8_sealsOn_L24_7 (m_X8_sealsOn_L2_2 n2) n7) (m_X8_sealsOn_L44_46 (m_X8_sealsOn_L2_2 n2) (m_X8_sealsOn_L24_7 (m_X8_sealsOn_L2_2 n2) n7) n46) (AB3 ad F218) v193 (nI q346) (nI q27) p1 = (m_X8_sealsOn_L44_46 (m_X8_sealsOn_L2_2 n2) (m_X8_sealsOn_L24_7 (m_X8_sealsOn_L2_2 n2) n7) n46) (AB3 ad F218) ((nI q346) + Int32.ofInt (1)) (nI q27) p1 from rfl).trans (congr (congr (congr (congrArg ((m_X8_sealsOn_L44_46 (m_X8_sealsOn_L2_2 n2) (m_X8_sealsOn_L24_7 (m_X8_sealsOn_L2_2 n2) n7) n46)) (rfl : AB3 ad F218 = AB3 ad F218)) m222) (Eq.refl ((nI q27) : Int32))) (Eq.refl (p1 : Int32))))
                  exact ih46 (q346 + 1) F218 H218 locs218 (by omega) (by omega) hW218 hFr218 hP218 hS218 hE223 ls221 (lv_sub hl221 [0, 3, 4, 5] rfl)
                have k224 := ci_ne (nI_toInt (n := b198) (by omega)) z_ti c200
                refine lv_iconst (v := (nI 1)) S.1 S.2.1 dX8_sealsOn_79 (by decide +kernel) ?_
                refine lv_iload_n S.1 S.2.1 dX8_sealsOn_80 rfl (lv_at hl195 1 rfl) ?_
                refine lv_ishl S.1 S.2.1 dX8_sealsOn_81 ?_
                refine lv_topi (fun v225 e225 => ?_)
                have m226 : ((nI 1) <<< ((nI q346) &&& 31)) = v225 := cg2 (fun (x : Int32) (y : Int32) => x <<< (y &&& 31)) (Eq.refl ((nI 1) : Int32)) (Eq.refl ((nI q346) : Int32)) e225
                refine lv_goto (tgt := 86) S.1 S.2.1 dX8_sealsOn_82 (by decide) ?_
                refine lv_istore (lv' := [(6, .int v225), (4, .long v193), (3, .int (nI q346)), (2, .int (nI q27)), (0, .ref (ad 58)), (1, .int p1)]) S.1 S.2.1 dX8_sealsOn_86 hl195 (by decide) rfl (fun ls227 hl227 => ?_)
                refine lv_aload_n S.1 S.2.1 dX8_sealsOn_88 rfl (lv_at hl227 4 rfl) ?_
                refine r_get S hK hPl46 58 (by decide) hF48 (C := RX8) (T := TX8) (N := 23) hiX8 rfl 21 (by decide) (by decide +kernel) (v := .ref (ad 70)) rfl dX8_sealsOn_89 ?_
                refine lv_iload_n S.1 S.2.1 dX8_sealsOn_92 rfl (lv_at hl227 3 rfl) ?_
                refine lv_iload S.1 S.2.1 dX8_sealsOn_93 (lv_at hl227 0 rfl) ?_
                refine lv_ior S.1 S.2.1 dX8_sealsOn_95 ?_
                refine lv_topi (fun v228 e228 => ?_)
                have m229 : ((nI q27) ||| ((nI 1) <<< ((nI q346) &&& 31))) = v228 := cg2 (fun (x : Int32) (y : Int32) => x ||| y) (Eq.refl ((nI q27) : Int32)) m226 e228
                obtain ⟨w230, hw230, ew230⟩ := or_t (w := q27) (k := q346) (by omega) (by omega)
                obtain rfl : v228 = nI w230 := by rw [e228, e225]; exact ew230
                refine lv_dup2_11 S.1 S.2.1 dX8_sealsOn_96 rfl rfl ?_
                obtain ⟨g231, hF231⟩ := wt_L hWl46 (show (70, 256) ∈ rLL by decide)
                refine r_lald S hK hPl46 70 (by decide) hF231 (vp_in_nI (show w230 < 256 by omega) (by omega)) dX8_sealsOn_97 ?_
                refine lv_topl (fun v233 e233 => ?_)
                have m234 : (((AB3 ad Fl46)).2 70 (rl ((nI q27) ||| ((nI 1) <<< ((nI q346) &&& 31))))) = v233 := (al_cg (Eq.refl 70) m229).trans ((AM_g hF231).trans e233.symm)
                refine lv_aload_n S.1 S.2.1 dX8_sealsOn_98 rfl (lv_at hl227 4 rfl) ?_
                refine lv_lload S.1 S.2.1 dX8_sealsOn_99 (lv_at hl227 1 rfl) ?_
                refine lv_aload_n S.1 S.2.1 dX8_sealsOn_101 rfl (lv_at hl227 4 rfl) ?_
                refine r_get S hK hPl46 58 (by decide) hF48 (C := RX8) (T := TX8) (N := 23) hiX8 rfl 4 (by decide) (by decide +kernel) (v := .ref (ad 62)) rfl dX8_sealsOn_102 ?_
                refine lv_iconst (v := (nI 5)) S.1 S.2.1 dX8_sealsOn_105 (by decide +kernel) ?_
                obtain ⟨g235, hF235, hg235⟩ := wt_I hWl46 (show (62, 7) ∈ rLI by decide)
                refine r_iald S hK hPl46 62 (by decide) hF235 (vp_in_nI (show 5 < 7 by omega) (by omega)) dX8_sealsOn_106 ?_
                refine lv_topi (fun v237 e237 => ?_)
                have m238 : ((AB3 ad Fl46).1 62 (rl (nI 5))) = v237 := (ab_cg rfl rfl).trans ((AB_g hF235).trans e237.symm)
                refine lv_iload_n S.1 S.2.1 dX8_sealsOn_107 rfl (lv_at hl227 2 rfl) ?_
                refine r_cVl (As := [.long v193, .int v237, .int (nI q346)]) (rest := [.long v233, .int (nI w230), .ref (ad 70)]) S hK hZ hPl46 hSl46 hl227.1 58 (by decide) hF48 (C := RX8) rfl (c_X8_goes l D cA ad t hI Fl46 hWl46 v193 v237 (nI q346)) (cwV 3 S.2.2.2.2 gX8_sealsOn_X8_goes rfl rfl rfl (by decide +kernel) ⟨Nat.le_of_ble_eq_true rfl, Nat.le_of_ble_eq_true rfl⟩) rfl rfl (Nat.le_of_ble_eq_true rfl) ⟨Nat.zero_le _, Nat.zero_le _⟩ dX8_sealsOn_108 (fun r239 hr239 => ?_)
                obtain ⟨hr239, hm239⟩ := hr239
                have m240 : (m_X8_goes (AB3 ad Fl46).1 ((((AB3 ad Fl46)).2 69 (rl (nI q27))) &&& (((31) : Int64) <<< (((nI 5) * (nI q346)).toInt64 &&& 63))) ((AB3 ad Fl46).1 62 (rl (nI 5))) (nI q346)) = r239 := (congr (congr (congr (Eq.refl (m_X8_goes (AB ad Fl46))) m194) m238) (Eq.refl ((nI q346) : Int32))).trans hm239
                refine lv_lor S.1 S.2.1 dX8_sealsOn_111 ?_
                refine lv_topl (fun v241 e241 => ?_)
                have m242 : ((((AB3 ad Fl46)).2 70 (rl ((nI q27) ||| ((nI 1) <<< ((nI q346) &&& 31))))) ||| (m_X8_goes (AB3 ad Fl46).1 ((((AB3 ad Fl46)).2 69 (rl (nI q27))) &&& (((31) : Int64) <<< (((nI 5) * (nI q346)).toInt64 &&& 63))) ((AB3 ad Fl46).1 62 (rl (nI 5))) (nI q346))) = v241 := cg2 (fun (x : Int64) (y : Int64) => x ||| y) m234 m240 e241
                refine r_last S hI hK hPl46 hSl46 70 (by decide) hF231 (vp_in_nI (show w230 < 256 by omega) (by omega)) dX8_sealsOn_112 (fun F243 H243 locs243 eF243 hP243 hS243 => ?_)
                have hW243 := hWl46.up eF243 (ok_L (show (70, 256) ∈ rLL by decide) ⟨_, rfl⟩)
                have hFr243 := hFl46.up eF243 (by simp <;> first | omega | (simp only [isC, isJ] at *; omega))
                have hE245 : M = m_X8_sealsOn_244 (m_X8_sealsOn_L2_2 n2) (m_X8_sealsOn_L24_7 (m_X8_sealsOn_L2_2 n2) n7) (m_X8_sealsOn_L44_46 (m_X8_sealsOn_L2_2 n2) (m_X8_sealsOn_L24_7 (m_X8_sealsOn_L2_2 n2) n7) n46) (AB3 ad F243) v225 v193 (nI q346) (nI q27) p1 := hE47.trans ((show m_X8_sealsOn_L44_46_b (m_X8_sealsOn_L2_2 n2) (m_X8_sealsOn_L24_7 (m_X8_sealsOn_L2_2 n2) n7) (m_X8_sealsOn_L44_46 (m_X8_sealsOn_L2_2 n2) (m_X8_sealsOn_L24_7 (m_X8_sealsOn_L2_2 n2) n7) n46) (AB3 ad Fl46) (nI q346) (nI q27) p1 = m_X8_sealsOn_244 (m_X8_sealsOn_L2_2 n2) (m_X8_sealsOn_L24_7 (m_X8_sealsOn_L2_2 n2) n7) (m_X8_sealsOn_L44_46 (m_X8_sealsOn_L2_2 n2) (m_X8_sealsOn_L24_7 (m_X8_sealsOn_L2_2 n2) n7) n46) ((AB3 ad Fl46).1, stL ((AB3 ad Fl46)).2 70 (rl ((nI q27) ||| ((nI 1) <<< ((nI q346) &&& 31)))) ((((AB3 ad Fl46)).2 70 (rl ((nI q27) ||| ((nI 1) <<< ((nI q346) &&& 31))))) ||| (m_X8_goes (AB3 ad Fl46).1 ((((AB3 ad Fl46)).2 69 (rl (nI q27))) &&& (((31) : Int64) <<< (((nI 5) * (nI q346)).toInt64 &&& 63))) ((AB3 ad Fl46).1 62 (rl (nI 5))) (nI q346)))) ((nI 1) <<< ((nI q346) &&& 31)) ((((AB3 ad Fl46)).2 69 (rl (nI q27))) &&& (((31) : Int64) <<< (((nI 5) * (nI q346)).toInt64 &&& 63))) (nI q346) (nI q27) p1 from by unfold m_X8_sealsOn_L44_46_b; rw [if_neg (nle_cg m53 rfl c54), if_neg (neq_cg m199 rfl c200)]).trans (congr (congr (congr (congr (congr (congrArg (m_X8_sealsOn_244 (m_X8_sealsOn_L2_2 n2) (m_X8_sealsOn_L24_7 (m_X8_sealsOn_L2_2 n2) n7) (m_X8_sealsOn_L44_46 (m_X8_sealsOn_L2_2 n2) (m_X8_sealsOn_L24_7 (m_X8_sealsOn_L2_2 n2) n7) n46)) (AM_cg (Eq.refl 70) m229 m242 (AM_ast hF231 eF243))) m226) m194) (Eq.refl ((nI q346) : Int32))) (Eq.refl ((nI q27) : Int32))) (Eq.refl (p1 : Int32))))
                have m247 : ((nI q346) + Int32.ofInt (1)) = (nI (q346 + 1)) := (congrArg (fun q : Int32 => q + Int32.ofInt (1)) rfl).trans (nI_add _ 1)
                refine lv_iinc (v := (nI (q346 + 1))) (lv' := [(3, .int (nI (q346 + 1))), (6, .int v225), (4, .long v193), (2, .int (nI q27)), (0, .ref (ad 58)), (1, .int p1)]) S.1 S.2.1 dX8_sealsOn_113 hl227 (k := 2) rfl (nI_add _ 1) (by decide) rfl (fun ls246 hl246 => ?_)
                refine lv_goto (tgt := 44) S.1 S.2.1 dX8_sealsOn_116 (by decide) ?_
                have hE248 : M = (m_X8_sealsOn_L44_46 (m_X8_sealsOn_L2_2 n2) (m_X8_sealsOn_L24_7 (m_X8_sealsOn_L2_2 n2) n7) n46) (AB3 ad F243) (nI (q346 + 1)) (nI q27) p1 := hE245.trans ((show m_X8_sealsOn_244 (m_X8_sealsOn_L2_2 n2) (m_X8_sealsOn_L24_7 (m_X8_sealsOn_L2_2 n2) n7) (m_X8_sealsOn_L44_46 (m_X8_sealsOn_L2_2 n2) (m_X8_sealsOn_L24_7 (m_X8_sealsOn_L2_2 n2) n7) n46) (AB3 ad F243) v225 v193 (nI q346) (nI q27) p1 = (m_X8_sealsOn_L44_46 (m_X8_sealsOn_L2_2 n2) (m_X8_sealsOn_L24_7 (m_X8_sealsOn_L2_2 n2) n7) n46) (AB3 ad F243) ((nI q346) + Int32.ofInt (1)) (nI q27) p1 from rfl).trans (congr (congr (congr (congrArg ((m_X8_sealsOn_L44_46 (m_X8_sealsOn_L2_2 n2) (m_X8_sealsOn_L24_7 (m_X8_sealsOn_L2_2 n2) n7) n46)) (rfl : AB3 ad F243 = AB3 ad F243)) m247) (Eq.refl ((nI q27) : Int32))) (Eq.refl (p1 : Int32))))
                exact ih46 (q346 + 1) F243 H243 locs243 (by omega) (by omega) hW243 hFr243 hP243 hS243 hE248 ls246 (lv_sub hl246 [0, 3, 4, 5] rfl)
            have hE249 : M = m_X8_sealsOn_L44_46 (m_X8_sealsOn_L2_2 n2) (m_X8_sealsOn_L24_7 (m_X8_sealsOn_L2_2 n2) n7) 2000 (AB3 ad Fl7) (nI 0) (nI q27) p1 := hE8.trans ((show m_X8_sealsOn_L24_7_b (m_X8_sealsOn_L2_2 n2) (m_X8_sealsOn_L24_7 (m_X8_sealsOn_L2_2 n2) n7) (AB3 ad Fl7) (nI q27) p1 = m_X8_sealsOn_L44_46 (m_X8_sealsOn_L2_2 n2) (m_X8_sealsOn_L24_7 (m_X8_sealsOn_L2_2 n2) n7) 2000 (AB3 ad Fl7) (nI 0) (nI q27) p1 from by unfold m_X8_sealsOn_L24_7_b; rw [if_neg (nle_cg rfl rfl c9), if_neg (neq_cg m38 rfl c39)]).trans (congr (congr (congr (congrArg (m_X8_sealsOn_L44_46 (m_X8_sealsOn_L2_2 n2) (m_X8_sealsOn_L24_7 (m_X8_sealsOn_L2_2 n2) n7) 2000) (rfl : AB3 ad Fl7 = AB3 ad Fl7)) (Eq.refl ((nI 0) : Int32))) (Eq.refl ((nI q27) : Int32))) (Eq.refl (p1 : Int32))))
            exact lp46 2000 (0) Fl7 Hl7 lol7 (by omega) (by omega) hWl7 hFl7 hPl7 hSl7 hE249 ls45 (lv_sub hl45 [0, 1, 2, 3] rfl)
        have hE250 : M = m_X8_sealsOn_L24_7 (m_X8_sealsOn_L2_2 n2) 2000 (AB3 ad Fl2) (nI 0) p1 := hE3.trans ((show m_X8_sealsOn_L2_2_b (m_X8_sealsOn_L2_2 n2) (AB3 ad Fl2) (nI q22) p1 = m_X8_sealsOn_L24_7 (m_X8_sealsOn_L2_2 n2) 2000 (AB3 ad Fl2) (nI 0) p1 from by unfold m_X8_sealsOn_L2_2_b; rw [if_pos (le_cg rfl rfl c4)]).trans (congr (congr (congrArg (m_X8_sealsOn_L24_7 (m_X8_sealsOn_L2_2 n2) 2000) (rfl : AB3 ad Fl2 = AB3 ad Fl2)) (Eq.refl ((nI 0) : Int32))) (Eq.refl (p1 : Int32))))
        exact lp7 2000 (0) Fl2 Hl2 lol2 (by omega) (by omega) hWl2 hFl2 hPl2 hSl2 hE250 ls6 (lv_sub hl6 [0, 1, 2] rfl)
      have k251 := ci_nle (nI_toInt (n := 256) (by omega)) (nI_toInt (n := q22) (by omega)) c4
      refine lv_aload_n S.1 S.2.1 dX8_sealsOn_9 rfl (lv_at hl2 1 rfl) ?_
      obtain ⟨ty252, kn252, no252, en252, at252, sa252, sd252, wr252, pl252, va252, hF252, hb252_1, hb252_2, hb252_3, hb252_4, hb252_5, hb252_6⟩ := wt_m hWl2
      refine r_get S hK hPl2 58 (by decide) hF252 (C := RX8) (T := TX8) (N := 23) hiX8 rfl 21 (by decide) (by decide +kernel) (v := .ref (ad 70)) rfl dX8_sealsOn_10 ?_
      refine lv_iload_n S.1 S.2.1 dX8_sealsOn_13 rfl (lv_at hl2 0 rfl) ?_
      refine lv_lconst (v := 0) S.1 S.2.1 dX8_sealsOn_14 (by decide +kernel) ?_
      obtain ⟨g253, hF253⟩ := wt_L hWl2 (show (70, 256) ∈ rLL by decide)
      refine r_last S hI hK hPl2 hSl2 70 (by decide) hF253 (vp_in_nI (show q22 < 256 by omega) (by omega)) dX8_sealsOn_15 (fun F254 H254 locs254 eF254 hP254 hS254 => ?_)
      have hW254 := hWl2.up eF254 (ok_L (show (70, 256) ∈ rLL by decide) ⟨_, rfl⟩)
      have hFr254 := hFl2.up eF254 (by simp <;> first | omega | (simp only [isC, isJ] at *; omega))
      have hE256 : M = m_X8_sealsOn_255 (m_X8_sealsOn_L2_2 n2) (AB3 ad F254) (nI q22) p1 := hE3.trans ((show m_X8_sealsOn_L2_2_b (m_X8_sealsOn_L2_2 n2) (AB3 ad Fl2) (nI q22) p1 = m_X8_sealsOn_255 (m_X8_sealsOn_L2_2 n2) ((AB3 ad Fl2).1, stL ((AB3 ad Fl2)).2 70 (rl (nI q22)) (0 : Int64)) (nI q22) p1 from by unfold m_X8_sealsOn_L2_2_b; rw [if_neg (nle_cg rfl rfl c4)]).trans (congr (congr (congrArg (m_X8_sealsOn_255 (m_X8_sealsOn_L2_2 n2)) (AM_cg (Eq.refl 70) (Eq.refl ((nI q22) : Int32)) (Eq.refl (0 : Int64)) (AM_ast hF253 eF254))) (Eq.refl ((nI q22) : Int32))) (Eq.refl (p1 : Int32))))
      have m258 : ((nI q22) + Int32.ofInt (1)) = (nI (q22 + 1)) := (congrArg (fun q : Int32 => q + Int32.ofInt (1)) rfl).trans (nI_add _ 1)
      refine lv_iinc (v := (nI (q22 + 1))) (lv' := [(2, .int (nI (q22 + 1))), (0, .ref (ad 58)), (1, .int p1)]) S.1 S.2.1 dX8_sealsOn_16 hl2 (k := 0) rfl (nI_add _ 1) (by decide) rfl (fun ls257 hl257 => ?_)
      refine lv_goto (tgt := 2) S.1 S.2.1 dX8_sealsOn_19 (by decide) ?_
      have hE259 : M = (m_X8_sealsOn_L2_2 n2) (AB3 ad F254) (nI (q22 + 1)) p1 := hE256.trans ((show m_X8_sealsOn_255 (m_X8_sealsOn_L2_2 n2) (AB3 ad F254) (nI q22) p1 = (m_X8_sealsOn_L2_2 n2) (AB3 ad F254) ((nI q22) + Int32.ofInt (1)) p1 from rfl).trans (congr (congr (congrArg ((m_X8_sealsOn_L2_2 n2)) (rfl : AB3 ad F254 = AB3 ad F254)) m258) (Eq.refl (p1 : Int32))))
      exact ih2 (q22 + 1) F254 H254 locs254 (by omega) (by omega) hW254 hFr254 hP254 hS254 hE259 ls257 (lv_sub hl257 [0, 1, 2] rfl)
  have hE260 : M = m_X8_sealsOn_L2_2 2000 (AB3 ad F) (nI 0) p1 := hM.trans ((show m_X8_sealsOn (AB3 ad F) p1 = m_X8_sealsOn_L2_2 2000 (AB3 ad F) (nI 0) p1 from rfl).trans (congr (congr (congrArg (m_X8_sealsOn_L2_2 2000) (rfl : AB3 ad F = AB3 ad F)) (Eq.refl ((nI 0) : Int32))) (Eq.refl (p1 : Int32))))
  exact lp2 2000 (0) F s.heap [] (by omega) (by omega) hW hFr hP hS hE260 ls1 (lv_sub hl1 [0, 1, 2] rfl)
noncomputable def m_X8_seals_103 (k0 : S3 → Int32 → Int32 → Int32 × S3) (σ : S3) (a0 : Int32) (a1 : Int32) : Int32 × S3 :=
  k0 σ (a0 + Int32.ofInt (1)) a1
noncomputable def m_X8_seals_69 (k0 : S3 → Int32 → Int32 → Int32 × S3) (k1 : S3 → Int32 → Int32 → Int32 × S3) (k2 : S3 → Int32 → Int32 → Int32 → Int32 × S3) (σ : S3) (a0 : Int32) (a1 : Int32) (a2 : Int32) : Int32 × S3 :=
  k1 σ (a1 + Int32.ofInt (1)) a2
noncomputable def m_X8_seals_L89_57_b (k0 : S3 → Int32 → Int32 → Int32 × S3) (k1 : S3 → Int32 → Int32 → Int32 × S3) (k2 : S3 → Int32 → Int32 → Int32 → Int32 × S3) (σ : S3) (a0 : Int32) (a1 : Int32) (a2 : Int32) : Int32 × S3 :=
  if (nI 256) ≤ a0 then
    m_X8_seals_69 k0 k1 k2 (m_X8_sealsOn σ ((σ.1 62 (rl (nI 1))) + a1)) a0 a1 a2
  else
    if (lg_cmp ((σ).2 69 (rl a0)) (0 : Int64)) = (0 : Int32) then
      k2 σ (a0 + Int32.ofInt (1)) a1 a2
    else
      if (a0 &&& a2) = a2 then
        (a1, σ)
      else
        k2 σ (a0 + Int32.ofInt (1)) a1 a2
noncomputable def m_X8_seals_L89_57 (k0 : S3 → Int32 → Int32 → Int32 × S3) (k1 : S3 → Int32 → Int32 → Int32 × S3) : Nat → S3 → Int32 → Int32 → Int32 → Int32 × S3
  | 0 => fun σ _ _ _ => (0, σ)
  | n + 1 => m_X8_seals_L89_57_b k0 k1 (m_X8_seals_L89_57 k0 k1 n)
noncomputable def m_X8_seals_L81_50_b (k0 : S3 → Int32 → Int32 → Int32 × S3) (k1 : S3 → Int32 → Int32 → Int32 × S3) (σ : S3) (a0 : Int32) (a1 : Int32) : Int32 × S3 :=
  if (nI 61) ≤ a0 then
    (((-1) : Int32), σ)
  else
    m_X8_seals_L89_57 k0 k1 2000 σ (nI 0) a0 a1
noncomputable def m_X8_seals_L81_50 (k0 : S3 → Int32 → Int32 → Int32 × S3) : Nat → S3 → Int32 → Int32 → Int32 × S3
  | 0 => fun σ _ _ => (0, σ)
  | n + 1 => m_X8_seals_L81_50_b k0 (m_X8_seals_L81_50 k0 n)
noncomputable def m_X8_seals_47 (k0 : S3 → Int32 → Int32 → Int32 × S3) (σ : S3) (a0 : Int32) (a1 : Int32) : Int32 × S3 :=
  m_X8_seals_L81_50 k0 2000 σ (nI 0) a1
noncomputable def m_X8_seals_L33_25_b (k0 : S3 → Int32 → Int32 → Int32 × S3) (σ : S3) (a0 : Int32) (a1 : Int32) : Int32 × S3 :=
  if (nI 256) ≤ a0 then
    m_X8_seals_47 k0 (σ.1, stL (σ).2 69 (rl (σ.1 62 (rl (nI 4)))) (m_X8_bit σ.1 (σ.1 62 (rl (nI 0))) (σ.1 62 (rl (nI 2))))) a0 a1
  else
    m_X8_seals_103 k0 (σ.1, stL (σ).2 69 (rl a0) (0 : Int64)) a0 a1
noncomputable def m_X8_seals_L33_25 : Nat → S3 → Int32 → Int32 → Int32 × S3
  | 0 => fun σ _ _ => (0, σ)
  | n + 1 => m_X8_seals_L33_25_b (m_X8_seals_L33_25 n)
noncomputable def m_X8_seals (σ : S3) (a0 : Int32) : Int32 × S3 :=
  if (m_X8_in σ.1 a0 (nI 0) (((nI 1) <<< ((σ.1 60 (rl (nI 2))) &&& 31)) - (nI 1))) = (0 : Int32) then
    (((-1000000001) : Int32), σ)
  else
    if (m_X8_goesOn σ.1) = (0 : Int32) then
      (((-1000000003) : Int32), σ)
    else
      m_X8_seals_L33_25 2000 σ (nI 0) a0
set_option maxHeartbeats 4000000 in
set_option maxRecDepth 100000 in
theorem cL_X8_seals (l : Launch) (D : va_G) (cA ad : Nat → Nat) (t : Nat) (hI : rI ad) (F : Nat → va_E) (hW : WT cA ad F) (p1 : Int32) : MI l D cA ad t yX8_seals wsX8_seals { frames := 4, cells := 0, slots := 0, locals := 105 } [.ref (ad 58), .int p1] F (fun r F' => WT cA ad F' ∧ rFr [69, 70] F F' ∧ ((True) ∧ m_X8_seals (AB3 ad F) p1 = (r, AB3 ad F'))) := by
  refine en_I rfl (by decide +kernel) (Nat.le_of_ble_eq_true rfl) ?_
  intro p e s m args below meth c ls0 Q S hK hZ hP hS hl0 hret
  have hl0 : lv_has ls0 4 [(0, .ref (ad 58)), (1, .int p1)] := hl0
  have hFr : rFr [69, 70] F F := rFr.rf
  have hiX8 : ∀ w ∈ u_ws RX8 TX8 23, w ∈ wsX8_seals := by decide +kernel
  obtain ⟨M, hM⟩ : ∃ M, M = m_X8_seals (AB3 ad F) p1 := ⟨_, rfl⟩
  refine lv_iload_n S.1 S.2.1 dX8_seals_0 rfl (lv_at hl0 1 rfl) ?_
  refine lv_iconst (v := (nI 0)) S.1 S.2.1 dX8_seals_1 (by decide +kernel) ?_
  refine lv_iconst (v := (nI 1)) S.1 S.2.1 dX8_seals_2 (by decide +kernel) ?_
  refine lv_aload_n S.1 S.2.1 dX8_seals_3 rfl (lv_at hl0 0 rfl) ?_
  obtain ⟨ty1, kn1, no1, en1, at1, sa1, sd1, wr1, pl1, va1, hF1, hb1_1, hb1_2, hb1_3, hb1_4, hb1_5, hb1_6⟩ := wt_m hW
  refine r_get S hK hP 58 (by decide) hF1 (C := RX8) (T := TX8) (N := 23) hiX8 rfl 2 (by decide) (by decide +kernel) (v := .ref (ad 60)) rfl dX8_seals_4 ?_
  refine lv_iconst (v := (nI 2)) S.1 S.2.1 dX8_seals_7 (by decide +kernel) ?_
  obtain ⟨g2, hF2, hg2⟩ := wt_I hW (show (60, 52) ∈ rLI by decide)
  refine r_iald S hK hP 60 (by decide) hF2 (vp_in_nI (show 2 < 52 by omega) (by omega)) dX8_seals_8 ?_
  refine lv_topi (fun v4 e4 => ?_)
  obtain ⟨b5, hb5, he5⟩ := (pr_T (by decide) (hg2 2 (by decide))).2.1 rfl
  obtain rfl : v4 = nI b5 := e4.trans he5
  have m6 : ((AB3 ad F).1 60 (rl (nI 2))) = (nI b5) := (ab_cg rfl rfl).trans ((AB_g hF2).trans e4.symm)
  refine lv_ishl S.1 S.2.1 dX8_seals_9 ?_
  refine lv_topi (fun v7 e7 => ?_)
  have m8 : ((nI 1) <<< (((AB3 ad F).1 60 (rl (nI 2))) &&& 31)) = v7 := cg2 (fun (x : Int32) (y : Int32) => x <<< (y &&& 31)) (Eq.refl ((nI 1) : Int32)) m6 e7
  refine lv_iconst (v := (nI 1)) S.1 S.2.1 dX8_seals_10 (by decide +kernel) ?_
  refine lv_isub S.1 S.2.1 dX8_seals_11 ?_
  refine lv_topi (fun v9 e9 => ?_)
  have m10 : (((nI 1) <<< (((AB3 ad F).1 60 (rl (nI 2))) &&& 31)) - (nI 1)) = v9 := cg2 (fun (x : Int32) (y : Int32) => x - y) m8 (Eq.refl ((nI 1) : Int32)) e9
  refine r_cSp (As := [.int p1, .int (nI 0), .int v9]) (rest := []) S hK hZ hP hS hl0.1 (c_X8_in l D cA ad t hI F hW p1 (nI 0) v9) (va_cwS 3 S.2.2.2.2 gX8_seals_X8_in rfl rfl rfl (by decide +kernel) ⟨Nat.le_of_ble_eq_true rfl, Nat.le_of_ble_eq_true rfl⟩) rfl rfl (Nat.le_of_ble_eq_true rfl) ⟨Nat.zero_le _, Nat.zero_le _⟩ dX8_seals_12 (fun r11 hr11 => ?_)
  obtain ⟨hr11, hm11⟩ := hr11
  obtain ⟨⟨b12, hb12, rfl⟩, hx12, hz12⟩ := hr11
  have ta13 : (p1 : Int32).toInt = p1.toInt := rfl
  have ta14 : ((nI 0) : Int32).toInt = ((0 : Nat) : Int) := (nI_toInt (n := 0) (by omega))
  have ta15 : (v9 : Int32).toInt = v9.toInt := rfl
  have hy12 : b12 ≠ 0 → ((0 : Nat) : Int) ≤ p1.toInt ∧ p1.toInt ≤ v9.toInt := fun q => by have h9 := hx12 (nI_ne0 (by omega) (by omega)); omega
  have hu12 : b12 = 0 → p1.toInt < ((0 : Nat) : Int) ∨ v9.toInt < p1.toInt := fun q => by have h9 := hz12 (by rw [q]; rfl); omega
  have m16 : (m_X8_in (AB3 ad F).1 p1 (nI 0) (((nI 1) <<< (((AB3 ad F).1 60 (rl (nI 2))) &&& 31)) - (nI 1))) = (nI b12) := (congr (congr (congr (Eq.refl (m_X8_in (AB ad F))) (Eq.refl (p1 : Int32))) (Eq.refl ((nI 0) : Int32))) m10).trans hm11
  refine lv_if_ne (tgt := 21) S.1 S.2.1 dX8_seals_15 (by decide) (fun c17 => ?_) (fun c17 => ?_)
  · skip
    have k18 := ci_ne (nI_toInt (n := b12) (by omega)) z_ti c17
    refine lv_aload_n S.1 S.2.1 dX8_seals_21 rfl (lv_at hl0 0 rfl) ?_
    refine r_cVp (As := []) (rest := []) S hK hZ hP hS hl0.1 58 (by decide) hF1 (C := RX8) rfl (c_X8_goesOn l D cA ad t hI F hW ) (cwV 0 S.2.2.2.2 gX8_seals_X8_goesOn rfl rfl rfl (by decide +kernel) ⟨Nat.le_of_ble_eq_true rfl, Nat.le_of_ble_eq_true rfl⟩) rfl rfl (Nat.le_of_ble_eq_true rfl) ⟨Nat.zero_le _, Nat.zero_le _⟩ dX8_seals_22 (fun r19 hr19 => ?_)
    obtain ⟨hr19, hm19⟩ := hr19
    obtain ⟨b20, hb20, rfl⟩ := hr19
    have m21 : (m_X8_goesOn (AB3 ad F).1) = (nI b20) := (Eq.refl (m_X8_goesOn (AB ad F))).trans hm19
    refine lv_if_ne (tgt := 31) S.1 S.2.1 dX8_seals_25 (by decide) (fun c22 => ?_) (fun c22 => ?_)
    · skip
      have k23 := ci_ne (nI_toInt (n := b20) (by omega)) z_ti c22
      refine lv_iconst (v := (nI 0)) S.1 S.2.1 dX8_seals_31 (by decide +kernel) ?_
      refine lv_istore_n (lv' := [(2, .int (nI 0)), (0, .ref (ad 58)), (1, .int p1)]) S.1 S.2.1 dX8_seals_32 rfl hl0 (by decide) rfl (fun ls24 hl24 => ?_)
      have lp25 : ∀ (n25 : Nat) (q225 : Nat), ∀ (Fl25 : Nat → va_E) (Hl25 : Heap) (lol25 : List Loc), q225 ≤ 256 → 256 - q225 < n25 → WT cA ad Fl25 → rFr [69, 70] F Fl25 → va_P D vwCl (rW ad Fl25) Hl25 → va_S (rA ad) s.heap Hl25 lol25 → M = m_X8_seals_L33_25 n25 (AB3 ad Fl25) (nI q225) p1 → ∀ (ls : Array Slot), lv_has ls 4 [(2, .int (nI q225)), (0, .ref (ad 58)), (1, .int p1)] → W p l e { frames := 4, cells := 0, slots := 0, locals := 105 } s m args below meth c Hl25 lol25 0 0 Q (F0 m 33 ls []) := by
        intro n25
        induction n25 with
        | zero =>
          intro q225 Fl25 Hl25 lol25 iv25_0 hm25 hWl25 hFl25 hPl25 hSl25 hEl25 ls25 hl25
          exact absurd hm25 (Nat.not_lt_zero _)
        | succ n25 ih25 =>
          intro q225 Fl25 Hl25 lol25 iv25_0 hm25 hWl25 hFl25 hPl25 hSl25 hEl25 ls25 hl25
          have hE26 : M = m_X8_seals_L33_25_b (m_X8_seals_L33_25 n25) (AB3 ad Fl25) (nI q225) p1 := hEl25
          refine lv_iload_n S.1 S.2.1 dX8_seals_33 rfl (lv_at hl25 0 rfl) ?_
          refine lv_sipush (v := (nI 256)) S.1 S.2.1 dX8_seals_34 (by decide +kernel) ?_
          refine lv_icmp_ge (tgt := 53) S.1 S.2.1 dX8_seals_37 (by decide) (fun c27 => ?_) (fun c27 => ?_)
          · skip
            have k28 := ci_le (nI_toInt (n := 256) (by omega)) (nI_toInt (n := q225) (by omega)) c27
            refine lv_aload_n S.1 S.2.1 dX8_seals_53 rfl (lv_at hl25 1 rfl) ?_
            obtain ⟨ty29, kn29, no29, en29, at29, sa29, sd29, wr29, pl29, va29, hF29, hb29_1, hb29_2, hb29_3, hb29_4, hb29_5, hb29_6⟩ := wt_m hWl25
            refine r_get S hK hPl25 58 (by decide) hF29 (C := RX8) (T := TX8) (N := 23) hiX8 rfl 20 (by decide) (by decide +kernel) (v := .ref (ad 69)) rfl dX8_seals_54 ?_
            refine lv_aload_n S.1 S.2.1 dX8_seals_57 rfl (lv_at hl25 1 rfl) ?_
            refine r_get S hK hPl25 58 (by decide) hF29 (C := RX8) (T := TX8) (N := 23) hiX8 rfl 4 (by decide) (by decide +kernel) (v := .ref (ad 62)) rfl dX8_seals_58 ?_
            refine lv_iconst (v := (nI 4)) S.1 S.2.1 dX8_seals_61 (by decide +kernel) ?_
            obtain ⟨g30, hF30, hg30⟩ := wt_I hWl25 (show (62, 7) ∈ rLI by decide)
            refine r_iald S hK hPl25 62 (by decide) hF30 (vp_in_nI (show 4 < 7 by omega) (by omega)) dX8_seals_62 ?_
            refine lv_topi (fun v32 e32 => ?_)
            obtain ⟨b33, hb33, he33⟩ := (pr_S (hg30 4 (by decide))).2.2 rfl
            obtain rfl : v32 = nI b33 := e32.trans he33
            have m34 : ((AB3 ad Fl25).1 62 (rl (nI 4))) = (nI b33) := (ab_cg rfl rfl).trans ((AB_g hF30).trans e32.symm)
            refine lv_aload_n S.1 S.2.1 dX8_seals_63 rfl (lv_at hl25 1 rfl) ?_
            refine r_get S hK hPl25 58 (by decide) hF29 (C := RX8) (T := TX8) (N := 23) hiX8 rfl 4 (by decide) (by decide +kernel) (v := .ref (ad 62)) rfl dX8_seals_64 ?_
            refine lv_iconst (v := (nI 0)) S.1 S.2.1 dX8_seals_67 (by decide +kernel) ?_
            refine r_iald S hK hPl25 62 (by decide) hF30 (vp_in_nI (show 0 < 7 by omega) (by omega)) dX8_seals_68 ?_
            refine lv_topi (fun v36 e36 => ?_)
            obtain ⟨b37, hb37, he37⟩ := (pr_S (hg30 0 (by decide))).1 rfl
            obtain rfl : v36 = nI b37 := e36.trans he37
            have m38 : ((AB3 ad Fl25).1 62 (rl (nI 0))) = (nI b37) := (ab_cg rfl rfl).trans ((AB_g hF30).trans e36.symm)
            refine lv_aload_n S.1 S.2.1 dX8_seals_69 rfl (lv_at hl25 1 rfl) ?_
            refine r_get S hK hPl25 58 (by decide) hF29 (C := RX8) (T := TX8) (N := 23) hiX8 rfl 4 (by decide) (by decide +kernel) (v := .ref (ad 62)) rfl dX8_seals_70 ?_
            refine lv_iconst (v := (nI 2)) S.1 S.2.1 dX8_seals_73 (by decide +kernel) ?_
            refine r_iald S hK hPl25 62 (by decide) hF30 (vp_in_nI (show 2 < 7 by omega) (by omega)) dX8_seals_74 ?_
            refine lv_topi (fun v40 e40 => ?_)
            obtain ⟨b41, hb41, he41⟩ := (pr_S (hg30 2 (by decide))).2.1 rfl
            obtain rfl : v40 = nI b41 := e40.trans he41
            have m42 : ((AB3 ad Fl25).1 62 (rl (nI 2))) = (nI b41) := (ab_cg rfl rfl).trans ((AB_g hF30).trans e40.symm)
            refine r_cSl (As := [.int (nI b37), .int (nI b41)]) (rest := [.int (nI b33), .ref (ad 69)]) S hK hZ hPl25 hSl25 hl25.1 (c_X8_bit l D cA ad t hI Fl25 hWl25 (nI b37) (nI b41)) (va_cwS 2 S.2.2.2.2 gX8_seals_X8_bit rfl rfl rfl (by decide +kernel) ⟨Nat.le_of_ble_eq_true rfl, Nat.le_of_ble_eq_true rfl⟩) rfl rfl (Nat.le_of_ble_eq_true rfl) ⟨Nat.zero_le _, Nat.zero_le _⟩ dX8_seals_75 (fun r43 hr43 => ?_)
            obtain ⟨hr43, hm43⟩ := hr43
            have m44 : (m_X8_bit (AB3 ad Fl25).1 ((AB3 ad Fl25).1 62 (rl (nI 0))) ((AB3 ad Fl25).1 62 (rl (nI 2)))) = r43 := (congr (congr (Eq.refl (m_X8_bit (AB ad Fl25))) m38) m42).trans hm43
            obtain ⟨g45, hF45⟩ := wt_L hWl25 (show (69, 256) ∈ rLL by decide)
            refine r_last S hI hK hPl25 hSl25 69 (by decide) hF45 (vp_in_nI (show b33 < 256 by omega) (by omega)) dX8_seals_78 (fun F46 H46 locs46 eF46 hP46 hS46 => ?_)
            have hW46 := hWl25.up eF46 (ok_L (show (69, 256) ∈ rLL by decide) ⟨_, rfl⟩)
            have hFr46 := hFl25.up eF46 (by simp <;> first | omega | (simp only [isC, isJ] at *; omega))
            have hE48 : M = m_X8_seals_47 (m_X8_seals_L33_25 n25) (AB3 ad F46) (nI q225) p1 := hE26.trans ((show m_X8_seals_L33_25_b (m_X8_seals_L33_25 n25) (AB3 ad Fl25) (nI q225) p1 = m_X8_seals_47 (m_X8_seals_L33_25 n25) ((AB3 ad Fl25).1, stL ((AB3 ad Fl25)).2 69 (rl ((AB3 ad Fl25).1 62 (rl (nI 4)))) (m_X8_bit (AB3 ad Fl25).1 ((AB3 ad Fl25).1 62 (rl (nI 0))) ((AB3 ad Fl25).1 62 (rl (nI 2))))) (nI q225) p1 from by unfold m_X8_seals_L33_25_b; rw [if_pos (le_cg rfl rfl c27)]).trans (congr (congr (congrArg (m_X8_seals_47 (m_X8_seals_L33_25 n25)) (AM_cg (Eq.refl 69) m34 m44 (AM_ast hF45 eF46))) (Eq.refl ((nI q225) : Int32))) (Eq.refl (p1 : Int32))))
            refine lv_iconst (v := (nI 0)) S.1 S.2.1 dX8_seals_79 (by decide +kernel) ?_
            refine lv_istore_n (lv' := [(2, .int (nI 0)), (0, .ref (ad 58)), (1, .int p1)]) S.1 S.2.1 dX8_seals_80 rfl hl25 (by decide) rfl (fun ls49 hl49 => ?_)
            have lp50 : ∀ (n50 : Nat) (q250 : Nat), ∀ (Fl50 : Nat → va_E) (Hl50 : Heap) (lol50 : List Loc), q250 ≤ 61 → 61 - q250 < n50 → WT cA ad Fl50 → rFr [69, 70] F Fl50 → va_P D vwCl (rW ad Fl50) Hl50 → va_S (rA ad) s.heap Hl50 lol50 → M = m_X8_seals_L81_50 (m_X8_seals_L33_25 n25) n50 (AB3 ad Fl50) (nI q250) p1 → ∀ (ls : Array Slot), lv_has ls 4 [(2, .int (nI q250)), (0, .ref (ad 58)), (1, .int p1)] → W p l e { frames := 4, cells := 0, slots := 0, locals := 105 } s m args below meth c Hl50 lol50 0 0 Q (F0 m 81 ls []) := by
              intro n50
              induction n50 with
              | zero =>
                intro q250 Fl50 Hl50 lol50 iv50_0 hm50 hWl50 hFl50 hPl50 hSl50 hEl50 ls50 hl50
                exact absurd hm50 (Nat.not_lt_zero _)
              | succ n50 ih50 =>
                intro q250 Fl50 Hl50 lol50 iv50_0 hm50 hWl50 hFl50 hPl50 hSl50 hEl50 ls50 hl50
                have hE51 : M = m_X8_seals_L81_50_b (m_X8_seals_L33_25 n25) (m_X8_seals_L81_50 (m_X8_seals_L33_25 n25) n50) (AB3 ad Fl50) (nI q250) p1 := hEl50
                refine lv_iload_n S.1 S.2.1 dX8_seals_81 rfl (lv_at hl50 0 rfl) ?_
                refine lv_bipush (v := (nI 61)) S.1 S.2.1 dX8_seals_82 (by decide +kernel) ?_
                refine lv_icmp_ge (tgt := 140) S.1 S.2.1 dX8_seals_84 (by decide) (fun c52 => ?_) (fun c52 => ?_)
                · skip
                  have k53 := ci_le (nI_toInt (n := 61) (by omega)) (nI_toInt (n := q250) (by omega)) c52
                  refine lv_iconst (v := (-1)) S.1 S.2.1 dX8_seals_140 (by decide +kernel) ?_
                  have hE54 : M = ((-1), AB3 ad Fl50) := hE51.trans ((show m_X8_seals_L81_50_b (m_X8_seals_L33_25 n25) (m_X8_seals_L81_50 (m_X8_seals_L33_25 n25) n50) (AB3 ad Fl50) (nI q250) p1 = (((-1) : Int32), (AB3 ad Fl50)) from by unfold m_X8_seals_L81_50_b; rw [if_pos (le_cg rfl rfl c52)]).trans (congrArg (fun q => (q, AB3 ad Fl50)) rfl))
                  exact hret 141 _ _ _ _ _ dX8_seals_141 rfl hPl50 hSl50 ⟨hWl50, hFl50, ⟨trivial, hM.symm.trans hE54⟩⟩
                have k55 := ci_nle (nI_toInt (n := 61) (by omega)) (nI_toInt (n := q250) (by omega)) c52
                refine lv_iconst (v := (nI 0)) S.1 S.2.1 dX8_seals_87 (by decide +kernel) ?_
                refine lv_istore_n (lv' := [(3, .int (nI 0)), (2, .int (nI q250)), (0, .ref (ad 58)), (1, .int p1)]) S.1 S.2.1 dX8_seals_88 rfl hl50 (by decide) rfl (fun ls56 hl56 => ?_)
                have lp57 : ∀ (n57 : Nat) (q357 : Nat), q357 ≤ 256 → 256 - q357 < n57 → M = m_X8_seals_L89_57 (m_X8_seals_L33_25 n25) (m_X8_seals_L81_50 (m_X8_seals_L33_25 n25) n50) n57 (AB3 ad Fl50) (nI q357) (nI q250) p1 → ∀ (ls : Array Slot), lv_has ls 4 [(3, .int (nI q357)), (2, .int (nI q250)), (0, .ref (ad 58)), (1, .int p1)] → W p l e { frames := 4, cells := 0, slots := 0, locals := 105 } s m args below meth c Hl50 lol50 0 0 Q (F0 m 89 ls []) := by
                  intro n57
                  induction n57 with
                  | zero =>
                    intro q357 iv57_0 hm57 hEl57 ls57 hl57
                    exact absurd hm57 (Nat.not_lt_zero _)
                  | succ n57 ih57 =>
                    intro q357 iv57_0 hm57 hEl57 ls57 hl57
                    have hE58 : M = m_X8_seals_L89_57_b (m_X8_seals_L33_25 n25) (m_X8_seals_L81_50 (m_X8_seals_L33_25 n25) n50) (m_X8_seals_L89_57 (m_X8_seals_L33_25 n25) (m_X8_seals_L81_50 (m_X8_seals_L33_25 n25) n50) n57) (AB3 ad Fl50) (nI q357) (nI q250) p1 := hEl57
                    refine lv_iload_n S.1 S.2.1 dX8_seals_89 rfl (lv_at hl57 0 rfl) ?_
                    refine lv_sipush (v := (nI 256)) S.1 S.2.1 dX8_seals_90 (by decide +kernel) ?_
                    refine lv_icmp_ge (tgt := 122) S.1 S.2.1 dX8_seals_93 (by decide) (fun c59 => ?_) (fun c59 => ?_)
                    · skip
                      have k60 := ci_le (nI_toInt (n := 256) (by omega)) (nI_toInt (n := q357) (by omega)) c59
                      refine lv_aload_n S.1 S.2.1 dX8_seals_122 rfl (lv_at hl57 2 rfl) ?_
                      refine lv_aload_n S.1 S.2.1 dX8_seals_123 rfl (lv_at hl57 2 rfl) ?_
                      obtain ⟨ty61, kn61, no61, en61, at61, sa61, sd61, wr61, pl61, va61, hF61, hb61_1, hb61_2, hb61_3, hb61_4, hb61_5, hb61_6⟩ := wt_m hWl50
                      refine r_get S hK hPl50 58 (by decide) hF61 (C := RX8) (T := TX8) (N := 23) hiX8 rfl 4 (by decide) (by decide +kernel) (v := .ref (ad 62)) rfl dX8_seals_124 ?_
                      refine lv_iconst (v := (nI 1)) S.1 S.2.1 dX8_seals_127 (by decide +kernel) ?_
                      obtain ⟨g62, hF62, hg62⟩ := wt_I hWl50 (show (62, 7) ∈ rLI by decide)
                      refine r_iald S hK hPl50 62 (by decide) hF62 (vp_in_nI (show 1 < 7 by omega) (by omega)) dX8_seals_128 ?_
                      refine lv_topi (fun v64 e64 => ?_)
                      have m65 : ((AB3 ad Fl50).1 62 (rl (nI 1))) = v64 := (ab_cg rfl rfl).trans ((AB_g hF62).trans e64.symm)
                      refine lv_iload_n S.1 S.2.1 dX8_seals_129 rfl (lv_at hl57 1 rfl) ?_
                      refine lv_iadd S.1 S.2.1 dX8_seals_130 ?_
                      refine lv_topi (fun v66 e66 => ?_)
                      have m67 : (((AB3 ad Fl50).1 62 (rl (nI 1))) + (nI q250)) = v66 := cg2 (fun (x : Int32) (y : Int32) => x + y) m65 (Eq.refl ((nI q250) : Int32)) e66
                      refine r_cVv (As := [.int v66]) (rest := []) S hK hZ hPl50 hSl50 hl57.1 58 (by decide) hF61 (C := RX8) rfl (cL_X8_sealsOn l D cA ad t hI Fl50 hWl50 v66) (cwV 1 S.2.2.2.2 gX8_seals_X8_sealsOn rfl rfl rfl (by decide +kernel) ⟨Nat.le_of_ble_eq_true rfl, Nat.le_of_ble_eq_true rfl⟩) rfl rfl (Nat.le_of_ble_eq_true rfl) ⟨Nat.zero_le _, Nat.zero_le _⟩ dX8_seals_131 (fun F68 H68 locs68 hr68 hP68 hS68 => ?_)
                      obtain ⟨hW68, hFc68, hr68⟩ := hr68
                      obtain ⟨hr68, hm68⟩ := hr68
                      have hFr68 := hFl50.tr hFc68 (by simp <;> first | omega | (simp only [isC, isJ] at *; omega))
                      have hE70 : M = m_X8_seals_69 (m_X8_seals_L33_25 n25) (m_X8_seals_L81_50 (m_X8_seals_L33_25 n25) n50) (m_X8_seals_L89_57 (m_X8_seals_L33_25 n25) (m_X8_seals_L81_50 (m_X8_seals_L33_25 n25) n50) n57) (AB3 ad F68) (nI q357) (nI q250) p1 := hE58.trans ((show m_X8_seals_L89_57_b (m_X8_seals_L33_25 n25) (m_X8_seals_L81_50 (m_X8_seals_L33_25 n25) n50) (m_X8_seals_L89_57 (m_X8_seals_L33_25 n25) (m_X8_seals_L81_50 (m_X8_seals_L33_25 n25) n50) n57) (AB3 ad Fl50) (nI q357) (nI q250) p1 = m_X8_seals_69 (m_X8_seals_L33_25 n25) (m_X8_seals_L81_50 (m_X8_seals_L33_25 n25) n50) (m_X8_seals_L89_57 (m_X8_seals_L33_25 n25) (m_X8_seals_L81_50 (m_X8_seals_L33_25 n25) n50) n57) (m_X8_sealsOn (AB3 ad Fl50) (((AB3 ad Fl50).1 62 (rl (nI 1))) + (nI q250))) (nI q357) (nI q250) p1 from by unfold m_X8_seals_L89_57_b; rw [if_pos (le_cg rfl rfl c59)]).trans (congr (congr (congr (congrArg (m_X8_seals_69 (m_X8_seals_L33_25 n25) (m_X8_seals_L81_50 (m_X8_seals_L33_25 n25) n50) (m_X8_seals_L89_57 (m_X8_seals_L33_25 n25) (m_X8_seals_L81_50 (m_X8_seals_L33_25 n25) n50) n57)) ((congr (Eq.refl (m_X8_sealsOn (AB3 ad Fl50))) m67).trans hm68)) (Eq.refl ((nI q357) : Int32))) (Eq.refl ((nI q250) : Int32))) (Eq.refl (p1 : Int32))))
                      have m72 : ((nI q250) + Int32.ofInt (1)) = (nI (q250 + 1)) := (congrArg (fun q : Int32 => q + Int32.ofInt (1)) rfl).trans (nI_add _ 1)
                      refine lv_iinc (v := (nI (q250 + 1))) (lv' := [(2, .int (nI (q250 + 1))), (3, .int (nI q357)), (0, .ref (ad 58)), (1, .int p1)]) S.1 S.2.1 dX8_seals_134 hl57 (k := 1) rfl (nI_add _ 1) (by decide) rfl (fun ls71 hl71 => ?_)
                      refine lv_goto (tgt := 81) S.1 S.2.1 dX8_seals_137 (by decide) ?_
                      have hE73 : M = (m_X8_seals_L81_50 (m_X8_seals_L33_25 n25) n50) (AB3 ad F68) (nI (q250 + 1)) p1 := hE70.trans ((show m_X8_seals_69 (m_X8_seals_L33_25 n25) (m_X8_seals_L81_50 (m_X8_seals_L33_25 n25) n50) (m_X8_seals_L89_57 (m_X8_seals_L33_25 n25) (m_X8_seals_L81_50 (m_X8_seals_L33_25 n25) n50) n57) (AB3 ad F68) (nI q357) (nI q250) p1 = (m_X8_seals_L81_50 (m_X8_seals_L33_25 n25) n50) (AB3 ad F68) ((nI q250) + Int32.ofInt (1)) p1 from rfl).trans (congr (congr (congrArg ((m_X8_seals_L81_50 (m_X8_seals_L33_25 n25) n50)) (rfl : AB3 ad F68 = AB3 ad F68)) m72) (Eq.refl (p1 : Int32))))
                      exact ih50 (q250 + 1) F68 H68 locs68 (by omega) (by omega) hW68 hFr68 hP68 hS68 hE73 ls71 (lv_sub hl71 [0, 2, 3] rfl)
                    have k74 := ci_nle (nI_toInt (n := 256) (by omega)) (nI_toInt (n := q357) (by omega)) c59
                    refine lv_aload_n S.1 S.2.1 dX8_seals_96 rfl (lv_at hl57 2 rfl) ?_
                    obtain ⟨ty75, kn75, no75, en75, at75, sa75, sd75, wr75, pl75, va75, hF75, hb75_1, hb75_2, hb75_3, hb75_4, hb75_5, hb75_6⟩ := wt_m hWl50
                    refine r_get S hK hPl50 58 (by decide) hF75 (C := RX8) (T := TX8) (N := 23) hiX8 rfl 20 (by decide) (by decide +kernel) (v := .ref (ad 69)) rfl dX8_seals_97 ?_
                    refine lv_iload_n S.1 S.2.1 dX8_seals_100 rfl (lv_at hl57 0 rfl) ?_
                    obtain ⟨g76, hF76⟩ := wt_L hWl50 (show (69, 256) ∈ rLL by decide)
                    refine r_lald S hK hPl50 69 (by decide) hF76 (vp_in_nI (show q357 < 256 by omega) (by omega)) dX8_seals_101 ?_
                    refine lv_topl (fun v78 e78 => ?_)
                    have m79 : (((AB3 ad Fl50)).2 69 (rl (nI q357))) = v78 := (al_cg (Eq.refl 69) (Eq.refl ((nI q357) : Int32))).trans ((AM_g hF76).trans e78.symm)
                    refine lv_lconst (v := 0) S.1 S.2.1 dX8_seals_102 (by decide +kernel) ?_
                    refine W.lcmp S.1 S.2.1 dX8_seals_103 ?_
                    refine lv_topi (fun v80 e80 => ?_)
                    have m81 : (lg_cmp (((AB3 ad Fl50)).2 69 (rl (nI q357))) (0 : Int64)) = v80 := cg2 (fun (x : Int64) (y : Int64) => lg_cmp x y) m79 (Eq.refl (0 : Int64)) e80
                    refine lv_if_eq (tgt := 116) S.1 S.2.1 dX8_seals_104 (by decide) (fun c82 => ?_) (fun c82 => ?_)
                    · skip
                      have k83 := ci_eq rfl z_ti c82
                      have m85 : ((nI q357) + Int32.ofInt (1)) = (nI (q357 + 1)) := (congrArg (fun q : Int32 => q + Int32.ofInt (1)) rfl).trans (nI_add _ 1)
                      refine lv_iinc (v := (nI (q357 + 1))) (lv' := [(3, .int (nI (q357 + 1))), (2, .int (nI q250)), (0, .ref (ad 58)), (1, .int p1)]) S.1 S.2.1 dX8_seals_116 hl57 (k := 0) rfl (nI_add _ 1) (by decide) rfl (fun ls84 hl84 => ?_)
                      refine lv_goto (tgt := 89) S.1 S.2.1 dX8_seals_119 (by decide) ?_
                      have hE86 : M = (m_X8_seals_L89_57 (m_X8_seals_L33_25 n25) (m_X8_seals_L81_50 (m_X8_seals_L33_25 n25) n50) n57) (AB3 ad Fl50) (nI (q357 + 1)) (nI q250) p1 := hE58.trans ((show m_X8_seals_L89_57_b (m_X8_seals_L33_25 n25) (m_X8_seals_L81_50 (m_X8_seals_L33_25 n25) n50) (m_X8_seals_L89_57 (m_X8_seals_L33_25 n25) (m_X8_seals_L81_50 (m_X8_seals_L33_25 n25) n50) n57) (AB3 ad Fl50) (nI q357) (nI q250) p1 = (m_X8_seals_L89_57 (m_X8_seals_L33_25 n25) (m_X8_seals_L81_50 (m_X8_seals_L33_25 n25) n50) n57) (AB3 ad Fl50) ((nI q357) + Int32.ofInt (1)) (nI q250) p1 from by unfold m_X8_seals_L89_57_b; rw [if_neg (nle_cg rfl rfl c59), if_pos (eq_cg m81 rfl c82)]).trans (congr (congr (congr (congrArg ((m_X8_seals_L89_57 (m_X8_seals_L33_25 n25) (m_X8_seals_L81_50 (m_X8_seals_L33_25 n25) n50) n57)) (rfl : AB3 ad Fl50 = AB3 ad Fl50)) m85) (Eq.refl ((nI q250) : Int32))) (Eq.refl (p1 : Int32))))
                      exact ih57 (q357 + 1) (by omega) (by omega) hE86 ls84 (lv_sub hl84 [0, 1, 2, 3] rfl)
                    have k87 := ci_ne rfl z_ti c82
                    refine lv_iload_n S.1 S.2.1 dX8_seals_107 rfl (lv_at hl57 0 rfl) ?_
                    refine lv_iload_n S.1 S.2.1 dX8_seals_108 rfl (lv_at hl57 3 rfl) ?_
                    refine lv_iand S.1 S.2.1 dX8_seals_109 ?_
                    refine lv_topi (fun v88 e88 => ?_)
                    have m89 : ((nI q357) &&& p1) = v88 := cg2 (fun (x : Int32) (y : Int32) => x &&& y) (Eq.refl ((nI q357) : Int32)) (Eq.refl (p1 : Int32)) e88
                    refine lv_iload_n S.1 S.2.1 dX8_seals_110 rfl (lv_at hl57 3 rfl) ?_
                    refine lv_icmp_ne (tgt := 116) S.1 S.2.1 dX8_seals_111 (by decide) (fun c90 => ?_) (fun c90 => ?_)
                    · skip
                      have k91 := ci_ne rfl rfl c90
                      have m93 : ((nI q357) + Int32.ofInt (1)) = (nI (q357 + 1)) := (congrArg (fun q : Int32 => q + Int32.ofInt (1)) rfl).trans (nI_add _ 1)
                      refine lv_iinc (v := (nI (q357 + 1))) (lv' := [(3, .int (nI (q357 + 1))), (2, .int (nI q250)), (0, .ref (ad 58)), (1, .int p1)]) S.1 S.2.1 dX8_seals_116 hl57 (k := 0) rfl (nI_add _ 1) (by decide) rfl (fun ls92 hl92 => ?_)
                      refine lv_goto (tgt := 89) S.1 S.2.1 dX8_seals_119 (by decide) ?_
                      have hE94 : M = (m_X8_seals_L89_57 (m_X8_seals_L33_25 n25) (m_X8_seals_L81_50 (m_X8_seals_L33_25 n25) n50) n57) (AB3 ad Fl50) (nI (q357 + 1)) (nI q250) p1 := hE58.trans ((show m_X8_seals_L89_57_b (m_X8_seals_L33_25 n25) (m_X8_seals_L81_50 (m_X8_seals_L33_25 n25) n50) (m_X8_seals_L89_57 (m_X8_seals_L33_25 n25) (m_X8_seals_L81_50 (m_X8_seals_L33_25 n25) n50) n57) (AB3 ad Fl50) (nI q357) (nI q250) p1 = (m_X8_seals_L89_57 (m_X8_seals_L33_25 n25) (m_X8_seals_L81_50 (m_X8_seals_L33_25 n25) n50) n57) (AB3 ad Fl50) ((nI q357) + Int32.ofInt (1)) (nI q250) p1 from by unfold m_X8_seals_L89_57_b; rw [if_neg (nle_cg rfl rfl c59), if_neg (neq_cg m81 rfl c82), if_neg (neq_cg m89 rfl c90)]).trans (congr (congr (congr (congrArg ((m_X8_seals_L89_57 (m_X8_seals_L33_25 n25) (m_X8_seals_L81_50 (m_X8_seals_L33_25 n25) n50) n57)) (rfl : AB3 ad Fl50 = AB3 ad Fl50)) m93) (Eq.refl ((nI q250) : Int32))) (Eq.refl (p1 : Int32))))
                      exact ih57 (q357 + 1) (by omega) (by omega) hE94 ls92 (lv_sub hl92 [0, 1, 2, 3] rfl)
                    have k95 := ci_eq rfl rfl c90
                    refine lv_iload_n S.1 S.2.1 dX8_seals_114 rfl (lv_at hl57 1 rfl) ?_
                    have hE96 : M = ((nI q250), AB3 ad Fl50) := hE58.trans ((show m_X8_seals_L89_57_b (m_X8_seals_L33_25 n25) (m_X8_seals_L81_50 (m_X8_seals_L33_25 n25) n50) (m_X8_seals_L89_57 (m_X8_seals_L33_25 n25) (m_X8_seals_L81_50 (m_X8_seals_L33_25 n25) n50) n57) (AB3 ad Fl50) (nI q357) (nI q250) p1 = ((nI q250), (AB3 ad Fl50)) from by unfold m_X8_seals_L89_57_b; rw [if_neg (nle_cg rfl rfl c59), if_neg (neq_cg m81 rfl c82), if_pos (eq_cg m89 rfl c90)]).trans (congrArg (fun q => (q, AB3 ad Fl50)) rfl))
                    exact hret 115 _ _ _ _ _ dX8_seals_115 rfl hPl50 hSl50 ⟨hWl50, hFl50, ⟨trivial, hM.symm.trans hE96⟩⟩
                have hE97 : M = m_X8_seals_L89_57 (m_X8_seals_L33_25 n25) (m_X8_seals_L81_50 (m_X8_seals_L33_25 n25) n50) 2000 (AB3 ad Fl50) (nI 0) (nI q250) p1 := hE51.trans ((show m_X8_seals_L81_50_b (m_X8_seals_L33_25 n25) (m_X8_seals_L81_50 (m_X8_seals_L33_25 n25) n50) (AB3 ad Fl50) (nI q250) p1 = m_X8_seals_L89_57 (m_X8_seals_L33_25 n25) (m_X8_seals_L81_50 (m_X8_seals_L33_25 n25) n50) 2000 (AB3 ad Fl50) (nI 0) (nI q250) p1 from by unfold m_X8_seals_L81_50_b; rw [if_neg (nle_cg rfl rfl c52)]).trans (congr (congr (congr (congrArg (m_X8_seals_L89_57 (m_X8_seals_L33_25 n25) (m_X8_seals_L81_50 (m_X8_seals_L33_25 n25) n50) 2000) (rfl : AB3 ad Fl50 = AB3 ad Fl50)) (Eq.refl ((nI 0) : Int32))) (Eq.refl ((nI q250) : Int32))) (Eq.refl (p1 : Int32))))
                exact lp57 2000 (0) (by omega) (by omega) hE97 ls56 (lv_sub hl56 [0, 1, 2, 3] rfl)
            have hE98 : M = m_X8_seals_L81_50 (m_X8_seals_L33_25 n25) 2000 (AB3 ad F46) (nI 0) p1 := hE48.trans ((show m_X8_seals_47 (m_X8_seals_L33_25 n25) (AB3 ad F46) (nI q225) p1 = m_X8_seals_L81_50 (m_X8_seals_L33_25 n25) 2000 (AB3 ad F46) (nI 0) p1 from rfl).trans (congr (congr (congrArg (m_X8_seals_L81_50 (m_X8_seals_L33_25 n25) 2000) (rfl : AB3 ad F46 = AB3 ad F46)) (Eq.refl ((nI 0) : Int32))) (Eq.refl (p1 : Int32))))
            exact lp50 2000 (0) F46 H46 locs46 (by omega) (by omega) hW46 hFr46 hP46 hS46 hE98 ls49 (lv_sub hl49 [0, 1, 2] rfl)
          have k99 := ci_nle (nI_toInt (n := 256) (by omega)) (nI_toInt (n := q225) (by omega)) c27
          refine lv_aload_n S.1 S.2.1 dX8_seals_40 rfl (lv_at hl25 1 rfl) ?_
          obtain ⟨ty100, kn100, no100, en100, at100, sa100, sd100, wr100, pl100, va100, hF100, hb100_1, hb100_2, hb100_3, hb100_4, hb100_5, hb100_6⟩ := wt_m hWl25
          refine r_get S hK hPl25 58 (by decide) hF100 (C := RX8) (T := TX8) (N := 23) hiX8 rfl 20 (by decide) (by decide +kernel) (v := .ref (ad 69)) rfl dX8_seals_41 ?_
          refine lv_iload_n S.1 S.2.1 dX8_seals_44 rfl (lv_at hl25 0 rfl) ?_
          refine lv_lconst (v := 0) S.1 S.2.1 dX8_seals_45 (by decide +kernel) ?_
          obtain ⟨g101, hF101⟩ := wt_L hWl25 (show (69, 256) ∈ rLL by decide)
          refine r_last S hI hK hPl25 hSl25 69 (by decide) hF101 (vp_in_nI (show q225 < 256 by omega) (by omega)) dX8_seals_46 (fun F102 H102 locs102 eF102 hP102 hS102 => ?_)
          have hW102 := hWl25.up eF102 (ok_L (show (69, 256) ∈ rLL by decide) ⟨_, rfl⟩)
          have hFr102 := hFl25.up eF102 (by simp <;> first | omega | (simp only [isC, isJ] at *; omega))
          have hE104 : M = m_X8_seals_103 (m_X8_seals_L33_25 n25) (AB3 ad F102) (nI q225) p1 := hE26.trans ((show m_X8_seals_L33_25_b (m_X8_seals_L33_25 n25) (AB3 ad Fl25) (nI q225) p1 = m_X8_seals_103 (m_X8_seals_L33_25 n25) ((AB3 ad Fl25).1, stL ((AB3 ad Fl25)).2 69 (rl (nI q225)) (0 : Int64)) (nI q225) p1 from by unfold m_X8_seals_L33_25_b; rw [if_neg (nle_cg rfl rfl c27)]).trans (congr (congr (congrArg (m_X8_seals_103 (m_X8_seals_L33_25 n25)) (AM_cg (Eq.refl 69) (Eq.refl ((nI q225) : Int32)) (Eq.refl (0 : Int64)) (AM_ast hF101 eF102))) (Eq.refl ((nI q225) : Int32))) (Eq.refl (p1 : Int32))))
          have m106 : ((nI q225) + Int32.ofInt (1)) = (nI (q225 + 1)) := (congrArg (fun q : Int32 => q + Int32.ofInt (1)) rfl).trans (nI_add _ 1)
          refine lv_iinc (v := (nI (q225 + 1))) (lv' := [(2, .int (nI (q225 + 1))), (0, .ref (ad 58)), (1, .int p1)]) S.1 S.2.1 dX8_seals_47 hl25 (k := 0) rfl (nI_add _ 1) (by decide) rfl (fun ls105 hl105 => ?_)
          refine lv_goto (tgt := 33) S.1 S.2.1 dX8_seals_50 (by decide) ?_
          have hE107 : M = (m_X8_seals_L33_25 n25) (AB3 ad F102) (nI (q225 + 1)) p1 := hE104.trans ((show m_X8_seals_103 (m_X8_seals_L33_25 n25) (AB3 ad F102) (nI q225) p1 = (m_X8_seals_L33_25 n25) (AB3 ad F102) ((nI q225) + Int32.ofInt (1)) p1 from rfl).trans (congr (congr (congrArg ((m_X8_seals_L33_25 n25)) (rfl : AB3 ad F102 = AB3 ad F102)) m106) (Eq.refl (p1 : Int32))))
          exact ih25 (q225 + 1) F102 H102 locs102 (by omega) (by omega) hW102 hFr102 hP102 hS102 hE107 ls105 (lv_sub hl105 [0, 1, 2] rfl)
      have hE108 : M = m_X8_seals_L33_25 2000 (AB3 ad F) (nI 0) p1 := hM.trans ((show m_X8_seals (AB3 ad F) p1 = m_X8_seals_L33_25 2000 (AB3 ad F) (nI 0) p1 from by unfold m_X8_seals; rw [if_neg (neq_cg m16 rfl c17), if_neg (neq_cg m21 rfl c22)]).trans (congr (congr (congrArg (m_X8_seals_L33_25 2000) (rfl : AB3 ad F = AB3 ad F)) (Eq.refl ((nI 0) : Int32))) (Eq.refl (p1 : Int32))))
      exact lp25 2000 (0) F s.heap [] (by omega) (by omega) hW hFr hP hS hE108 ls24 (lv_sub hl24 [0, 1, 2] rfl)
    have k109 := ci_eq (nI_toInt (n := b20) (by omega)) z_ti c22
    refine lv_ldc (v := (-1000000003)) S.1 S.2.1 S.2.2.2.1 (S.2.2.2.2 (.constant RX8 139 (-1000000003)) (by decide +kernel)) dX8_seals_28 ?_
    have hE110 : M = ((-1000000003), AB3 ad F) := hM.trans ((show m_X8_seals (AB3 ad F) p1 = (((-1000000003) : Int32), (AB3 ad F)) from by unfold m_X8_seals; rw [if_neg (neq_cg m16 rfl c17), if_pos (eq_cg m21 rfl c22)]).trans (congrArg (fun q => (q, AB3 ad F)) rfl))
    exact hret 30 _ _ _ _ _ dX8_seals_30 rfl hP hS ⟨hW, hFr, ⟨trivial, hM.symm.trans hE110⟩⟩
  have k111 := ci_eq (nI_toInt (n := b12) (by omega)) z_ti c17
  refine lv_ldc (v := (-1000000001)) S.1 S.2.1 S.2.2.2.1 (S.2.2.2.2 (.constant RX8 126 (-1000000001)) (by decide +kernel)) dX8_seals_18 ?_
  have hE112 : M = ((-1000000001), AB3 ad F) := hM.trans ((show m_X8_seals (AB3 ad F) p1 = (((-1000000001) : Int32), (AB3 ad F)) from by unfold m_X8_seals; rw [if_pos (eq_cg m16 rfl c17)]).trans (congrArg (fun q => (q, AB3 ad F)) rfl))
  exact hret 20 _ _ _ _ _ dX8_seals_20 rfl hP hS ⟨hW, hFr, ⟨trivial, hM.symm.trans hE112⟩⟩
