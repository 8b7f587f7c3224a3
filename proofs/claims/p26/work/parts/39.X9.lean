/-! the reference's row of longs beside the abstract state -/
abbrev S2 : Type := SS × (Nat → Int64)
def aLw (e : va_E) : Nat → Int64 := match e with
  | .inl (_, _, .inr (.inl g)) => g
  | _ => fun _ => 0
def AB2 (ad : Nat → Nat) (F : Nat → va_E) : S2 := (AB ad F, aLw (F 71))
section AL
variable {ad : Nat → Nat} {F F' : Nat → va_E}
theorem AL_g {a : ClassId} {n k : Nat} {g : Nat → Int64} (hF : F 71 = .inl (a, n, .inr (.inl g))) : (AB2 ad F).2 k = g k := by
  show aLw (F 71) k = g k
  rw [hF]; rfl
theorem AL_ast {a : ClassId} {n k : Nat} {g : Nat → Int64} {v : Int64} (hF : F 71 = .inl (a, n, .inr (.inl g))) (e : F' = va_up F 71 (.inl (a, n, .inr (.inl (vp_updL g k v))))) : ((AB2 ad F).1, vp_updL (AB2 ad F).2 k v) = AB2 ad F' := by
  show (AB ad F, vp_updL (aLw (F 71)) k v) = (AB ad F', aLw (F' 71))
  refine Prod.ext ?_ ?_
  · funext i j
    show abE ad (F i) j = abE ad (F' i) j
    rw [e]
    by_cases q : i = 71
    · subst q; rw [va_up_self, hF]; rfl
    · rw [va_up_ne _ _ q]
  · show vp_updL (aLw (F 71)) k v = aLw (F' 71)
    rw [e, va_up_self, hF]; rfl
theorem AL_cg {σ : SS} {w : Nat → Int64} {x x' : Int32} {v v' : Int64} {T : S2} (hx : x' = x) (hv : v' = v) (h : (σ, vp_updL w (rl x) v) = T) : (σ, vp_updL w (rl x') v') = T := by rw [hx, hv]; exact h
end AL
noncomputable def m_X8_fitsBut_86 (k0 : S2 → Int32 → Int32 → Int32 × S2) (σ : S2) (a0 : Int32) (a1 : Int32) : Int32 × S2 :=
  k0 σ (a0 + Int32.ofInt (1)) a1
noncomputable def m_X8_fitsBut_L26_57_b (k0 : S2 → Int32 → Int32 → Int32 × S2) (σ : S2) (a0 : Int32) (a1 : Int32) : Int32 × S2 :=
  if (nI 48) ≤ a0 then
    if (lg_cmp ((σ).2 (rl (nI 48))) (0 : Int64)) = (0 : Int32) then
      ((nI 0), σ)
    else
      ((nI 1), σ)
  else
    m_X8_fitsBut_86 k0 (σ.1, vp_updL (σ).2 (rl (a0 + (nI 1))) (m_X8_goes σ.1 ((σ).2 (rl a0)) (nI 0) (m_X8_onlyIn σ.1 a0 a1))) a0 a1
noncomputable def m_X8_fitsBut_L26_57 : Nat → S2 → Int32 → Int32 → Int32 × S2
  | 0 => fun σ _ _ => (0, σ)
  | n + 1 => m_X8_fitsBut_L26_57_b (m_X8_fitsBut_L26_57 n)
noncomputable def m_X8_fitsBut_54 (σ : S2) (a0 : Int32) : Int32 × S2 :=
  m_X8_fitsBut_L26_57 2000 σ (nI 0) a0
noncomputable def m_X8_fitsBut_45 (k0 : S2 → Int32 → Int32 → Int32 × S2) (σ : S2) (a0 : Int32) (a1 : Int32) : Int32 × S2 :=
  k0 σ (a0 + Int32.ofInt (1)) a1
noncomputable def m_X8_fitsBut_L26_16_b (k0 : S2 → Int32 → Int32 → Int32 × S2) (σ : S2) (a0 : Int32) (a1 : Int32) : Int32 × S2 :=
  if (nI 48) ≤ a0 then
    if (lg_cmp ((σ).2 (rl (nI 48))) (0 : Int64)) = (0 : Int32) then
      ((nI 0), σ)
    else
      ((nI 1), σ)
  else
    m_X8_fitsBut_45 k0 (σ.1, vp_updL (σ).2 (rl (a0 + (nI 1))) (m_X8_goes σ.1 ((σ).2 (rl a0)) (nI 0) (m_X8_onlyIn σ.1 a0 a1))) a0 a1
noncomputable def m_X8_fitsBut_L26_16 : Nat → S2 → Int32 → Int32 → Int32 × S2
  | 0 => fun σ _ _ => (0, σ)
  | n + 1 => m_X8_fitsBut_L26_16_b (m_X8_fitsBut_L26_16 n)
noncomputable def m_X8_fitsBut_13 (σ : S2) (a0 : Int32) : Int32 × S2 :=
  m_X8_fitsBut_L26_16 2000 σ (nI 0) a0
noncomputable def m_X8_fitsBut (σ : S2) (a0 : Int32) : Int32 × S2 :=
  if (σ.1 60 (rl (nI 2))) = (0 : Int32) then
    m_X8_fitsBut_54 (σ.1, vp_updL (σ).2 (rl (nI 0)) (0 : Int64)) a0
  else
    m_X8_fitsBut_13 (σ.1, vp_updL (σ).2 (rl (nI 0)) (m_X8_bit σ.1 (nI 0) (nI 0))) a0
set_option maxHeartbeats 4000000 in
set_option maxRecDepth 100000 in
theorem cL_X8_fitsBut (l : Launch) (D : va_G) (cA ad : Nat → Nat) (t : Nat) (hI : rI ad) (F : Nat → va_E) (hW : WT cA ad F) (p1 : Int32) : MI l D cA ad t yX8_fitsBut wsX8_fitsBut { frames := 3, cells := 0, slots := 0, locals := 78 } [.ref (ad 58), .int p1] F (fun r F' => WT cA ad F' ∧ rFr [71] F F' ∧ ((le32 1 r) ∧ m_X8_fitsBut (AB2 ad F) p1 = (r, AB2 ad F'))) := by
  refine en_I rfl (by decide +kernel) (Nat.le_of_ble_eq_true rfl) ?_
  intro p e s m args below meth c ls0 Q S hK hZ hP hS hl0 hret
  have hl0 : lv_has ls0 3 [(0, .ref (ad 58)), (1, .int p1)] := hl0
  have hFr : rFr [71] F F := rFr.rf
  have hiX8 : ∀ w ∈ u_ws RX8 TX8 23, w ∈ wsX8_fitsBut := in_wsX8_fitsBut_2
  obtain ⟨M, hM⟩ : ∃ M, M = m_X8_fitsBut (AB2 ad F) p1 := ⟨_, rfl⟩
  refine lv_aload_n S.1 S.2.1 dX8_fitsBut_0 rfl (lv_at hl0 0 rfl) ?_
  obtain ⟨ty1, kn1, no1, en1, at1, sa1, sd1, wr1, pl1, va1, hF1, hb1_1, hb1_2, hb1_3, hb1_4, hb1_5, hb1_6⟩ := wt_m hW
  refine r_get S hK hP 58 (by decide) hF1 (C := RX8) (T := TX8) (N := 23) hiX8 rfl 22 (by decide) (am_at in_wsX8_fitsBut_0 0 rfl) (v := .ref (ad 71)) rfl dX8_fitsBut_1 ?_
  refine lv_iconst (v := (nI 0)) S.1 S.2.1 dX8_fitsBut_4 (by decide +kernel) ?_
  refine lv_aload_n S.1 S.2.1 dX8_fitsBut_5 rfl (lv_at hl0 0 rfl) ?_
  refine r_get S hK hP 58 (by decide) hF1 (C := RX8) (T := TX8) (N := 23) hiX8 rfl 2 (by decide) (am_at in_wsX8_fitsBut_0 1 rfl) (v := .ref (ad 60)) rfl dX8_fitsBut_6 ?_
  refine lv_iconst (v := (nI 2)) S.1 S.2.1 dX8_fitsBut_9 (by decide +kernel) ?_
  obtain ⟨g2, hF2, hg2⟩ := wt_I hW (show (60, 52) ∈ rLI by decide)
  refine r_iald S hK hP 60 (by decide) hF2 (vp_in_nI (show 2 < 52 by omega) (by omega)) dX8_fitsBut_10 ?_
  refine lv_topi (fun v4 e4 => ?_)
  obtain ⟨b5, hb5, he5⟩ := (pr_T (by decide) (hg2 2 (by decide))).2.1 rfl
  obtain rfl : v4 = nI b5 := e4.trans he5
  have m6 : ((AB2 ad F).1 60 (rl (nI 2))) = (nI b5) := (ab_cg rfl rfl).trans ((AB_g hF2).trans e4.symm)
  refine lv_if_ne (tgt := 18) S.1 S.2.1 dX8_fitsBut_11 (by decide) (fun c7 => ?_) (fun c7 => ?_)
  · skip
    have k8 := ci_ne (nI_toInt (n := b5) (by omega)) z_ti c7
    refine lv_iconst (v := (nI 0)) S.1 S.2.1 dX8_fitsBut_18 (by decide +kernel) ?_
    refine lv_iconst (v := (nI 0)) S.1 S.2.1 dX8_fitsBut_19 (by decide +kernel) ?_
    refine r_cSl (As := [.int (nI 0), .int (nI 0)]) (rest := [.int (nI 0), .ref (ad 71)]) S hK hZ hP hS hl0.1 (c_X8_bit l D cA ad t hI F hW (nI 0) (nI 0)) (va_cwS 2 S.2.2.2.2 gX8_fitsBut_X8_bit rfl rfl rfl (by decide +kernel) ⟨Nat.le_of_ble_eq_true rfl, Nat.le_of_ble_eq_true rfl⟩) rfl rfl (Nat.le_of_ble_eq_true rfl) ⟨Nat.zero_le _, Nat.zero_le _⟩ dX8_fitsBut_20 (fun r9 hr9 => ?_)
    obtain ⟨hr9, hm9⟩ := hr9
    have m10 : (m_X8_bit (AB2 ad F).1 (nI 0) (nI 0)) = r9 := (congr (congr (Eq.refl (m_X8_bit (AB ad F))) (Eq.refl ((nI 0) : Int32))) (Eq.refl ((nI 0) : Int32))).trans hm9
    obtain ⟨g11, hF11⟩ := wt_L hW (show (71, 49) ∈ rLL by decide)
    refine r_last S hI hK hP hS 71 (by decide) hF11 (vp_in_nI (show 0 < 49 by omega) (by omega)) dX8_fitsBut_23 (fun F12 H12 locs12 eF12 hP12 hS12 => ?_)
    have hW12 := hW.up eF12 (ok_L (show (71, 49) ∈ rLL by decide) ⟨_, rfl⟩)
    have hFr12 := hFr.up eF12 (by simp <;> first | omega | (simp only [isC, isJ] at *; omega))
    have hE14 : M = m_X8_fitsBut_13 (AB2 ad F12) p1 := hM.trans ((show m_X8_fitsBut (AB2 ad F) p1 = m_X8_fitsBut_13 ((AB2 ad F).1, vp_updL ((AB2 ad F)).2 (rl (nI 0)) (m_X8_bit (AB2 ad F).1 (nI 0) (nI 0))) p1 from by unfold m_X8_fitsBut; rw [if_neg (neq_cg m6 rfl c7)]).trans (congr (congrArg (m_X8_fitsBut_13) (AL_cg (Eq.refl ((nI 0) : Int32)) m10 (AL_ast hF11 eF12))) (Eq.refl (p1 : Int32))))
    refine lv_iconst (v := (nI 0)) S.1 S.2.1 dX8_fitsBut_24 (by decide +kernel) ?_
    refine lv_istore_n (lv' := [(2, .int (nI 0)), (0, .ref (ad 58)), (1, .int p1)]) S.1 S.2.1 dX8_fitsBut_25 rfl hl0 (by decide) rfl (fun ls15 hl15 => ?_)
    have lp16 : ∀ (n16 : Nat) (q216 : Nat), ∀ (Fl16 : Nat → va_E) (Hl16 : Heap) (lol16 : List Loc), q216 ≤ 48 → 48 - q216 < n16 → WT cA ad Fl16 → rFr [71] F Fl16 → va_P D vwCl (rW ad Fl16) Hl16 → va_S (rA ad) s.heap Hl16 lol16 → M = m_X8_fitsBut_L26_16 n16 (AB2 ad Fl16) (nI q216) p1 → ∀ (ls : Array Slot), lv_has ls 3 [(2, .int (nI q216)), (0, .ref (ad 58)), (1, .int p1)] → W p l e { frames := 3, cells := 0, slots := 0, locals := 78 } s m args below meth c Hl16 lol16 0 0 Q (F0 m 26 ls []) := by
      intro n16
      induction n16 with
      | zero =>
        intro q216 Fl16 Hl16 lol16 iv16_0 hm16 hWl16 hFl16 hPl16 hSl16 hEl16 ls16 hl16
        exact absurd hm16 (Nat.not_lt_zero _)
      | succ n16 ih16 =>
        intro q216 Fl16 Hl16 lol16 iv16_0 hm16 hWl16 hFl16 hPl16 hSl16 hEl16 ls16 hl16
        have hE17 : M = m_X8_fitsBut_L26_16_b (m_X8_fitsBut_L26_16 n16) (AB2 ad Fl16) (nI q216) p1 := hEl16
        refine lv_iload_n S.1 S.2.1 dX8_fitsBut_26 rfl (lv_at hl16 0 rfl) ?_
        refine lv_bipush (v := (nI 48)) S.1 S.2.1 dX8_fitsBut_27 (by decide +kernel) ?_
        refine lv_icmp_ge (tgt := 63) S.1 S.2.1 dX8_fitsBut_29 (by decide) (fun c18 => ?_) (fun c18 => ?_)
        · skip
          have k19 := ci_le (nI_toInt (n := 48) (by omega)) (nI_toInt (n := q216) (by omega)) c18
          refine lv_aload_n S.1 S.2.1 dX8_fitsBut_63 rfl (lv_at hl16 1 rfl) ?_
          obtain ⟨ty20, kn20, no20, en20, at20, sa20, sd20, wr20, pl20, va20, hF20, hb20_1, hb20_2, hb20_3, hb20_4, hb20_5, hb20_6⟩ := wt_m hWl16
          refine r_get S hK hPl16 58 (by decide) hF20 (C := RX8) (T := TX8) (N := 23) hiX8 rfl 22 (by decide) (am_at in_wsX8_fitsBut_0 0 rfl) (v := .ref (ad 71)) rfl dX8_fitsBut_64 ?_
          refine lv_bipush (v := (nI 48)) S.1 S.2.1 dX8_fitsBut_67 (by decide +kernel) ?_
          obtain ⟨g21, hF21⟩ := wt_L hWl16 (show (71, 49) ∈ rLL by decide)
          refine r_lald S hK hPl16 71 (by decide) hF21 (vp_in_nI (show 48 < 49 by omega) (by omega)) dX8_fitsBut_69 ?_
          refine lv_topl (fun v23 e23 => ?_)
          have m24 : (((AB2 ad Fl16)).2 (rl (nI 48))) = v23 := (congrArg (fun q : Int32 => (AB2 ad Fl16).2 (rl q)) rfl).trans ((AL_g hF21).trans e23.symm)
          refine lv_lconst (v := 0) S.1 S.2.1 dX8_fitsBut_70 (by decide +kernel) ?_
          refine W.lcmp S.1 S.2.1 dX8_fitsBut_71 ?_
          refine lv_topi (fun v25 e25 => ?_)
          have m26 : (lg_cmp (((AB2 ad Fl16)).2 (rl (nI 48))) (0 : Int64)) = v25 := cg2 (fun (x : Int64) (y : Int64) => lg_cmp x y) m24 (Eq.refl (0 : Int64)) e25
          refine lv_if_eq (tgt := 79) S.1 S.2.1 dX8_fitsBut_72 (by decide) (fun c27 => ?_) (fun c27 => ?_)
          · skip
            have k28 := ci_eq rfl z_ti c27
            refine lv_iconst (v := (nI 0)) S.1 S.2.1 dX8_fitsBut_79 (by decide +kernel) ?_
            have hE29 : M = ((nI 0), AB2 ad Fl16) := hE17.trans ((show m_X8_fitsBut_L26_16_b (m_X8_fitsBut_L26_16 n16) (AB2 ad Fl16) (nI q216) p1 = ((nI 0), (AB2 ad Fl16)) from by unfold m_X8_fitsBut_L26_16_b; rw [if_pos (le_cg rfl rfl c18), if_pos (eq_cg m26 rfl c27)]).trans (congrArg (fun q => (q, AB2 ad Fl16)) rfl))
            exact hret 80 _ _ _ _ _ dX8_fitsBut_80 rfl hPl16 hSl16 ⟨hWl16, hFl16, ⟨⟨0, by omega, rfl⟩, hM.symm.trans hE29⟩⟩
          have k30 := ci_ne rfl z_ti c27
          refine lv_iconst (v := (nI 1)) S.1 S.2.1 dX8_fitsBut_75 (by decide +kernel) ?_
          refine lv_goto (tgt := 80) S.1 S.2.1 dX8_fitsBut_76 (by decide) ?_
          have hE31 : M = ((nI 1), AB2 ad Fl16) := hE17.trans ((show m_X8_fitsBut_L26_16_b (m_X8_fitsBut_L26_16 n16) (AB2 ad Fl16) (nI q216) p1 = ((nI 1), (AB2 ad Fl16)) from by unfold m_X8_fitsBut_L26_16_b; rw [if_pos (le_cg rfl rfl c18), if_neg (neq_cg m26 rfl c27)]).trans (congrArg (fun q => (q, AB2 ad Fl16)) rfl))
          exact hret 80 _ _ _ _ _ dX8_fitsBut_80 rfl hPl16 hSl16 ⟨hWl16, hFl16, ⟨⟨1, by omega, rfl⟩, hM.symm.trans hE31⟩⟩
        have k32 := ci_nle (nI_toInt (n := 48) (by omega)) (nI_toInt (n := q216) (by omega)) c18
        refine lv_aload_n S.1 S.2.1 dX8_fitsBut_32 rfl (lv_at hl16 1 rfl) ?_
        obtain ⟨ty33, kn33, no33, en33, at33, sa33, sd33, wr33, pl33, va33, hF33, hb33_1, hb33_2, hb33_3, hb33_4, hb33_5, hb33_6⟩ := wt_m hWl16
        refine r_get S hK hPl16 58 (by decide) hF33 (C := RX8) (T := TX8) (N := 23) hiX8 rfl 22 (by decide) (am_at in_wsX8_fitsBut_0 0 rfl) (v := .ref (ad 71)) rfl dX8_fitsBut_33 ?_
        refine lv_iload_n S.1 S.2.1 dX8_fitsBut_36 rfl (lv_at hl16 0 rfl) ?_
        refine lv_iconst (v := (nI 1)) S.1 S.2.1 dX8_fitsBut_37 (by decide +kernel) ?_
        refine lv_iadd S.1 S.2.1 dX8_fitsBut_38 ?_
        refine lv_topi (fun v34 e34 => ?_)
        obtain rfl : v34 = nI (q216 + 1) := e34.trans (nI_add _ _)
        have m35 : ((nI q216) + (nI 1)) = (nI (q216 + 1)) := cg2 (fun (x : Int32) (y : Int32) => x + y) (Eq.refl ((nI q216) : Int32)) (Eq.refl ((nI 1) : Int32)) e34
        refine lv_aload_n S.1 S.2.1 dX8_fitsBut_39 rfl (lv_at hl16 1 rfl) ?_
        refine lv_aload_n S.1 S.2.1 dX8_fitsBut_40 rfl (lv_at hl16 1 rfl) ?_
        refine r_get S hK hPl16 58 (by decide) hF33 (C := RX8) (T := TX8) (N := 23) hiX8 rfl 22 (by decide) (am_at in_wsX8_fitsBut_0 0 rfl) (v := .ref (ad 71)) rfl dX8_fitsBut_41 ?_
        refine lv_iload_n S.1 S.2.1 dX8_fitsBut_44 rfl (lv_at hl16 0 rfl) ?_
        obtain ⟨g36, hF36⟩ := wt_L hWl16 (show (71, 49) ∈ rLL by decide)
        refine r_lald S hK hPl16 71 (by decide) hF36 (vp_in_nI (show q216 < 49 by omega) (by omega)) dX8_fitsBut_45 ?_
        refine lv_topl (fun v38 e38 => ?_)
        have m39 : (((AB2 ad Fl16)).2 (rl (nI q216))) = v38 := (congrArg (fun q : Int32 => (AB2 ad Fl16).2 (rl q)) rfl).trans ((AL_g hF36).trans e38.symm)
        refine lv_iconst (v := (nI 0)) S.1 S.2.1 dX8_fitsBut_46 (by decide +kernel) ?_
        refine lv_aload_n S.1 S.2.1 dX8_fitsBut_47 rfl (lv_at hl16 1 rfl) ?_
        refine lv_iload_n S.1 S.2.1 dX8_fitsBut_48 rfl (lv_at hl16 0 rfl) ?_
        refine lv_iload_n S.1 S.2.1 dX8_fitsBut_49 rfl (lv_at hl16 2 rfl) ?_
        refine r_cVp (As := [.int (nI q216), .int p1]) (rest := [.int (nI 0), .long v38, .ref (ad 58), .int (nI (q216 + 1)), .ref (ad 71)]) S hK hZ hPl16 hSl16 hl16.1 58 (by decide) hF33 (C := RX8) rfl (c_X8_onlyIn l D cA ad t hI Fl16 hWl16 (nI q216) p1) (cwV 2 S.2.2.2.2 gX8_fitsBut_X8_onlyIn rfl rfl rfl (by decide +kernel) ⟨Nat.le_of_ble_eq_true rfl, Nat.le_of_ble_eq_true rfl⟩) rfl rfl (Nat.le_of_ble_eq_true rfl) ⟨Nat.zero_le _, Nat.zero_le _⟩ dX8_fitsBut_50 (fun r40 hr40 => ?_)
        obtain ⟨hr40, hm40⟩ := hr40
        have m41 : (m_X8_onlyIn (AB2 ad Fl16).1 (nI q216) p1) = r40 := (congr (congr (Eq.refl (m_X8_onlyIn (AB ad Fl16))) (Eq.refl ((nI q216) : Int32))) (Eq.refl (p1 : Int32))).trans hm40
        refine r_cVl (As := [.long v38, .int (nI 0), .int r40]) (rest := [.int (nI (q216 + 1)), .ref (ad 71)]) S hK hZ hPl16 hSl16 hl16.1 58 (by decide) hF33 (C := RX8) rfl (c_X8_goes l D cA ad t hI Fl16 hWl16 v38 (nI 0) r40) (cwV 3 S.2.2.2.2 gX8_fitsBut_X8_goes rfl rfl rfl (by decide +kernel) ⟨Nat.le_of_ble_eq_true rfl, Nat.le_of_ble_eq_true rfl⟩) rfl rfl (Nat.le_of_ble_eq_true rfl) ⟨Nat.zero_le _, Nat.zero_le _⟩ dX8_fitsBut_53 (fun r42 hr42 => ?_)
        obtain ⟨hr42, hm42⟩ := hr42
        have m43 : (m_X8_goes (AB2 ad Fl16).1 (((AB2 ad Fl16)).2 (rl (nI q216))) (nI 0) (m_X8_onlyIn (AB2 ad Fl16).1 (nI q216) p1)) = r42 := (congr (congr (congr (Eq.refl (m_X8_goes (AB ad Fl16))) m39) (Eq.refl ((nI 0) : Int32))) m41).trans hm42
        refine r_last S hI hK hPl16 hSl16 71 (by decide) hF36 (vp_in_nI (show q216 + 1 < 49 by omega) (by omega)) dX8_fitsBut_56 (fun F44 H44 locs44 eF44 hP44 hS44 => ?_)
        have hW44 := hWl16.up eF44 (ok_L (show (71, 49) ∈ rLL by decide) ⟨_, rfl⟩)
        have hFr44 := hFl16.up eF44 (by simp <;> first | omega | (simp only [isC, isJ] at *; omega))
        have hE46 : M = m_X8_fitsBut_45 (m_X8_fitsBut_L26_16 n16) (AB2 ad F44) (nI q216) p1 := hE17.trans ((show m_X8_fitsBut_L26_16_b (m_X8_fitsBut_L26_16 n16) (AB2 ad Fl16) (nI q216) p1 = m_X8_fitsBut_45 (m_X8_fitsBut_L26_16 n16) ((AB2 ad Fl16).1, vp_updL ((AB2 ad Fl16)).2 (rl ((nI q216) + (nI 1))) (m_X8_goes (AB2 ad Fl16).1 (((AB2 ad Fl16)).2 (rl (nI q216))) (nI 0) (m_X8_onlyIn (AB2 ad Fl16).1 (nI q216) p1))) (nI q216) p1 from by unfold m_X8_fitsBut_L26_16_b; rw [if_neg (nle_cg rfl rfl c18)]).trans (congr (congr (congrArg (m_X8_fitsBut_45 (m_X8_fitsBut_L26_16 n16)) (AL_cg m35 m43 (AL_ast hF36 eF44))) (Eq.refl ((nI q216) : Int32))) (Eq.refl (p1 : Int32))))
        have m48 : ((nI q216) + Int32.ofInt (1)) = (nI (q216 + 1)) := (congrArg (fun q : Int32 => q + Int32.ofInt (1)) rfl).trans (nI_add _ 1)
        refine lv_iinc (v := (nI (q216 + 1))) (lv' := [(2, .int (nI (q216 + 1))), (0, .ref (ad 58)), (1, .int p1)]) S.1 S.2.1 dX8_fitsBut_57 hl16 (k := 0) rfl (nI_add _ 1) (by decide) rfl (fun ls47 hl47 => ?_)
        refine lv_goto (tgt := 26) S.1 S.2.1 dX8_fitsBut_60 (by decide) ?_
        have hE49 : M = (m_X8_fitsBut_L26_16 n16) (AB2 ad F44) (nI (q216 + 1)) p1 := hE46.trans ((show m_X8_fitsBut_45 (m_X8_fitsBut_L26_16 n16) (AB2 ad F44) (nI q216) p1 = (m_X8_fitsBut_L26_16 n16) (AB2 ad F44) ((nI q216) + Int32.ofInt (1)) p1 from rfl).trans (congr (congr (congrArg ((m_X8_fitsBut_L26_16 n16)) (rfl : AB2 ad F44 = AB2 ad F44)) m48) (Eq.refl (p1 : Int32))))
        exact ih16 (q216 + 1) F44 H44 locs44 (by omega) (by omega) hW44 hFr44 hP44 hS44 hE49 ls47 (lv_sub hl47 [0, 1, 2] rfl)
    have hE50 : M = m_X8_fitsBut_L26_16 2000 (AB2 ad F12) (nI 0) p1 := hE14.trans ((show m_X8_fitsBut_13 (AB2 ad F12) p1 = m_X8_fitsBut_L26_16 2000 (AB2 ad F12) (nI 0) p1 from rfl).trans (congr (congr (congrArg (m_X8_fitsBut_L26_16 2000) (rfl : AB2 ad F12 = AB2 ad F12)) (Eq.refl ((nI 0) : Int32))) (Eq.refl (p1 : Int32))))
    exact lp16 2000 (0) F12 H12 locs12 (by omega) (by omega) hW12 hFr12 hP12 hS12 hE50 ls15 (lv_sub hl15 [0, 1, 2] rfl)
  have k51 := ci_eq (nI_toInt (n := b5) (by omega)) z_ti c7
  refine lv_lconst (v := 0) S.1 S.2.1 dX8_fitsBut_14 (by decide +kernel) ?_
  refine lv_goto (tgt := 23) S.1 S.2.1 dX8_fitsBut_15 (by decide) ?_
  obtain ⟨g52, hF52⟩ := wt_L hW (show (71, 49) ∈ rLL by decide)
  refine r_last S hI hK hP hS 71 (by decide) hF52 (vp_in_nI (show 0 < 49 by omega) (by omega)) dX8_fitsBut_23 (fun F53 H53 locs53 eF53 hP53 hS53 => ?_)
  have hW53 := hW.up eF53 (ok_L (show (71, 49) ∈ rLL by decide) ⟨_, rfl⟩)
  have hFr53 := hFr.up eF53 (by simp <;> first | omega | (simp only [isC, isJ] at *; omega))
  have hE55 : M = m_X8_fitsBut_54 (AB2 ad F53) p1 := hM.trans ((show m_X8_fitsBut (AB2 ad F) p1 = m_X8_fitsBut_54 ((AB2 ad F).1, vp_updL ((AB2 ad F)).2 (rl (nI 0)) (0 : Int64)) p1 from by unfold m_X8_fitsBut; rw [if_pos (eq_cg m6 rfl c7)]).trans (congr (congrArg (m_X8_fitsBut_54) (AL_cg (Eq.refl ((nI 0) : Int32)) (Eq.refl (0 : Int64)) (AL_ast hF52 eF53))) (Eq.refl (p1 : Int32))))
  refine lv_iconst (v := (nI 0)) S.1 S.2.1 dX8_fitsBut_24 (by decide +kernel) ?_
  refine lv_istore_n (lv' := [(2, .int (nI 0)), (0, .ref (ad 58)), (1, .int p1)]) S.1 S.2.1 dX8_fitsBut_25 rfl hl0 (by decide) rfl (fun ls56 hl56 => ?_)
  have lp57 : ∀ (n57 : Nat) (q257 : Nat), ∀ (Fl57 : Nat → va_E) (Hl57 : Heap) (lol57 : List Loc), q257 ≤ 48 → 48 - q257 < n57 → WT cA ad Fl57 → rFr [71] F Fl57 → va_P D vwCl (rW ad Fl57) Hl57 → va_S (rA ad) s.heap Hl57 lol57 → M = m_X8_fitsBut_L26_57 n57 (AB2 ad Fl57) (nI q257) p1 → ∀ (ls : Array Slot), lv_has ls 3 [(2, .int (nI q257)), (0, .ref (ad 58)), (1, .int p1)] → W p l e { frames := 3, cells := 0, slots := 0, locals := 78 } s m args below meth c Hl57 lol57 0 0 Q (F0 m 26 ls []) := by
    intro n57
    induction n57 with
    | zero =>
      intro q257 Fl57 Hl57 lol57 iv57_0 hm57 hWl57 hFl57 hPl57 hSl57 hEl57 ls57 hl57
      exact absurd hm57 (Nat.not_lt_zero _)
    | succ n57 ih57 =>
      intro q257 Fl57 Hl57 lol57 iv57_0 hm57 hWl57 hFl57 hPl57 hSl57 hEl57 ls57 hl57
      have hE58 : M = m_X8_fitsBut_L26_57_b (m_X8_fitsBut_L26_57 n57) (AB2 ad Fl57) (nI q257) p1 := hEl57
      refine lv_iload_n S.1 S.2.1 dX8_fitsBut_26 rfl (lv_at hl57 0 rfl) ?_
      refine lv_bipush (v := (nI 48)) S.1 S.2.1 dX8_fitsBut_27 (by decide +kernel) ?_
      refine lv_icmp_ge (tgt := 63) S.1 S.2.1 dX8_fitsBut_29 (by decide) (fun c59 => ?_) (fun c59 => ?_)
      · skip
        have k60 := ci_le (nI_toInt (n := 48) (by omega)) (nI_toInt (n := q257) (by omega)) c59
        refine lv_aload_n S.1 S.2.1 dX8_fitsBut_63 rfl (lv_at hl57 1 rfl) ?_
        obtain ⟨ty61, kn61, no61, en61, at61, sa61, sd61, wr61, pl61, va61, hF61, hb61_1, hb61_2, hb61_3, hb61_4, hb61_5, hb61_6⟩ := wt_m hWl57
        refine r_get S hK hPl57 58 (by decide) hF61 (C := RX8) (T := TX8) (N := 23) hiX8 rfl 22 (by decide) (am_at in_wsX8_fitsBut_0 0 rfl) (v := .ref (ad 71)) rfl dX8_fitsBut_64 ?_
        refine lv_bipush (v := (nI 48)) S.1 S.2.1 dX8_fitsBut_67 (by decide +kernel) ?_
        obtain ⟨g62, hF62⟩ := wt_L hWl57 (show (71, 49) ∈ rLL by decide)
        refine r_lald S hK hPl57 71 (by decide) hF62 (vp_in_nI (show 48 < 49 by omega) (by omega)) dX8_fitsBut_69 ?_
        refine lv_topl (fun v64 e64 => ?_)
        have m65 : (((AB2 ad Fl57)).2 (rl (nI 48))) = v64 := (congrArg (fun q : Int32 => (AB2 ad Fl57).2 (rl q)) rfl).trans ((AL_g hF62).trans e64.symm)
        refine lv_lconst (v := 0) S.1 S.2.1 dX8_fitsBut_70 (by decide +kernel) ?_
        refine W.lcmp S.1 S.2.1 dX8_fitsBut_71 ?_
        refine lv_topi (fun v66 e66 => ?_)
        have m67 : (lg_cmp (((AB2 ad Fl57)).2 (rl (nI 48))) (0 : Int64)) = v66 := cg2 (fun (x : Int64) (y : Int64) => lg_cmp x y) m65 (Eq.refl (0 : Int64)) e66
        refine lv_if_eq (tgt := 79) S.1 S.2.1 dX8_fitsBut_72 (by decide) (fun c68 => ?_) (fun c68 => ?_)
        · skip
          have k69 := ci_eq rfl z_ti c68
          refine lv_iconst (v := (nI 0)) S.1 S.2.1 dX8_fitsBut_79 (by decide +kernel) ?_
          have hE70 : M = ((nI 0), AB2 ad Fl57) := hE58.trans ((show m_X8_fitsBut_L26_57_b (m_X8_fitsBut_L26_57 n57) (AB2 ad Fl57) (nI q257) p1 = ((nI 0), (AB2 ad Fl57)) from by unfold m_X8_fitsBut_L26_57_b; rw [if_pos (le_cg rfl rfl c59), if_pos (eq_cg m67 rfl c68)]).trans (congrArg (fun q => (q, AB2 ad Fl57)) rfl))
          exact hret 80 _ _ _ _ _ dX8_fitsBut_80 rfl hPl57 hSl57 ⟨hWl57, hFl57, ⟨⟨0, by omega, rfl⟩, hM.symm.trans hE70⟩⟩
        have k71 := ci_ne rfl z_ti c68
        refine lv_iconst (v := (nI 1)) S.1 S.2.1 dX8_fitsBut_75 (by decide +kernel) ?_
        refine lv_goto (tgt := 80) S.1 S.2.1 dX8_fitsBut_76 (by decide) ?_
        have hE72 : M = ((nI 1), AB2 ad Fl57) := hE58.trans ((show m_X8_fitsBut_L26_57_b (m_X8_fitsBut_L26_57 n57) (AB2 ad Fl57) (nI q257) p1 = ((nI 1), (AB2 ad Fl57)) from by unfold m_X8_fitsBut_L26_57_b; rw [if_pos (le_cg rfl rfl c59), if_neg (neq_cg m67 rfl c68)]).trans (congrArg (fun q => (q, AB2 ad Fl57)) rfl))
        exact hret 80 _ _ _ _ _ dX8_fitsBut_80 rfl hPl57 hSl57 ⟨hWl57, hFl57, ⟨⟨1, by omega, rfl⟩, hM.symm.trans hE72⟩⟩
      have k73 := ci_nle (nI_toInt (n := 48) (by omega)) (nI_toInt (n := q257) (by omega)) c59
      refine lv_aload_n S.1 S.2.1 dX8_fitsBut_32 rfl (lv_at hl57 1 rfl) ?_
      obtain ⟨ty74, kn74, no74, en74, at74, sa74, sd74, wr74, pl74, va74, hF74, hb74_1, hb74_2, hb74_3, hb74_4, hb74_5, hb74_6⟩ := wt_m hWl57
      refine r_get S hK hPl57 58 (by decide) hF74 (C := RX8) (T := TX8) (N := 23) hiX8 rfl 22 (by decide) (am_at in_wsX8_fitsBut_0 0 rfl) (v := .ref (ad 71)) rfl dX8_fitsBut_33 ?_
      refine lv_iload_n S.1 S.2.1 dX8_fitsBut_36 rfl (lv_at hl57 0 rfl) ?_
      refine lv_iconst (v := (nI 1)) S.1 S.2.1 dX8_fitsBut_37 (by decide +kernel) ?_
      refine lv_iadd S.1 S.2.1 dX8_fitsBut_38 ?_
      refine lv_topi (fun v75 e75 => ?_)
      obtain rfl : v75 = nI (q257 + 1) := e75.trans (nI_add _ _)
      have m76 : ((nI q257) + (nI 1)) = (nI (q257 + 1)) := cg2 (fun (x : Int32) (y : Int32) => x + y) (Eq.refl ((nI q257) : Int32)) (Eq.refl ((nI 1) : Int32)) e75
      refine lv_aload_n S.1 S.2.1 dX8_fitsBut_39 rfl (lv_at hl57 1 rfl) ?_
      refine lv_aload_n S.1 S.2.1 dX8_fitsBut_40 rfl (lv_at hl57 1 rfl) ?_
      refine r_get S hK hPl57 58 (by decide) hF74 (C := RX8) (T := TX8) (N := 23) hiX8 rfl 22 (by decide) (am_at in_wsX8_fitsBut_0 0 rfl) (v := .ref (ad 71)) rfl dX8_fitsBut_41 ?_
      refine lv_iload_n S.1 S.2.1 dX8_fitsBut_44 rfl (lv_at hl57 0 rfl) ?_
      obtain ⟨g77, hF77⟩ := wt_L hWl57 (show (71, 49) ∈ rLL by decide)
      refine r_lald S hK hPl57 71 (by decide) hF77 (vp_in_nI (show q257 < 49 by omega) (by omega)) dX8_fitsBut_45 ?_
      refine lv_topl (fun v79 e79 => ?_)
      have m80 : (((AB2 ad Fl57)).2 (rl (nI q257))) = v79 := (congrArg (fun q : Int32 => (AB2 ad Fl57).2 (rl q)) rfl).trans ((AL_g hF77).trans e79.symm)
      refine lv_iconst (v := (nI 0)) S.1 S.2.1 dX8_fitsBut_46 (by decide +kernel) ?_
      refine lv_aload_n S.1 S.2.1 dX8_fitsBut_47 rfl (lv_at hl57 1 rfl) ?_
      refine lv_iload_n S.1 S.2.1 dX8_fitsBut_48 rfl (lv_at hl57 0 rfl) ?_
      refine lv_iload_n S.1 S.2.1 dX8_fitsBut_49 rfl (lv_at hl57 2 rfl) ?_
      refine r_cVp (As := [.int (nI q257), .int p1]) (rest := [.int (nI 0), .long v79, .ref (ad 58), .int (nI (q257 + 1)), .ref (ad 71)]) S hK hZ hPl57 hSl57 hl57.1 58 (by decide) hF74 (C := RX8) rfl (c_X8_onlyIn l D cA ad t hI Fl57 hWl57 (nI q257) p1) (cwV 2 S.2.2.2.2 gX8_fitsBut_X8_onlyIn rfl rfl rfl (by decide +kernel) ⟨Nat.le_of_ble_eq_true rfl, Nat.le_of_ble_eq_true rfl⟩) rfl rfl (Nat.le_of_ble_eq_true rfl) ⟨Nat.zero_le _, Nat.zero_le _⟩ dX8_fitsBut_50 (fun r81 hr81 => ?_)
      obtain ⟨hr81, hm81⟩ := hr81
      have m82 : (m_X8_onlyIn (AB2 ad Fl57).1 (nI q257) p1) = r81 := (congr (congr (Eq.refl (m_X8_onlyIn (AB ad Fl57))) (Eq.refl ((nI q257) : Int32))) (Eq.refl (p1 : Int32))).trans hm81
      refine r_cVl (As := [.long v79, .int (nI 0), .int r81]) (rest := [.int (nI (q257 + 1)), .ref (ad 71)]) S hK hZ hPl57 hSl57 hl57.1 58 (by decide) hF74 (C := RX8) rfl (c_X8_goes l D cA ad t hI Fl57 hWl57 v79 (nI 0) r81) (cwV 3 S.2.2.2.2 gX8_fitsBut_X8_goes rfl rfl rfl (by decide +kernel) ⟨Nat.le_of_ble_eq_true rfl, Nat.le_of_ble_eq_true rfl⟩) rfl rfl (Nat.le_of_ble_eq_true rfl) ⟨Nat.zero_le _, Nat.zero_le _⟩ dX8_fitsBut_53 (fun r83 hr83 => ?_)
      obtain ⟨hr83, hm83⟩ := hr83
      have m84 : (m_X8_goes (AB2 ad Fl57).1 (((AB2 ad Fl57)).2 (rl (nI q257))) (nI 0) (m_X8_onlyIn (AB2 ad Fl57).1 (nI q257) p1)) = r83 := (congr (congr (congr (Eq.refl (m_X8_goes (AB ad Fl57))) m80) (Eq.refl ((nI 0) : Int32))) m82).trans hm83
      refine r_last S hI hK hPl57 hSl57 71 (by decide) hF77 (vp_in_nI (show q257 + 1 < 49 by omega) (by omega)) dX8_fitsBut_56 (fun F85 H85 locs85 eF85 hP85 hS85 => ?_)
      have hW85 := hWl57.up eF85 (ok_L (show (71, 49) ∈ rLL by decide) ⟨_, rfl⟩)
      have hFr85 := hFl57.up eF85 (by simp <;> first | omega | (simp only [isC, isJ] at *; omega))
      have hE87 : M = m_X8_fitsBut_86 (m_X8_fitsBut_L26_57 n57) (AB2 ad F85) (nI q257) p1 := hE58.trans ((show m_X8_fitsBut_L26_57_b (m_X8_fitsBut_L26_57 n57) (AB2 ad Fl57) (nI q257) p1 = m_X8_fitsBut_86 (m_X8_fitsBut_L26_57 n57) ((AB2 ad Fl57).1, vp_updL ((AB2 ad Fl57)).2 (rl ((nI q257) + (nI 1))) (m_X8_goes (AB2 ad Fl57).1 (((AB2 ad Fl57)).2 (rl (nI q257))) (nI 0) (m_X8_onlyIn (AB2 ad Fl57).1 (nI q257) p1))) (nI q257) p1 from by unfold m_X8_fitsBut_L26_57_b; rw [if_neg (nle_cg rfl rfl c59)]).trans (congr (congr (congrArg (m_X8_fitsBut_86 (m_X8_fitsBut_L26_57 n57)) (AL_cg m76 m84 (AL_ast hF77 eF85))) (Eq.refl ((nI q257) : Int32))) (Eq.refl (p1 : Int32))))
      have m89 : ((nI q257) + Int32.ofInt (1)) = (nI (q257 + 1)) := (congrArg (fun q : Int32 => q + Int32.ofInt (1)) rfl).trans (nI_add _ 1)
      refine lv_iinc (v := (nI (q257 + 1))) (lv' := [(2, .int (nI (q257 + 1))), (0, .ref (ad 58)), (1, .int p1)]) S.1 S.2.1 dX8_fitsBut_57 hl57 (k := 0) rfl (nI_add _ 1) (by decide) rfl (fun ls88 hl88 => ?_)
      refine lv_goto (tgt := 26) S.1 S.2.1 dX8_fitsBut_60 (by decide) ?_
      have hE90 : M = (m_X8_fitsBut_L26_57 n57) (AB2 ad F85) (nI (q257 + 1)) p1 := hE87.trans ((show m_X8_fitsBut_86 (m_X8_fitsBut_L26_57 n57) (AB2 ad F85) (nI q257) p1 = (m_X8_fitsBut_L26_57 n57) (AB2 ad F85) ((nI q257) + Int32.ofInt (1)) p1 from rfl).trans (congr (congr (congrArg ((m_X8_fitsBut_L26_57 n57)) (rfl : AB2 ad F85 = AB2 ad F85)) m89) (Eq.refl (p1 : Int32))))
      exact ih57 (q257 + 1) F85 H85 locs85 (by omega) (by omega) hW85 hFr85 hP85 hS85 hE90 ls88 (lv_sub hl88 [0, 1, 2] rfl)
  have hE91 : M = m_X8_fitsBut_L26_57 2000 (AB2 ad F53) (nI 0) p1 := hE55.trans ((show m_X8_fitsBut_54 (AB2 ad F53) p1 = m_X8_fitsBut_L26_57 2000 (AB2 ad F53) (nI 0) p1 from rfl).trans (congr (congr (congrArg (m_X8_fitsBut_L26_57 2000) (rfl : AB2 ad F53 = AB2 ad F53)) (Eq.refl ((nI 0) : Int32))) (Eq.refl (p1 : Int32))))
  exact lp57 2000 (0) F53 H53 locs53 (by omega) (by omega) hW53 hFr53 hP53 hS53 hE91 ls56 (lv_sub hl56 [0, 1, 2] rfl)
noncomputable def m_X8_fits_5 (σ : S2) (a0 : Int32) : Int32 × S2 :=
  if a0 = (0 : Int32) then
    ((nI 0), σ)
  else
    ((nI 1), σ)
noncomputable def m_X8_fits (σ : S2) : Int32 × S2 :=
  m_X8_fits_5 ((m_X8_fitsBut σ ((-1) : Int32))).2 ((m_X8_fitsBut σ ((-1) : Int32))).1
set_option maxHeartbeats 4000000 in
set_option maxRecDepth 100000 in
theorem cL_X8_fits (l : Launch) (D : va_G) (cA ad : Nat → Nat) (t : Nat) (hI : rI ad) (F : Nat → va_E) (hW : WT cA ad F) : MI l D cA ad t yX8_fits wsX8_fits { frames := 4, cells := 0, slots := 0, locals := 100 } [.ref (ad 58)] F (fun r F' => WT cA ad F' ∧ rFr [71] F F' ∧ ((True) ∧ m_X8_fits (AB2 ad F) = (r, AB2 ad F'))) := by
  refine en_I rfl (by decide +kernel) (Nat.le_of_ble_eq_true rfl) ?_
  intro p e s m args below meth c ls0 Q S hK hZ hP hS hl0 hret
  have hl0 : lv_has ls0 1 [(0, .ref (ad 58))] := hl0
  have hFr : rFr [71] F F := rFr.rf
  obtain ⟨M, hM⟩ : ∃ M, M = m_X8_fits (AB2 ad F) := ⟨_, rfl⟩
  refine lv_aload_n S.1 S.2.1 dX8_fits_0 rfl (lv_at hl0 0 rfl) ?_
  refine lv_iconst (v := (-1)) S.1 S.2.1 dX8_fits_1 (by decide +kernel) ?_
  obtain ⟨ty2, kn2, no2, en2, at2, sa2, sd2, wr2, pl2, va2, hF2, hb2_1, hb2_2, hb2_3, hb2_4, hb2_5, hb2_6⟩ := wt_m hW
  refine r_cVi (As := [.int (-1)]) (rest := []) S hK hZ hP hS hl0.1 58 (by decide) hF2 (C := RX8) rfl (cL_X8_fitsBut l D cA ad t hI F hW (-1)) (cwV 1 S.2.2.2.2 gX8_fits_X8_fitsBut rfl rfl rfl (by decide +kernel) ⟨Nat.le_of_ble_eq_true rfl, Nat.le_of_ble_eq_true rfl⟩) rfl rfl (Nat.le_of_ble_eq_true rfl) ⟨Nat.zero_le _, Nat.zero_le _⟩ dX8_fits_2 (fun r1 F1 H1 locs1 hr1 hP1 hS1 => ?_)
  obtain ⟨hW1, hFc1, hr1⟩ := hr1
  obtain ⟨hr1, hm1⟩ := hr1
  have hFr1 := hFr.tr hFc1 (by simp <;> first | omega | (simp only [isC, isJ] at *; omega))
  obtain ⟨b3, hb3, rfl⟩ := hr1
  have mc4 : (m_X8_fitsBut (AB2 ad F) ((-1) : Int32)) = ((nI b3), AB2 ad F1) := (congr (Eq.refl (m_X8_fitsBut (AB2 ad F))) (Eq.refl ((-1) : Int32))).trans hm1
  have hE6 : M = m_X8_fits_5 (AB2 ad F1) (nI b3) := hM.trans ((show m_X8_fits (AB2 ad F) = m_X8_fits_5 ((m_X8_fitsBut (AB2 ad F) ((-1) : Int32))).2 ((m_X8_fitsBut (AB2 ad F) ((-1) : Int32))).1 from rfl).trans (congr (congrArg (m_X8_fits_5) (congrArg Prod.snd mc4)) (congrArg Prod.fst mc4)))
  refine lv_if_eq (tgt := 12) S.1 S.2.1 dX8_fits_5 (by decide) (fun c7 => ?_) (fun c7 => ?_)
  · skip
    have k8 := ci_eq (nI_toInt (n := b3) (by omega)) z_ti c7
    refine lv_iconst (v := (nI 0)) S.1 S.2.1 dX8_fits_12 (by decide +kernel) ?_
    have hE9 : M = ((nI 0), AB2 ad F1) := hE6.trans ((show m_X8_fits_5 (AB2 ad F1) (nI b3) = ((nI 0), (AB2 ad F1)) from by unfold m_X8_fits_5; rw [if_pos (eq_cg rfl rfl c7)]).trans (congrArg (fun q => (q, AB2 ad F1)) rfl))
    exact hret 13 _ _ _ _ _ dX8_fits_13 rfl hP1 hS1 ⟨hW1, hFr1, ⟨trivial, hM.symm.trans hE9⟩⟩
  have k10 := ci_ne (nI_toInt (n := b3) (by omega)) z_ti c7
  refine lv_iconst (v := (nI 1)) S.1 S.2.1 dX8_fits_8 (by decide +kernel) ?_
  refine lv_goto (tgt := 13) S.1 S.2.1 dX8_fits_9 (by decide) ?_
  have hE11 : M = ((nI 1), AB2 ad F1) := hE6.trans ((show m_X8_fits_5 (AB2 ad F1) (nI b3) = ((nI 1), (AB2 ad F1)) from by unfold m_X8_fits_5; rw [if_neg (neq_cg rfl rfl c7)]).trans (congrArg (fun q => (q, AB2 ad F1)) rfl))
  exact hret 13 _ _ _ _ _ dX8_fits_13 rfl hP1 hS1 ⟨hW1, hFr1, ⟨trivial, hM.symm.trans hE11⟩⟩
noncomputable def m_X8_bought_24 (k0 : S2 → Int32 → Int32 → Int32 × S2) (σ : S2) (a0 : Int32) (a1 : Int32) (a2 : Int32) : Int32 × S2 :=
  if a2 = (0 : Int32) then
    k0 σ (a0 + Int32.ofInt (1)) (a1 ||| (nI 0))
  else
    k0 σ (a0 + Int32.ofInt (1)) (a1 ||| ((nI 1) <<< (a0 &&& 31)))
noncomputable def m_X8_bought_14 (k0 : S2 → Int32 → Int32 → Int32 × S2) (σ : S2) (a0 : Int32) (a1 : Int32) (a2 : Int32) : Int32 × S2 :=
  if a2 = (0 : Int32) then
    m_X8_bought_24 k0 ((m_X8_fitsBut σ a0)).2 a0 a1 ((m_X8_fitsBut σ a0)).1
  else
    (a1, σ)
noncomputable def m_X8_bought_L4_3_b (k0 : S2 → Int32 → Int32 → Int32 × S2) (σ : S2) (a0 : Int32) (a1 : Int32) : Int32 × S2 :=
  if (σ.1 58 11) ≤ a0 then
    (a1, σ)
  else
    m_X8_bought_14 k0 ((m_X8_fitsBut σ ((-1) : Int32))).2 a0 a1 ((m_X8_fitsBut σ ((-1) : Int32))).1
noncomputable def m_X8_bought_L4_3 : Nat → S2 → Int32 → Int32 → Int32 × S2
  | 0 => fun σ _ _ => (0, σ)
  | n + 1 => m_X8_bought_L4_3_b (m_X8_bought_L4_3 n)
noncomputable def m_X8_bought (σ : S2) : Int32 × S2 :=
  m_X8_bought_L4_3 2000 σ (nI 0) (nI 0)
set_option maxHeartbeats 4000000 in
set_option maxRecDepth 100000 in
theorem cL_X8_bought (l : Launch) (D : va_G) (cA ad : Nat → Nat) (t : Nat) (hI : rI ad) (F : Nat → va_E) (hW : WT cA ad F) : MI l D cA ad t yX8_bought wsX8_bought { frames := 4, cells := 0, slots := 0, locals := 100 } [.ref (ad 58)] F (fun r F' => WT cA ad F' ∧ rFr [71] F F' ∧ ((True) ∧ m_X8_bought (AB2 ad F) = (r, AB2 ad F'))) := by
  refine en_I rfl (by decide +kernel) (Nat.le_of_ble_eq_true rfl) ?_
  intro p e s m args below meth c ls0 Q S hK hZ hP hS hl0 hret
  have hl0 : lv_has ls0 3 [(0, .ref (ad 58))] := hl0
  have hFr : rFr [71] F F := rFr.rf
  have hiX8 : ∀ w ∈ u_ws RX8 TX8 23, w ∈ wsX8_bought := in_wsX8_bought_2
  obtain ⟨M, hM⟩ : ∃ M, M = m_X8_bought (AB2 ad F) := ⟨_, rfl⟩
  refine lv_iconst (v := (nI 0)) S.1 S.2.1 dX8_bought_0 (by decide +kernel) ?_
  refine lv_istore_n (lv' := [(1, .int (nI 0)), (0, .ref (ad 58))]) S.1 S.2.1 dX8_bought_1 rfl hl0 (by decide) rfl (fun ls1 hl1 => ?_)
  refine lv_iconst (v := (nI 0)) S.1 S.2.1 dX8_bought_2 (by decide +kernel) ?_
  refine lv_istore_n (lv' := [(2, .int (nI 0)), (1, .int (nI 0)), (0, .ref (ad 58))]) S.1 S.2.1 dX8_bought_3 rfl hl1 (by decide) rfl (fun ls2 hl2 => ?_)
  have lp3 : ∀ (n3 : Nat) (q23 : Nat) (x3_1 : Int32), ∀ (Fl3 : Nat → va_E) (Hl3 : Heap) (lol3 : List Loc), q23 ≤ 8 → 8 - q23 < n3 → WT cA ad Fl3 → rFr [71] F Fl3 → va_P D vwCl (rW ad Fl3) Hl3 → va_S (rA ad) s.heap Hl3 lol3 → M = m_X8_bought_L4_3 n3 (AB2 ad Fl3) (nI q23) x3_1 → ∀ (ls : Array Slot), lv_has ls 3 [(2, .int (nI q23)), (1, .int x3_1), (0, .ref (ad 58))] → W p l e { frames := 4, cells := 0, slots := 0, locals := 100 } s m args below meth c Hl3 lol3 0 0 Q (F0 m 4 ls []) := by
    intro n3
    induction n3 with
    | zero =>
      intro q23 x3_1 Fl3 Hl3 lol3 iv3_0 hm3 hWl3 hFl3 hPl3 hSl3 hEl3 ls3 hl3
      exact absurd hm3 (Nat.not_lt_zero _)
    | succ n3 ih3 =>
      intro q23 x3_1 Fl3 Hl3 lol3 iv3_0 hm3 hWl3 hFl3 hPl3 hSl3 hEl3 ls3 hl3
      have hE4 : M = m_X8_bought_L4_3_b (m_X8_bought_L4_3 n3) (AB2 ad Fl3) (nI q23) x3_1 := hEl3
      refine lv_iload_n S.1 S.2.1 dX8_bought_4 rfl (lv_at hl3 0 rfl) ?_
      refine lv_aload_n S.1 S.2.1 dX8_bought_5 rfl (lv_at hl3 2 rfl) ?_
      obtain ⟨ty5, kn5, no5, en5, at5, sa5, sd5, wr5, pl5, va5, hF5, hb5_1, hb5_2, hb5_3, hb5_4, hb5_5, hb5_6⟩ := wt_m hWl3
      refine r_get S hK hPl3 58 (by decide) hF5 (C := RX8) (T := TX8) (N := 23) hiX8 rfl 11 (by decide) (am_at in_wsX8_bought_0 0 rfl) (v := .int (nI no5)) rfl dX8_bought_6 ?_
      have m6 : ((AB2 ad Fl3).1 58 11) = (nI no5) := AB_f hF5 rfl
      refine lv_icmp_ge (tgt := 44) S.1 S.2.1 dX8_bought_9 (by decide) (fun c7 => ?_) (fun c7 => ?_)
      · skip
        have k8 := ci_le (nI_toInt (n := no5) (by omega)) (nI_toInt (n := q23) (by omega)) c7
        refine lv_iload_n S.1 S.2.1 dX8_bought_44 rfl (lv_at hl3 1 rfl) ?_
        have hE9 : M = (x3_1, AB2 ad Fl3) := hE4.trans ((show m_X8_bought_L4_3_b (m_X8_bought_L4_3 n3) (AB2 ad Fl3) (nI q23) x3_1 = (x3_1, (AB2 ad Fl3)) from by unfold m_X8_bought_L4_3_b; rw [if_pos (le_cg m6 rfl c7)]).trans (congrArg (fun q => (q, AB2 ad Fl3)) rfl))
        exact hret 45 _ _ _ _ _ dX8_bought_45 rfl hPl3 hSl3 ⟨hWl3, hFl3, ⟨trivial, hM.symm.trans hE9⟩⟩
      have k10 := ci_nle (nI_toInt (n := no5) (by omega)) (nI_toInt (n := q23) (by omega)) c7
      refine lv_aload_n S.1 S.2.1 dX8_bought_12 rfl (lv_at hl3 2 rfl) ?_
      refine lv_iconst (v := (-1)) S.1 S.2.1 dX8_bought_13 (by decide +kernel) ?_
      refine r_cVi (As := [.int (-1)]) (rest := []) S hK hZ hPl3 hSl3 hl3.1 58 (by decide) hF5 (C := RX8) rfl (cL_X8_fitsBut l D cA ad t hI Fl3 hWl3 (-1)) (cwV 1 S.2.2.2.2 gX8_bought_X8_fitsBut rfl rfl rfl (by decide +kernel) ⟨Nat.le_of_ble_eq_true rfl, Nat.le_of_ble_eq_true rfl⟩) rfl rfl (Nat.le_of_ble_eq_true rfl) ⟨Nat.zero_le _, Nat.zero_le _⟩ dX8_bought_14 (fun r11 F11 H11 locs11 hr11 hP11 hS11 => ?_)
      obtain ⟨hW11, hFc11, hr11⟩ := hr11
      obtain ⟨hr11, hm11⟩ := hr11
      have hFr11 := hFl3.tr hFc11 (by simp <;> first | omega | (simp only [isC, isJ] at *; omega))
      obtain ⟨b12, hb12, rfl⟩ := hr11
      have mc13 : (m_X8_fitsBut (AB2 ad Fl3) ((-1) : Int32)) = ((nI b12), AB2 ad F11) := (congr (Eq.refl (m_X8_fitsBut (AB2 ad Fl3))) (Eq.refl ((-1) : Int32))).trans hm11
      have hE15 : M = m_X8_bought_14 (m_X8_bought_L4_3 n3) (AB2 ad F11) (nI q23) x3_1 (nI b12) := hE4.trans ((show m_X8_bought_L4_3_b (m_X8_bought_L4_3 n3) (AB2 ad Fl3) (nI q23) x3_1 = m_X8_bought_14 (m_X8_bought_L4_3 n3) ((m_X8_fitsBut (AB2 ad Fl3) ((-1) : Int32))).2 (nI q23) x3_1 ((m_X8_fitsBut (AB2 ad Fl3) ((-1) : Int32))).1 from by unfold m_X8_bought_L4_3_b; rw [if_neg (nle_cg m6 rfl c7)]).trans (congr (congr (congr (congrArg (m_X8_bought_14 (m_X8_bought_L4_3 n3)) (congrArg Prod.snd mc13)) (Eq.refl ((nI q23) : Int32))) (Eq.refl (x3_1 : Int32))) (congrArg Prod.fst mc13)))
      refine lv_if_ne (tgt := 44) S.1 S.2.1 dX8_bought_17 (by decide) (fun c16 => ?_) (fun c16 => ?_)
      · skip
        have k17 := ci_ne (nI_toInt (n := b12) (by omega)) z_ti c16
        refine lv_iload_n S.1 S.2.1 dX8_bought_44 rfl (lv_at hl3 1 rfl) ?_
        have hE18 : M = (x3_1, AB2 ad F11) := hE15.trans ((show m_X8_bought_14 (m_X8_bought_L4_3 n3) (AB2 ad F11) (nI q23) x3_1 (nI b12) = (x3_1, (AB2 ad F11)) from by unfold m_X8_bought_14; rw [if_neg (neq_cg rfl rfl c16)]).trans (congrArg (fun q => (q, AB2 ad F11)) rfl))
        exact hret 45 _ _ _ _ _ dX8_bought_45 rfl hP11 hS11 ⟨hW11, hFr11, ⟨trivial, hM.symm.trans hE18⟩⟩
      have k19 := ci_eq (nI_toInt (n := b12) (by omega)) z_ti c16
      refine lv_iload_n S.1 S.2.1 dX8_bought_20 rfl (lv_at hl3 1 rfl) ?_
      refine lv_aload_n S.1 S.2.1 dX8_bought_21 rfl (lv_at hl3 2 rfl) ?_
      refine lv_iload_n S.1 S.2.1 dX8_bought_22 rfl (lv_at hl3 0 rfl) ?_
      have hF21 := (hFc11 58 (by decide)).trans hF5
      refine r_cVi (As := [.int (nI q23)]) (rest := [.int x3_1]) S hK hZ hP11 hS11 hl3.1 58 (by decide) hF21 (C := RX8) rfl (cL_X8_fitsBut l D cA ad t hI F11 hW11 (nI q23)) (cwV 1 S.2.2.2.2 gX8_bought_X8_fitsBut rfl rfl rfl (by decide +kernel) ⟨Nat.le_of_ble_eq_true rfl, Nat.le_of_ble_eq_true rfl⟩) rfl rfl (Nat.le_of_ble_eq_true rfl) ⟨Nat.zero_le _, Nat.zero_le _⟩ dX8_bought_23 (fun r20 F20 H20 locs20 hr20 hP20 hS20 => ?_)
      obtain ⟨hW20, hFc20, hr20⟩ := hr20
      obtain ⟨hr20, hm20⟩ := hr20
      have hFr20 := hFr11.tr hFc20 (by simp <;> first | omega | (simp only [isC, isJ] at *; omega))
      obtain ⟨b22, hb22, rfl⟩ := hr20
      have mc23 : (m_X8_fitsBut (AB2 ad F11) (nI q23)) = ((nI b22), AB2 ad F20) := (congr (Eq.refl (m_X8_fitsBut (AB2 ad F11))) (Eq.refl ((nI q23) : Int32))).trans hm20
      have hE25 : M = m_X8_bought_24 (m_X8_bought_L4_3 n3) (AB2 ad F20) (nI q23) x3_1 (nI b22) := hE15.trans ((show m_X8_bought_14 (m_X8_bought_L4_3 n3) (AB2 ad F11) (nI q23) x3_1 (nI b12) = m_X8_bought_24 (m_X8_bought_L4_3 n3) ((m_X8_fitsBut (AB2 ad F11) (nI q23))).2 (nI q23) x3_1 ((m_X8_fitsBut (AB2 ad F11) (nI q23))).1 from by unfold m_X8_bought_14; rw [if_pos (eq_cg rfl rfl c16)]).trans (congr (congr (congr (congrArg (m_X8_bought_24 (m_X8_bought_L4_3 n3)) (congrArg Prod.snd mc23)) (Eq.refl ((nI q23) : Int32))) (Eq.refl (x3_1 : Int32))) (congrArg Prod.fst mc23)))
      refine lv_if_eq (tgt := 35) S.1 S.2.1 dX8_bought_26 (by decide) (fun c26 => ?_) (fun c26 => ?_)
      · skip
        have k27 := ci_eq (nI_toInt (n := b22) (by omega)) z_ti c26
        refine lv_iconst (v := (nI 0)) S.1 S.2.1 dX8_bought_35 (by decide +kernel) ?_
        refine lv_ior S.1 S.2.1 dX8_bought_36 ?_
        refine lv_topi (fun v28 e28 => ?_)
        have m29 : (x3_1 ||| (nI 0)) = v28 := cg2 (fun (x : Int32) (y : Int32) => x ||| y) (Eq.refl (x3_1 : Int32)) (Eq.refl ((nI 0) : Int32)) e28
        refine lv_istore_n (lv' := [(1, .int v28), (2, .int (nI q23)), (0, .ref (ad 58))]) S.1 S.2.1 dX8_bought_37 rfl hl3 (by decide) rfl (fun ls30 hl30 => ?_)
        have m32 : ((nI q23) + Int32.ofInt (1)) = (nI (q23 + 1)) := (congrArg (fun q : Int32 => q + Int32.ofInt (1)) rfl).trans (nI_add _ 1)
        refine lv_iinc (v := (nI (q23 + 1))) (lv' := [(2, .int (nI (q23 + 1))), (1, .int v28), (0, .ref (ad 58))]) S.1 S.2.1 dX8_bought_38 hl30 (k := 1) rfl (nI_add _ 1) (by decide) rfl (fun ls31 hl31 => ?_)
        refine lv_goto (tgt := 4) S.1 S.2.1 dX8_bought_41 (by decide) ?_
        have hE33 : M = (m_X8_bought_L4_3 n3) (AB2 ad F20) (nI (q23 + 1)) v28 := hE25.trans ((show m_X8_bought_24 (m_X8_bought_L4_3 n3) (AB2 ad F20) (nI q23) x3_1 (nI b22) = (m_X8_bought_L4_3 n3) (AB2 ad F20) ((nI q23) + Int32.ofInt (1)) (x3_1 ||| (nI 0)) from by unfold m_X8_bought_24; rw [if_pos (eq_cg rfl rfl c26)]).trans (congr (congr (congrArg ((m_X8_bought_L4_3 n3)) (rfl : AB2 ad F20 = AB2 ad F20)) m32) m29))
        exact ih3 (q23 + 1) (v28) F20 H20 locs20 (by omega) (by omega) hW20 hFr20 hP20 hS20 hE33 ls31 (lv_sub hl31 [0, 1, 2] rfl)
      have k34 := ci_ne (nI_toInt (n := b22) (by omega)) z_ti c26
      refine lv_iconst (v := (nI 1)) S.1 S.2.1 dX8_bought_29 (by decide +kernel) ?_
      refine lv_iload_n S.1 S.2.1 dX8_bought_30 rfl (lv_at hl3 0 rfl) ?_
      refine lv_ishl S.1 S.2.1 dX8_bought_31 ?_
      refine lv_topi (fun v35 e35 => ?_)
      have m36 : ((nI 1) <<< ((nI q23) &&& 31)) = v35 := cg2 (fun (x : Int32) (y : Int32) => x <<< (y &&& 31)) (Eq.refl ((nI 1) : Int32)) (Eq.refl ((nI q23) : Int32)) e35
      refine lv_goto (tgt := 36) S.1 S.2.1 dX8_bought_32 (by decide) ?_
      refine lv_ior S.1 S.2.1 dX8_bought_36 ?_
      refine lv_topi (fun v37 e37 => ?_)
      have m38 : (x3_1 ||| ((nI 1) <<< ((nI q23) &&& 31))) = v37 := cg2 (fun (x : Int32) (y : Int32) => x ||| y) (Eq.refl (x3_1 : Int32)) m36 e37
      refine lv_istore_n (lv' := [(1, .int v37), (2, .int (nI q23)), (0, .ref (ad 58))]) S.1 S.2.1 dX8_bought_37 rfl hl3 (by decide) rfl (fun ls39 hl39 => ?_)
      have m41 : ((nI q23) + Int32.ofInt (1)) = (nI (q23 + 1)) := (congrArg (fun q : Int32 => q + Int32.ofInt (1)) rfl).trans (nI_add _ 1)
      refine lv_iinc (v := (nI (q23 + 1))) (lv' := [(2, .int (nI (q23 + 1))), (1, .int v37), (0, .ref (ad 58))]) S.1 S.2.1 dX8_bought_38 hl39 (k := 1) rfl (nI_add _ 1) (by decide) rfl (fun ls40 hl40 => ?_)
      refine lv_goto (tgt := 4) S.1 S.2.1 dX8_bought_41 (by decide) ?_
      have hE42 : M = (m_X8_bought_L4_3 n3) (AB2 ad F20) (nI (q23 + 1)) v37 := hE25.trans ((show m_X8_bought_24 (m_X8_bought_L4_3 n3) (AB2 ad F20) (nI q23) x3_1 (nI b22) = (m_X8_bought_L4_3 n3) (AB2 ad F20) ((nI q23) + Int32.ofInt (1)) (x3_1 ||| ((nI 1) <<< ((nI q23) &&& 31))) from by unfold m_X8_bought_24; rw [if_neg (neq_cg rfl rfl c26)]).trans (congr (congr (congrArg ((m_X8_bought_L4_3 n3)) (rfl : AB2 ad F20 = AB2 ad F20)) m41) m38))
      exact ih3 (q23 + 1) (v37) F20 H20 locs20 (by omega) (by omega) hW20 hFr20 hP20 hS20 hE42 ls40 (lv_sub hl40 [0, 1, 2] rfl)
  have hE43 : M = m_X8_bought_L4_3 2000 (AB2 ad F) (nI 0) (nI 0) := hM.trans ((show m_X8_bought (AB2 ad F) = m_X8_bought_L4_3 2000 (AB2 ad F) (nI 0) (nI 0) from rfl).trans (congr (congr (congrArg (m_X8_bought_L4_3 2000) (rfl : AB2 ad F = AB2 ad F)) (Eq.refl ((nI 0) : Int32))) (Eq.refl ((nI 0) : Int32))))
  exact lp3 2000 (0) ((nI 0)) F s.heap [] (by omega) (by omega) hW hFr hP hS hE43 ls2 (lv_sub hl2 [0, 1, 2] rfl)
noncomputable def m_X8_waysOn_30 (k0 : S2 → Int32 → S2) (σ : S2) (a0 : Int32) : S2 :=
  k0 σ (a0 + Int32.ofInt (-1))
noncomputable def m_X8_waysOn_L9_8_b (k0 : S2 → Int32 → S2) (σ : S2) (a0 : Int32) : S2 :=
  if a0 < (0 : Int32) then
    σ
  else
    m_X8_waysOn_30 k0 (σ.1, vp_updL (σ).2 (rl a0) (m_X8_ledTo σ.1 ((σ).2 (rl a0)) ((σ).2 (rl (a0 + (nI 1)))) (m_X8_onlyIn σ.1 a0 ((-1) : Int32)))) a0
noncomputable def m_X8_waysOn_L9_8 : Nat → S2 → Int32 → S2
  | 0 => fun σ _ => σ
  | n + 1 => m_X8_waysOn_L9_8_b (m_X8_waysOn_L9_8 n)
noncomputable def m_X8_waysOn_5 (σ : S2) (a0 : Int32) : S2 :=
  m_X8_waysOn_L9_8 2000 σ (nI 47)
noncomputable def m_X8_waysOn (σ : S2) : S2 :=
  m_X8_waysOn_5 ((m_X8_fitsBut σ ((-1) : Int32))).2 ((m_X8_fitsBut σ ((-1) : Int32))).1
set_option maxHeartbeats 4000000 in
set_option maxRecDepth 100000 in
theorem cL_X8_waysOn (l : Launch) (D : va_G) (cA ad : Nat → Nat) (t : Nat) (hI : rI ad) (F : Nat → va_E) (hW : WT cA ad F) : MV l D cA ad t yX8_waysOn wsX8_waysOn { frames := 4, cells := 0, slots := 0, locals := 108 } [.ref (ad 58)] F (fun F' => WT cA ad F' ∧ rFr [71] F F' ∧ ((True) ∧ m_X8_waysOn (AB2 ad F) = AB2 ad F')) := by
  refine en_V rfl (by decide +kernel) (Nat.le_of_ble_eq_true rfl) ?_
  intro p e s m args below meth c ls0 Q S hK hZ hP hS hl0 hret
  have hl0 : lv_has ls0 2 [(0, .ref (ad 58))] := hl0
  have hFr : rFr [71] F F := rFr.rf
  have hiX8 : ∀ w ∈ u_ws RX8 TX8 23, w ∈ wsX8_waysOn := in_wsX8_waysOn_2
  obtain ⟨M, hM⟩ : ∃ M, M = m_X8_waysOn (AB2 ad F) := ⟨_, rfl⟩
  refine lv_aload_n S.1 S.2.1 dX8_waysOn_0 rfl (lv_at hl0 0 rfl) ?_
  refine lv_iconst (v := (-1)) S.1 S.2.1 dX8_waysOn_1 (by decide +kernel) ?_
  obtain ⟨ty2, kn2, no2, en2, at2, sa2, sd2, wr2, pl2, va2, hF2, hb2_1, hb2_2, hb2_3, hb2_4, hb2_5, hb2_6⟩ := wt_m hW
  refine r_cVi (As := [.int (-1)]) (rest := []) S hK hZ hP hS hl0.1 58 (by decide) hF2 (C := RX8) rfl (cL_X8_fitsBut l D cA ad t hI F hW (-1)) (cwV 1 S.2.2.2.2 gX8_waysOn_X8_fitsBut rfl rfl rfl (by decide +kernel) ⟨Nat.le_of_ble_eq_true rfl, Nat.le_of_ble_eq_true rfl⟩) rfl rfl (Nat.le_of_ble_eq_true rfl) ⟨Nat.zero_le _, Nat.zero_le _⟩ dX8_waysOn_2 (fun r1 F1 H1 locs1 hr1 hP1 hS1 => ?_)
  obtain ⟨hW1, hFc1, hr1⟩ := hr1
  obtain ⟨hr1, hm1⟩ := hr1
  have hFr1 := hFr.tr hFc1 (by simp <;> first | omega | (simp only [isC, isJ] at *; omega))
  obtain ⟨b3, hb3, rfl⟩ := hr1
  have mc4 : (m_X8_fitsBut (AB2 ad F) ((-1) : Int32)) = ((nI b3), AB2 ad F1) := (congr (Eq.refl (m_X8_fitsBut (AB2 ad F))) (Eq.refl ((-1) : Int32))).trans hm1
  have hE6 : M = m_X8_waysOn_5 (AB2 ad F1) (nI b3) := hM.trans ((show m_X8_waysOn (AB2 ad F) = m_X8_waysOn_5 ((m_X8_fitsBut (AB2 ad F) ((-1) : Int32))).2 ((m_X8_fitsBut (AB2 ad F) ((-1) : Int32))).1 from rfl).trans (congr (congrArg (m_X8_waysOn_5) (congrArg Prod.snd mc4)) (congrArg Prod.fst mc4)))
  refine lv_pop S.1 S.2.1 dX8_waysOn_5 rfl ?_
  refine lv_bipush (v := (nI 47)) S.1 S.2.1 dX8_waysOn_6 (by decide +kernel) ?_
  refine lv_istore_n (lv' := [(1, .int (nI 47)), (0, .ref (ad 58))]) S.1 S.2.1 dX8_waysOn_8 rfl hl0 (by decide) rfl (fun ls7 hl7 => ?_)
  have lp8 : ∀ (n8 : Nat) (x8_1 : Int32), ∀ (Fl8 : Nat → va_E) (Hl8 : Heap) (lol8 : List Loc), -1 ≤ x8_1.toInt → x8_1.toInt ≤ 47 → (x8_1.toInt + 1).toNat < n8 → WT cA ad Fl8 → rFr [71] F Fl8 → va_P D vwCl (rW ad Fl8) Hl8 → va_S (rA ad) s.heap Hl8 lol8 → M = m_X8_waysOn_L9_8 n8 (AB2 ad Fl8) x8_1 → ∀ (ls : Array Slot), lv_has ls 2 [(1, .int x8_1), (0, .ref (ad 58))] → W p l e { frames := 4, cells := 0, slots := 0, locals := 108 } s m args below meth c Hl8 lol8 0 0 Q (F0 m 9 ls []) := by
    intro n8
    induction n8 with
    | zero =>
      intro x8_1 Fl8 Hl8 lol8 iv8_0 iv8_1 hm8 hWl8 hFl8 hPl8 hSl8 hEl8 ls8 hl8
      exact absurd hm8 (Nat.not_lt_zero _)
    | succ n8 ih8 =>
      intro x8_1 Fl8 Hl8 lol8 iv8_0 iv8_1 hm8 hWl8 hFl8 hPl8 hSl8 hEl8 ls8 hl8
      have hE9 : M = m_X8_waysOn_L9_8_b (m_X8_waysOn_L9_8 n8) (AB2 ad Fl8) x8_1 := hEl8
      refine lv_iload_n S.1 S.2.1 dX8_waysOn_9 rfl (lv_at hl8 0 rfl) ?_
      refine lv_if_lt (tgt := 49) S.1 S.2.1 dX8_waysOn_10 (by decide) (fun c10 => ?_) (fun c10 => ?_)
      · skip
        have k11 := ci_lt rfl z_ti c10
        have hE12 : M = AB2 ad Fl8 := hE9.trans ((show m_X8_waysOn_L9_8_b (m_X8_waysOn_L9_8 n8) (AB2 ad Fl8) x8_1 = (AB2 ad Fl8) from by unfold m_X8_waysOn_L9_8_b; rw [if_pos (lt_cg rfl rfl c10)]).trans rfl)
        exact hret 49 _ _ _ _ dX8_waysOn_49 hPl8 hSl8 ⟨hWl8, hFl8, ⟨trivial, hM.symm.trans hE12⟩⟩
      have k13 := ci_nlt rfl z_ti c10
      obtain ⟨j14, hj14, rfl⟩ := nI_of_le (x := x8_1) (B := 47) (by omega) (by omega)
      have kj14 := nI_toInt (n := j14) (by omega)
      refine lv_aload_n S.1 S.2.1 dX8_waysOn_13 rfl (lv_at hl8 1 rfl) ?_
      obtain ⟨ty15, kn15, no15, en15, at15, sa15, sd15, wr15, pl15, va15, hF15, hb15_1, hb15_2, hb15_3, hb15_4, hb15_5, hb15_6⟩ := wt_m hWl8
      refine r_get S hK hPl8 58 (by decide) hF15 (C := RX8) (T := TX8) (N := 23) hiX8 rfl 22 (by decide) (am_at in_wsX8_waysOn_0 0 rfl) (v := .ref (ad 71)) rfl dX8_waysOn_14 ?_
      refine lv_iload_n S.1 S.2.1 dX8_waysOn_17 rfl (lv_at hl8 0 rfl) ?_
      refine lv_aload_n S.1 S.2.1 dX8_waysOn_18 rfl (lv_at hl8 1 rfl) ?_
      refine lv_aload_n S.1 S.2.1 dX8_waysOn_19 rfl (lv_at hl8 1 rfl) ?_
      refine r_get S hK hPl8 58 (by decide) hF15 (C := RX8) (T := TX8) (N := 23) hiX8 rfl 22 (by decide) (am_at in_wsX8_waysOn_0 0 rfl) (v := .ref (ad 71)) rfl dX8_waysOn_20 ?_
      refine lv_iload_n S.1 S.2.1 dX8_waysOn_23 rfl (lv_at hl8 0 rfl) ?_
      obtain ⟨g16, hF16⟩ := wt_L hWl8 (show (71, 49) ∈ rLL by decide)
      refine r_lald S hK hPl8 71 (by decide) hF16 (vp_in_nI (show j14 < 49 by omega) (by omega)) dX8_waysOn_24 ?_
      refine lv_topl (fun v18 e18 => ?_)
      have m19 : (((AB2 ad Fl8)).2 (rl (nI j14))) = v18 := (congrArg (fun q : Int32 => (AB2 ad Fl8).2 (rl q)) rfl).trans ((AL_g hF16).trans e18.symm)
      refine lv_aload_n S.1 S.2.1 dX8_waysOn_25 rfl (lv_at hl8 1 rfl) ?_
      refine r_get S hK hPl8 58 (by decide) hF15 (C := RX8) (T := TX8) (N := 23) hiX8 rfl 22 (by decide) (am_at in_wsX8_waysOn_0 0 rfl) (v := .ref (ad 71)) rfl dX8_waysOn_26 ?_
      refine lv_iload_n S.1 S.2.1 dX8_waysOn_29 rfl (lv_at hl8 0 rfl) ?_
      refine lv_iconst (v := (nI 1)) S.1 S.2.1 dX8_waysOn_30 (by decide +kernel) ?_
      refine lv_iadd S.1 S.2.1 dX8_waysOn_31 ?_
      refine lv_topi (fun v20 e20 => ?_)
      obtain rfl : v20 = nI (j14 + 1) := e20.trans (nI_add _ _)
      have m21 : ((nI j14) + (nI 1)) = (nI (j14 + 1)) := cg2 (fun (x : Int32) (y : Int32) => x + y) (Eq.refl ((nI j14) : Int32)) (Eq.refl ((nI 1) : Int32)) e20
      refine r_lald S hK hPl8 71 (by decide) hF16 (vp_in_nI (show j14 + 1 < 49 by omega) (by omega)) dX8_waysOn_32 ?_
      refine lv_topl (fun v23 e23 => ?_)
      have m24 : (((AB2 ad Fl8)).2 (rl ((nI j14) + (nI 1)))) = v23 := (congrArg (fun q : Int32 => (AB2 ad Fl8).2 (rl q)) m21).trans ((AL_g hF16).trans e23.symm)
      refine lv_aload_n S.1 S.2.1 dX8_waysOn_33 rfl (lv_at hl8 1 rfl) ?_
      refine lv_iload_n S.1 S.2.1 dX8_waysOn_34 rfl (lv_at hl8 0 rfl) ?_
      refine lv_iconst (v := (-1)) S.1 S.2.1 dX8_waysOn_35 (by decide +kernel) ?_
      refine r_cVp (As := [.int (nI j14), .int (-1)]) (rest := [.long v23, .long v18, .ref (ad 58), .int (nI j14), .ref (ad 71)]) S hK hZ hPl8 hSl8 hl8.1 58 (by decide) hF15 (C := RX8) rfl (c_X8_onlyIn l D cA ad t hI Fl8 hWl8 (nI j14) (-1)) (cwV 2 S.2.2.2.2 gX8_waysOn_X8_onlyIn rfl rfl rfl (by decide +kernel) ⟨Nat.le_of_ble_eq_true rfl, Nat.le_of_ble_eq_true rfl⟩) rfl rfl (Nat.le_of_ble_eq_true rfl) ⟨Nat.zero_le _, Nat.zero_le _⟩ dX8_waysOn_36 (fun r25 hr25 => ?_)
      obtain ⟨hr25, hm25⟩ := hr25
      have m26 : (m_X8_onlyIn (AB2 ad Fl8).1 (nI j14) ((-1) : Int32)) = r25 := (congr (congr (Eq.refl (m_X8_onlyIn (AB ad Fl8))) (Eq.refl ((nI j14) : Int32))) (Eq.refl ((-1) : Int32))).trans hm25
      refine r_cVl (As := [.long v18, .long v23, .int r25]) (rest := [.int (nI j14), .ref (ad 71)]) S hK hZ hPl8 hSl8 hl8.1 58 (by decide) hF15 (C := RX8) rfl (c_X8_ledTo l D cA ad t hI Fl8 hWl8 v18 v23 r25) (cwV 3 S.2.2.2.2 gX8_waysOn_X8_ledTo rfl rfl rfl (by decide +kernel) ⟨Nat.le_of_ble_eq_true rfl, Nat.le_of_ble_eq_true rfl⟩) rfl rfl (Nat.le_of_ble_eq_true rfl) ⟨Nat.zero_le _, Nat.zero_le _⟩ dX8_waysOn_39 (fun r27 hr27 => ?_)
      obtain ⟨hr27, hm27⟩ := hr27
      have m28 : (m_X8_ledTo (AB2 ad Fl8).1 (((AB2 ad Fl8)).2 (rl (nI j14))) (((AB2 ad Fl8)).2 (rl ((nI j14) + (nI 1)))) (m_X8_onlyIn (AB2 ad Fl8).1 (nI j14) ((-1) : Int32))) = r27 := (congr (congr (congr (Eq.refl (m_X8_ledTo (AB ad Fl8))) m19) m24) m26).trans hm27
      refine r_last S hI hK hPl8 hSl8 71 (by decide) hF16 (vp_in_nI (show j14 < 49 by omega) (by omega)) dX8_waysOn_42 (fun F29 H29 locs29 eF29 hP29 hS29 => ?_)
      have hW29 := hWl8.up eF29 (ok_L (show (71, 49) ∈ rLL by decide) ⟨_, rfl⟩)
      have hFr29 := hFl8.up eF29 (by simp <;> first | omega | (simp only [isC, isJ] at *; omega))
      have hE31 : M = m_X8_waysOn_30 (m_X8_waysOn_L9_8 n8) (AB2 ad F29) (nI j14) := hE9.trans ((show m_X8_waysOn_L9_8_b (m_X8_waysOn_L9_8 n8) (AB2 ad Fl8) (nI j14) = m_X8_waysOn_30 (m_X8_waysOn_L9_8 n8) ((AB2 ad Fl8).1, vp_updL ((AB2 ad Fl8)).2 (rl (nI j14)) (m_X8_ledTo (AB2 ad Fl8).1 (((AB2 ad Fl8)).2 (rl (nI j14))) (((AB2 ad Fl8)).2 (rl ((nI j14) + (nI 1)))) (m_X8_onlyIn (AB2 ad Fl8).1 (nI j14) ((-1) : Int32)))) (nI j14) from by unfold m_X8_waysOn_L9_8_b; rw [if_neg (nlt_cg rfl rfl c10)]).trans (congr (congrArg (m_X8_waysOn_30 (m_X8_waysOn_L9_8 n8)) (AL_cg (Eq.refl ((nI j14) : Int32)) m28 (AL_ast hF16 eF29))) (Eq.refl ((nI j14) : Int32))))
      obtain ⟨v32, e32⟩ : ∃ y : Int32, y = (nI j14) + Int32.ofInt (-1) := ⟨_, rfl⟩
      have kd32 : v32.toInt = ((j14 : Nat) : Int) - 1 := by rw [e32]; exact nI_dec (by omega)
      have m33 : ((nI j14) + Int32.ofInt (-1)) = v32 := (congrArg (fun q : Int32 => q + Int32.ofInt (-1)) rfl).trans e32.symm
      refine lv_iinc (v := v32) (lv' := [(1, .int v32), (0, .ref (ad 58))]) S.1 S.2.1 dX8_waysOn_43 hl8 (k := 0) rfl e32.symm (by decide) rfl (fun ls32 hl32 => ?_)
      refine lv_goto (tgt := 9) S.1 S.2.1 dX8_waysOn_46 (by decide) ?_
      have hE34 : M = (m_X8_waysOn_L9_8 n8) (AB2 ad F29) v32 := hE31.trans ((show m_X8_waysOn_30 (m_X8_waysOn_L9_8 n8) (AB2 ad F29) (nI j14) = (m_X8_waysOn_L9_8 n8) (AB2 ad F29) ((nI j14) + Int32.ofInt (-1)) from rfl).trans (congr (congrArg ((m_X8_waysOn_L9_8 n8)) (rfl : AB2 ad F29 = AB2 ad F29)) m33))
      exact ih8 (v32) F29 H29 locs29 (by omega) (by omega) (by omega) hW29 hFr29 hP29 hS29 hE34 ls32 (lv_sub hl32 [0, 1] rfl)
  have kt35 := nI_toInt (n := 47) (by omega)
  have hE36 : M = m_X8_waysOn_L9_8 2000 (AB2 ad F1) (nI 47) := hE6.trans ((show m_X8_waysOn_5 (AB2 ad F1) (nI b3) = m_X8_waysOn_L9_8 2000 (AB2 ad F1) (nI 47) from rfl).trans (congr (congrArg (m_X8_waysOn_L9_8 2000) (rfl : AB2 ad F1 = AB2 ad F1)) (Eq.refl ((nI 47) : Int32))))
  exact lp8 2000 ((nI 47)) F1 H1 locs1 (by omega) (by omega) (by omega) hW1 hFr1 hP1 hS1 hE36 ls7 (lv_sub hl7 [0, 1] rfl)
noncomputable def m_X8_was_12 (σ : S2) (a0 : Int32) : Int32 × S2 :=
  ((m_X8_towns σ.1 ((σ).2 (rl a0))), σ)
noncomputable def m_X8_was (σ : S2) (a0 : Int32) : Int32 × S2 :=
  if (m_X8_in σ.1 a0 (nI 0) (nI 48)) = (0 : Int32) then
    (((-1000000002) : Int32), σ)
  else
    m_X8_was_12 (m_X8_waysOn σ) a0
set_option maxHeartbeats 4000000 in
set_option maxRecDepth 100000 in
theorem cL_X8_was (l : Launch) (D : va_G) (cA ad : Nat → Nat) (t : Nat) (hI : rI ad) (F : Nat → va_E) (hW : WT cA ad F) (p1 : Int32) : MI l D cA ad t yX8_was wsX8_was { frames := 5, cells := 0, slots := 0, locals := 129 } [.ref (ad 58), .int p1] F (fun r F' => WT cA ad F' ∧ rFr [71] F F' ∧ ((True) ∧ m_X8_was (AB2 ad F) p1 = (r, AB2 ad F'))) := by
  refine en_I rfl (by decide +kernel) (Nat.le_of_ble_eq_true rfl) ?_
  intro p e s m args below meth c ls0 Q S hK hZ hP hS hl0 hret
  have hl0 : lv_has ls0 2 [(0, .ref (ad 58)), (1, .int p1)] := hl0
  have hFr : rFr [71] F F := rFr.rf
  have hiX8 : ∀ w ∈ u_ws RX8 TX8 23, w ∈ wsX8_was := in_wsX8_was_3
  obtain ⟨M, hM⟩ : ∃ M, M = m_X8_was (AB2 ad F) p1 := ⟨_, rfl⟩
  refine lv_iload_n S.1 S.2.1 dX8_was_0 rfl (lv_at hl0 1 rfl) ?_
  refine lv_iconst (v := (nI 0)) S.1 S.2.1 dX8_was_1 (by decide +kernel) ?_
  refine lv_bipush (v := (nI 48)) S.1 S.2.1 dX8_was_2 (by decide +kernel) ?_
  refine r_cSp (As := [.int p1, .int (nI 0), .int (nI 48)]) (rest := []) S hK hZ hP hS hl0.1 (c_X8_in l D cA ad t hI F hW p1 (nI 0) (nI 48)) (va_cwS 3 S.2.2.2.2 gX8_was_X8_in rfl rfl rfl (by decide +kernel) ⟨Nat.le_of_ble_eq_true rfl, Nat.le_of_ble_eq_true rfl⟩) rfl rfl (Nat.le_of_ble_eq_true rfl) ⟨Nat.zero_le _, Nat.zero_le _⟩ dX8_was_4 (fun r1 hr1 => ?_)
  obtain ⟨hr1, hm1⟩ := hr1
  obtain ⟨⟨b2, hb2, rfl⟩, hx2, hz2⟩ := hr1
  have ta3 : (p1 : Int32).toInt = p1.toInt := rfl
  have ta4 : ((nI 0) : Int32).toInt = ((0 : Nat) : Int) := (nI_toInt (n := 0) (by omega))
  have ta5 : ((nI 48) : Int32).toInt = ((48 : Nat) : Int) := (nI_toInt (n := 48) (by omega))
  have hy2 : b2 ≠ 0 → ((0 : Nat) : Int) ≤ p1.toInt ∧ p1.toInt ≤ ((48 : Nat) : Int) := fun q => by have h9 := hx2 (nI_ne0 (by omega) (by omega)); omega
  have hu2 : b2 = 0 → p1.toInt < ((0 : Nat) : Int) ∨ ((48 : Nat) : Int) < p1.toInt := fun q => by have h9 := hz2 (by rw [q]; rfl); omega
  have m6 : (m_X8_in (AB2 ad F).1 p1 (nI 0) (nI 48)) = (nI b2) := (congr (congr (congr (Eq.refl (m_X8_in (AB ad F))) (Eq.refl (p1 : Int32))) (Eq.refl ((nI 0) : Int32))) (Eq.refl ((nI 48) : Int32))).trans hm1
  refine lv_if_ne (tgt := 13) S.1 S.2.1 dX8_was_7 (by decide) (fun c7 => ?_) (fun c7 => ?_)
  · skip
    have k8 := ci_ne (nI_toInt (n := b2) (by omega)) z_ti c7
    obtain ⟨j9, hj9, rfl⟩ := nI_of_le (x := p1) (B := 48) (by omega) (by omega)
    have kj9 := nI_toInt (n := j9) (by omega)
    refine lv_aload_n S.1 S.2.1 dX8_was_13 rfl (lv_at hl0 0 rfl) ?_
    obtain ⟨ty11, kn11, no11, en11, at11, sa11, sd11, wr11, pl11, va11, hF11, hb11_1, hb11_2, hb11_3, hb11_4, hb11_5, hb11_6⟩ := wt_m hW
    refine r_cVv (As := []) (rest := []) S hK hZ hP hS hl0.1 58 (by decide) hF11 (C := RX8) rfl (cL_X8_waysOn l D cA ad t hI F hW ) (cwV 0 S.2.2.2.2 gX8_was_X8_waysOn rfl rfl rfl (by decide +kernel) ⟨Nat.le_of_ble_eq_true rfl, Nat.le_of_ble_eq_true rfl⟩) rfl rfl (Nat.le_of_ble_eq_true rfl) ⟨Nat.zero_le _, Nat.zero_le _⟩ dX8_was_14 (fun F10 H10 locs10 hr10 hP10 hS10 => ?_)
    obtain ⟨hW10, hFc10, hr10⟩ := hr10
    obtain ⟨hr10, hm10⟩ := hr10
    have hFr10 := hFr.tr hFc10 (by simp <;> first | omega | (simp only [isC, isJ] at *; omega))
    have hE13 : M = m_X8_was_12 (AB2 ad F10) (nI j9) := hM.trans ((show m_X8_was (AB2 ad F) (nI j9) = m_X8_was_12 (m_X8_waysOn (AB2 ad F)) (nI j9) from by unfold m_X8_was; rw [if_neg (neq_cg m6 rfl c7)]).trans (congr (congrArg (m_X8_was_12) ((Eq.refl (m_X8_waysOn (AB2 ad F))).trans hm10)) (Eq.refl ((nI j9) : Int32))))
    refine lv_aload_n S.1 S.2.1 dX8_was_17 rfl (lv_at hl0 0 rfl) ?_
    have hF14 := (hFc10 58 (by decide)).trans hF11
    refine r_get S hK hP10 58 (by decide) hF14 (C := RX8) (T := TX8) (N := 23) hiX8 rfl 22 (by decide) (am_at in_wsX8_was_0 1 rfl) (v := .ref (ad 71)) rfl dX8_was_18 ?_
    refine lv_iload_n S.1 S.2.1 dX8_was_21 rfl (lv_at hl0 1 rfl) ?_
    obtain ⟨g15, hF15⟩ := wt_L hW10 (show (71, 49) ∈ rLL by decide)
    refine r_lald S hK hP10 71 (by decide) hF15 (vp_in_nI (show j9 < 49 by omega) (by omega)) dX8_was_22 ?_
    refine lv_topl (fun v17 e17 => ?_)
    have m18 : (((AB2 ad F10)).2 (rl (nI j9))) = v17 := (congrArg (fun q : Int32 => (AB2 ad F10).2 (rl q)) rfl).trans ((AL_g hF15).trans e17.symm)
    refine r_cSp (As := [.long v17]) (rest := []) S hK hZ hP10 hS10 hl0.1 (c_X8_towns l D cA ad t hI F10 hW10 v17) (va_cwS 1 S.2.2.2.2 gX8_was_X8_towns rfl rfl rfl (by decide +kernel) ⟨Nat.le_of_ble_eq_true rfl, Nat.le_of_ble_eq_true rfl⟩) rfl rfl (Nat.le_of_ble_eq_true rfl) ⟨Nat.zero_le _, Nat.zero_le _⟩ dX8_was_23 (fun r19 hr19 => ?_)
    obtain ⟨hr19, hm19⟩ := hr19
    have m20 : (m_X8_towns (AB2 ad F10).1 (((AB2 ad F10)).2 (rl (nI j9)))) = r19 := (congr (Eq.refl (m_X8_towns (AB ad F10))) m18).trans hm19
    have hE21 : M = (r19, AB2 ad F10) := hE13.trans ((show m_X8_was_12 (AB2 ad F10) (nI j9) = ((m_X8_towns (AB2 ad F10).1 (((AB2 ad F10)).2 (rl (nI j9)))), (AB2 ad F10)) from rfl).trans (congrArg (fun q => (q, AB2 ad F10)) m20))
    exact hret 26 _ _ _ _ _ dX8_was_26 rfl hP10 hS10 ⟨hW10, hFr10, ⟨trivial, hM.symm.trans hE21⟩⟩
  have k22 := ci_eq (nI_toInt (n := b2) (by omega)) z_ti c7
  refine lv_ldc (v := (-1000000002)) S.1 S.2.1 S.2.2.2.1 (S.2.2.2.2 (.constant RX8 59 (-1000000002)) (by decide +kernel)) dX8_was_10 ?_
  have hE23 : M = ((-1000000002), AB2 ad F) := hM.trans ((show m_X8_was (AB2 ad F) p1 = (((-1000000002) : Int32), (AB2 ad F)) from by unfold m_X8_was; rw [if_pos (eq_cg m6 rfl c7)]).trans (congrArg (fun q => (q, AB2 ad F)) rfl))
  exact hret 12 _ _ _ _ _ dX8_was_12 rfl hP hS ⟨hW, hFr, ⟨trivial, hM.symm.trans hE23⟩⟩
noncomputable def m_X8_ask_L10_8_b (k0 : S2 → Int32 → Int32 → Int32 → Int32 × S2) (σ : S2) (a0 : Int32) (a1 : Int32) (a2 : Int32) : Int32 × S2 :=
  if (nI 48) < a0 then
    (a2, σ)
  else
    if (m_X8_ones σ.1 (m_X8_towns σ.1 ((σ).2 (rl a0)))) ≤ a1 then
      k0 σ (a0 + Int32.ofInt (1)) a1 a2
    else
      k0 σ (a0 + Int32.ofInt (1)) (m_X8_ones σ.1 (m_X8_towns σ.1 ((σ).2 (rl a0)))) a0
noncomputable def m_X8_ask_L10_8 : Nat → S2 → Int32 → Int32 → Int32 → Int32 × S2
  | 0 => fun σ _ _ _ => (0, σ)
  | n + 1 => m_X8_ask_L10_8_b (m_X8_ask_L10_8 n)
noncomputable def m_X8_ask_3 (σ : S2) : Int32 × S2 :=
  m_X8_ask_L10_8 2000 σ (nI 1) (nI 1) ((-1) : Int32)
noncomputable def m_X8_ask (σ : S2) : Int32 × S2 :=
  m_X8_ask_3 (m_X8_waysOn σ)
set_option maxHeartbeats 4000000 in
set_option maxRecDepth 100000 in
theorem cL_X8_ask (l : Launch) (D : va_G) (cA ad : Nat → Nat) (t : Nat) (hI : rI ad) (F : Nat → va_E) (hW : WT cA ad F) : MI l D cA ad t yX8_ask wsX8_ask { frames := 5, cells := 0, slots := 0, locals := 129 } [.ref (ad 58)] F (fun r F' => WT cA ad F' ∧ rFr [71] F F' ∧ ((True) ∧ m_X8_ask (AB2 ad F) = (r, AB2 ad F'))) := by
  refine en_I rfl (by decide +kernel) (Nat.le_of_ble_eq_true rfl) ?_
  intro p e s m args below meth c ls0 Q S hK hZ hP hS hl0 hret
  have hl0 : lv_has ls0 5 [(0, .ref (ad 58))] := hl0
  have hFr : rFr [71] F F := rFr.rf
  have hiX8 : ∀ w ∈ u_ws RX8 TX8 23, w ∈ wsX8_ask := in_wsX8_ask_3
  obtain ⟨M, hM⟩ : ∃ M, M = m_X8_ask (AB2 ad F) := ⟨_, rfl⟩
  refine lv_aload_n S.1 S.2.1 dX8_ask_0 rfl (lv_at hl0 0 rfl) ?_
  obtain ⟨ty2, kn2, no2, en2, at2, sa2, sd2, wr2, pl2, va2, hF2, hb2_1, hb2_2, hb2_3, hb2_4, hb2_5, hb2_6⟩ := wt_m hW
  refine r_cVv (As := []) (rest := []) S hK hZ hP hS hl0.1 58 (by decide) hF2 (C := RX8) rfl (cL_X8_waysOn l D cA ad t hI F hW ) (cwV 0 S.2.2.2.2 gX8_ask_X8_waysOn rfl rfl rfl (by decide +kernel) ⟨Nat.le_of_ble_eq_true rfl, Nat.le_of_ble_eq_true rfl⟩) rfl rfl (Nat.le_of_ble_eq_true rfl) ⟨Nat.zero_le _, Nat.zero_le _⟩ dX8_ask_1 (fun F1 H1 locs1 hr1 hP1 hS1 => ?_)
  obtain ⟨hW1, hFc1, hr1⟩ := hr1
  obtain ⟨hr1, hm1⟩ := hr1
  have hFr1 := hFr.tr hFc1 (by simp <;> first | omega | (simp only [isC, isJ] at *; omega))
  have hE4 : M = m_X8_ask_3 (AB2 ad F1) := hM.trans ((show m_X8_ask (AB2 ad F) = m_X8_ask_3 (m_X8_waysOn (AB2 ad F)) from rfl).trans (congrArg (m_X8_ask_3) ((Eq.refl (m_X8_waysOn (AB2 ad F))).trans hm1)))
  refine lv_iconst (v := (-1)) S.1 S.2.1 dX8_ask_4 (by decide +kernel) ?_
  refine lv_istore_n (lv' := [(1, .int (-1)), (0, .ref (ad 58))]) S.1 S.2.1 dX8_ask_5 rfl hl0 (by decide) rfl (fun ls5 hl5 => ?_)
  refine lv_iconst (v := (nI 1)) S.1 S.2.1 dX8_ask_6 (by decide +kernel) ?_
  refine lv_istore_n (lv' := [(2, .int (nI 1)), (1, .int (-1)), (0, .ref (ad 58))]) S.1 S.2.1 dX8_ask_7 rfl hl5 (by decide) rfl (fun ls6 hl6 => ?_)
  refine lv_iconst (v := (nI 1)) S.1 S.2.1 dX8_ask_8 (by decide +kernel) ?_
  refine lv_istore_n (lv' := [(3, .int (nI 1)), (2, .int (nI 1)), (1, .int (-1)), (0, .ref (ad 58))]) S.1 S.2.1 dX8_ask_9 rfl hl6 (by decide) rfl (fun ls7 hl7 => ?_)
  have lp8 : ∀ (n8 : Nat) (q38 : Nat) (x8_2 : Int32) (x8_1 : Int32), 1 ≤ q38 ∧ q38 ≤ 49 → 49 - q38 < n8 → M = m_X8_ask_L10_8 n8 (AB2 ad F1) (nI q38) x8_2 x8_1 → ∀ (ls : Array Slot), lv_has ls 5 [(3, .int (nI q38)), (2, .int x8_2), (1, .int x8_1), (0, .ref (ad 58))] → W p l e { frames := 5, cells := 0, slots := 0, locals := 129 } s m args below meth c H1 locs1 0 0 Q (F0 m 10 ls []) := by
    intro n8
    induction n8 with
    | zero =>
      intro q38 x8_2 x8_1 iv8_0 hm8 hEl8 ls8 hl8
      exact absurd hm8 (Nat.not_lt_zero _)
    | succ n8 ih8 =>
      intro q38 x8_2 x8_1 iv8_0 hm8 hEl8 ls8 hl8
      have hE9 : M = m_X8_ask_L10_8_b (m_X8_ask_L10_8 n8) (AB2 ad F1) (nI q38) x8_2 x8_1 := hEl8
      refine lv_iload_n S.1 S.2.1 dX8_ask_10 rfl (lv_at hl8 0 rfl) ?_
      refine lv_bipush (v := (nI 48)) S.1 S.2.1 dX8_ask_11 (by decide +kernel) ?_
      refine lv_icmp_gt (tgt := 61) S.1 S.2.1 dX8_ask_13 (by decide) (fun c10 => ?_) (fun c10 => ?_)
      · skip
        have k11 := ci_lt (nI_toInt (n := 48) (by omega)) (nI_toInt (n := q38) (by omega)) c10
        refine lv_iload_n S.1 S.2.1 dX8_ask_61 rfl (lv_at hl8 2 rfl) ?_
        have hE12 : M = (x8_1, AB2 ad F1) := hE9.trans ((show m_X8_ask_L10_8_b (m_X8_ask_L10_8 n8) (AB2 ad F1) (nI q38) x8_2 x8_1 = (x8_1, (AB2 ad F1)) from by unfold m_X8_ask_L10_8_b; rw [if_pos (lt_cg rfl rfl c10)]).trans (congrArg (fun q => (q, AB2 ad F1)) rfl))
        exact hret 62 _ _ _ _ _ dX8_ask_62 rfl hP1 hS1 ⟨hW1, hFr1, ⟨trivial, hM.symm.trans hE12⟩⟩
      have k13 := ci_nlt (nI_toInt (n := 48) (by omega)) (nI_toInt (n := q38) (by omega)) c10
      refine lv_aload_n S.1 S.2.1 dX8_ask_16 rfl (lv_at hl8 3 rfl) ?_
      have hF14 := (hFc1 58 (by decide)).trans hF2
      refine r_get S hK hP1 58 (by decide) hF14 (C := RX8) (T := TX8) (N := 23) hiX8 rfl 22 (by decide) (am_at in_wsX8_ask_0 0 rfl) (v := .ref (ad 71)) rfl dX8_ask_17 ?_
      refine lv_iload_n S.1 S.2.1 dX8_ask_20 rfl (lv_at hl8 0 rfl) ?_
      obtain ⟨g15, hF15⟩ := wt_L hW1 (show (71, 49) ∈ rLL by decide)
      refine r_lald S hK hP1 71 (by decide) hF15 (vp_in_nI (show q38 < 49 by omega) (by omega)) dX8_ask_21 ?_
      refine lv_topl (fun v17 e17 => ?_)
      have m18 : (((AB2 ad F1)).2 (rl (nI q38))) = v17 := (congrArg (fun q : Int32 => (AB2 ad F1).2 (rl q)) rfl).trans ((AL_g hF15).trans e17.symm)
      refine r_cSp (As := [.long v17]) (rest := []) S hK hZ hP1 hS1 hl8.1 (c_X8_towns l D cA ad t hI F1 hW1 v17) (va_cwS 1 S.2.2.2.2 gX8_ask_X8_towns rfl rfl rfl (by decide +kernel) ⟨Nat.le_of_ble_eq_true rfl, Nat.le_of_ble_eq_true rfl⟩) rfl rfl (Nat.le_of_ble_eq_true rfl) ⟨Nat.zero_le _, Nat.zero_le _⟩ dX8_ask_22 (fun r19 hr19 => ?_)
      obtain ⟨hr19, hm19⟩ := hr19
      have m20 : (m_X8_towns (AB2 ad F1).1 (((AB2 ad F1)).2 (rl (nI q38)))) = r19 := (congr (Eq.refl (m_X8_towns (AB ad F1))) m18).trans hm19
      refine r_cSp (As := [.int r19]) (rest := []) S hK hZ hP1 hS1 hl8.1 (c_X8_ones l D cA ad t hI F1 hW1 r19) (va_cwS 1 S.2.2.2.2 gX8_ask_X8_ones rfl rfl rfl (by decide +kernel) ⟨Nat.le_of_ble_eq_true rfl, Nat.le_of_ble_eq_true rfl⟩) rfl rfl (Nat.le_of_ble_eq_true rfl) ⟨Nat.zero_le _, Nat.zero_le _⟩ dX8_ask_25 (fun r21 hr21 => ?_)
      obtain ⟨hr21, hm21⟩ := hr21
      have m22 : (m_X8_ones (AB2 ad F1).1 (m_X8_towns (AB2 ad F1).1 (((AB2 ad F1)).2 (rl (nI q38))))) = r21 := (congr (Eq.refl (m_X8_ones (AB ad F1))) m20).trans hm21
      refine lv_istore (lv' := [(4, .int r21), (3, .int (nI q38)), (2, .int x8_2), (1, .int x8_1), (0, .ref (ad 58))]) S.1 S.2.1 dX8_ask_28 hl8 (by decide) rfl (fun ls23 hl23 => ?_)
      refine lv_iload S.1 S.2.1 dX8_ask_30 (lv_at hl23 0 rfl) ?_
      refine lv_iload_n S.1 S.2.1 dX8_ask_32 rfl (lv_at hl23 2 rfl) ?_
      refine lv_icmp_le (tgt := 40) S.1 S.2.1 dX8_ask_33 (by decide) (fun c24 => ?_) (fun c24 => ?_)
      · skip
        have k25 := ci_le rfl rfl c24
        refine lv_iload_n S.1 S.2.1 dX8_ask_40 rfl (lv_at hl23 3 rfl) ?_
        refine lv_istore_n (lv' := [(1, .int x8_1), (4, .int r21), (3, .int (nI q38)), (2, .int x8_2), (0, .ref (ad 58))]) S.1 S.2.1 dX8_ask_41 rfl hl23 (by decide) rfl (fun ls26 hl26 => ?_)
        refine lv_iload S.1 S.2.1 dX8_ask_42 (lv_at hl26 1 rfl) ?_
        refine lv_iload_n S.1 S.2.1 dX8_ask_44 rfl (lv_at hl26 3 rfl) ?_
        refine lv_icmp_le (tgt := 53) S.1 S.2.1 dX8_ask_45 (by decide) (fun c27 => ?_) (fun c27 => absurd c24 c27)
        have k28 := ci_le rfl rfl c27
        refine lv_iload_n S.1 S.2.1 dX8_ask_53 rfl (lv_at hl26 3 rfl) ?_
        refine lv_istore_n (lv' := [(2, .int x8_2), (1, .int x8_1), (4, .int r21), (3, .int (nI q38)), (0, .ref (ad 58))]) S.1 S.2.1 dX8_ask_54 rfl hl26 (by decide) rfl (fun ls29 hl29 => ?_)
        have m31 : ((nI q38) + Int32.ofInt (1)) = (nI (q38 + 1)) := (congrArg (fun q : Int32 => q + Int32.ofInt (1)) rfl).trans (nI_add _ 1)
        refine lv_iinc (v := (nI (q38 + 1))) (lv' := [(3, .int (nI (q38 + 1))), (2, .int x8_2), (1, .int x8_1), (4, .int r21), (0, .ref (ad 58))]) S.1 S.2.1 dX8_ask_55 hl29 (k := 3) rfl (nI_add _ 1) (by decide) rfl (fun ls30 hl30 => ?_)
        refine lv_goto (tgt := 10) S.1 S.2.1 dX8_ask_58 (by decide) ?_
        have hE32 : M = (m_X8_ask_L10_8 n8) (AB2 ad F1) (nI (q38 + 1)) x8_2 x8_1 := hE9.trans ((show m_X8_ask_L10_8_b (m_X8_ask_L10_8 n8) (AB2 ad F1) (nI q38) x8_2 x8_1 = (m_X8_ask_L10_8 n8) (AB2 ad F1) ((nI q38) + Int32.ofInt (1)) x8_2 x8_1 from by unfold m_X8_ask_L10_8_b; rw [if_neg (nlt_cg rfl rfl c10), if_pos (le_cg m22 rfl c24)]).trans (congr (congr (congr (congrArg ((m_X8_ask_L10_8 n8)) (rfl : AB2 ad F1 = AB2 ad F1)) m31) (Eq.refl (x8_2 : Int32))) (Eq.refl (x8_1 : Int32))))
        exact ih8 (q38 + 1) (x8_2) (x8_1) (by omega) (by omega) hE32 ls30 (lv_sub hl30 [0, 1, 2, 4] rfl)
      have k33 := ci_nle rfl rfl c24
      refine lv_iload_n S.1 S.2.1 dX8_ask_36 rfl (lv_at hl23 1 rfl) ?_
      refine lv_goto (tgt := 41) S.1 S.2.1 dX8_ask_37 (by decide) ?_
      refine lv_istore_n (lv' := [(1, .int (nI q38)), (4, .int r21), (3, .int (nI q38)), (2, .int x8_2), (0, .ref (ad 58))]) S.1 S.2.1 dX8_ask_41 rfl hl23 (by decide) rfl (fun ls34 hl34 => ?_)
      refine lv_iload S.1 S.2.1 dX8_ask_42 (lv_at hl34 1 rfl) ?_
      refine lv_iload_n S.1 S.2.1 dX8_ask_44 rfl (lv_at hl34 3 rfl) ?_
      refine lv_icmp_le (tgt := 53) S.1 S.2.1 dX8_ask_45 (by decide) (fun c35 => absurd c35 c24) (fun c35 => ?_)
      have k36 := ci_nle rfl rfl c35
      refine lv_iload S.1 S.2.1 dX8_ask_48 (lv_at hl34 1 rfl) ?_
      refine lv_goto (tgt := 54) S.1 S.2.1 dX8_ask_50 (by decide) ?_
      refine lv_istore_n (lv' := [(2, .int r21), (1, .int (nI q38)), (4, .int r21), (3, .int (nI q38)), (0, .ref (ad 58))]) S.1 S.2.1 dX8_ask_54 rfl hl34 (by decide) rfl (fun ls37 hl37 => ?_)
      have m39 : ((nI q38) + Int32.ofInt (1)) = (nI (q38 + 1)) := (congrArg (fun q : Int32 => q + Int32.ofInt (1)) rfl).trans (nI_add _ 1)
      refine lv_iinc (v := (nI (q38 + 1))) (lv' := [(3, .int (nI (q38 + 1))), (2, .int r21), (1, .int (nI q38)), (4, .int r21), (0, .ref (ad 58))]) S.1 S.2.1 dX8_ask_55 hl37 (k := 3) rfl (nI_add _ 1) (by decide) rfl (fun ls38 hl38 => ?_)
      refine lv_goto (tgt := 10) S.1 S.2.1 dX8_ask_58 (by decide) ?_
      have hE40 : M = (m_X8_ask_L10_8 n8) (AB2 ad F1) (nI (q38 + 1)) r21 (nI q38) := hE9.trans ((show m_X8_ask_L10_8_b (m_X8_ask_L10_8 n8) (AB2 ad F1) (nI q38) x8_2 x8_1 = (m_X8_ask_L10_8 n8) (AB2 ad F1) ((nI q38) + Int32.ofInt (1)) (m_X8_ones (AB2 ad F1).1 (m_X8_towns (AB2 ad F1).1 (((AB2 ad F1)).2 (rl (nI q38))))) (nI q38) from by unfold m_X8_ask_L10_8_b; rw [if_neg (nlt_cg rfl rfl c10), if_neg (nle_cg m22 rfl c24)]).trans (congr (congr (congr (congrArg ((m_X8_ask_L10_8 n8)) (rfl : AB2 ad F1 = AB2 ad F1)) m39) m22) (Eq.refl ((nI q38) : Int32))))
      exact ih8 (q38 + 1) (r21) ((nI q38)) (by omega) (by omega) hE40 ls38 (lv_sub hl38 [0, 1, 2, 4] rfl)
  have hE41 : M = m_X8_ask_L10_8 2000 (AB2 ad F1) (nI 1) (nI 1) (-1) := hE4.trans ((show m_X8_ask_3 (AB2 ad F1) = m_X8_ask_L10_8 2000 (AB2 ad F1) (nI 1) (nI 1) ((-1) : Int32) from rfl).trans (congr (congr (congr (congrArg (m_X8_ask_L10_8 2000) (rfl : AB2 ad F1 = AB2 ad F1)) (Eq.refl ((nI 1) : Int32))) (Eq.refl ((nI 1) : Int32))) (Eq.refl ((-1) : Int32))))
  exact lp8 2000 (1) ((nI 1)) ((-1)) (by omega) (by omega) hE41 ls7 (lv_sub hl7 [0, 1, 2, 3] rfl)
