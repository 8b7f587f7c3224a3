/-! land -/
def fb : Int32 := vp_nar .boolean (nI 0)
theorem flag_L (σ : SS) (a : Nat) : m_X7_land_L80_41 2000 σ (nI 0) a = (st (st σ 43 0 fb) 43 1 fb (rl (σ 0 11)) 2, st (st σ 43 0 fb) 43 1 fb) := by
  rw [show (2000 : Nat) = 1997 + 1 + 1 + 1 from rfl, show m_X7_land_L80_41 (1997 + 1 + 1 + 1) = m_X7_land_L80_41_b (m_X7_land_L80_41 (1997 + 1 + 1)) from rfl]
  simp only [m_X7_land_57, m_X7_land_L80_41_b, m_X7_land_38, m_X7_land_34, m_X7_land_29, m_X7_land_24, m_X7_land_20, m_X7_land_17, m_X7_land_7, m_X7_land, if_neg (show ¬ (nI 2 ≤ nI 0) by decide +kernel), r0, oI1, n1, Nat.zero_add]
  rw [show m_X7_land_L80_41 (1997 + 1 + 1) = m_X7_land_L80_41_b (m_X7_land_L80_41 (1997 + 1)) from rfl]
  simp only [m_X7_land_57, m_X7_land_L80_41_b, m_X7_land_38, m_X7_land_34, m_X7_land_29, m_X7_land_24, m_X7_land_20, m_X7_land_17, m_X7_land_7, m_X7_land, if_neg (show ¬ (nI 2 ≤ nI 1) by decide +kernel), r1, oI1, n1, Nat.reduceAdd]
  rw [show m_X7_land_L80_41 1998 = m_X7_land_L80_41_b (m_X7_land_L80_41 1997) from rfl]
  simp only [m_X7_land_57, m_X7_land_L80_41_b, m_X7_land_38, m_X7_land_34, m_X7_land_29, m_X7_land_24, m_X7_land_20, m_X7_land_17, m_X7_land_7, m_X7_land, if_pos (show nI 2 ≤ nI 2 by decide +kernel), st_ni (show (0 : Nat) ≠ 43 by decide), fb]
def cpT (τ : SS) : SS := fun i k => if i = 60 ∧ k < 52 then τ 61 k else τ i k
theorem cpT_st {τ : SS} {k : Nat} (hk : k < 52) : cpT (st τ 60 k (τ 61 k)) = cpT τ := by
  funext i j; unfold cpT st
  by_cases h1 : i = 60 ∧ j < 52
  · rw [if_pos h1, if_pos h1, if_neg (by omega)]
  · rw [if_neg h1, if_neg h1, if_neg (fun q => h1 ⟨q.1, by omega⟩)]
theorem cpT_id {τ : SS} (h : ∀ j, j < 52 → τ 60 j = τ 61 j) : cpT τ = τ := by
  funext i j; unfold cpT
  by_cases h1 : i = 60 ∧ j < 52
  · rw [if_pos h1, h1.1]; exact (h j h1.2).symm
  · rw [if_neg h1]
theorem cp_L (x : Int32) : ∀ (m k : Nat) (τ : SS), k ≤ 52 → 52 - k < m → (∀ j, j < k → τ 60 j = τ 61 j) → ∃ k0, m_X8_land_L40_32 m τ (nI k) x = m_X8_land_L66_39 k0 2000 (cpT τ) (nI 0) x := by
  intro m
  induction m with
  | zero => intro k τ _ h0; exact absurd h0 (Nat.not_lt_zero _)
  | succ m ih =>
    intro k τ hk hm hz
    rw [show m_X8_land_L40_32 (m + 1) = m_X8_land_L40_32_b (m_X8_land_L40_32 m) from rfl]
    by_cases h1 : 52 ≤ k
    · refine ⟨m_X8_land_L40_32 m, ?_⟩
      have e : k = 52 := by omega
      subst e
      rw [cpT_id hz]
      simp only [m_X8_land_90, m_X8_land_74, m_X8_land_61, m_X8_land_56, m_X8_land_52, m_X8_land_49, m_X8_land_46, m_X8_land_L66_39_b, m_X8_land_L40_32_b, m_X8_land_27, m_X8_land_16, m_X8_land_10, m_X8_land_5, m_X8_land, if_pos (show nI 52 ≤ nI 52 from (nle (by omega) (by omega)).mpr (by omega))]
    · have g1 : ¬ (nI 52 ≤ nI k) := fun q => h1 ((nle (by omega) (by omega)).mp q)
      obtain ⟨k0, hx⟩ := ih (k + 1) (st τ 60 k (τ 61 k)) (by omega) (by omega) (fun j hj => by
        rw [st_ni (show (61 : Nat) ≠ 60 by decide)]
        by_cases q : j = k
        · subst q; exact st_eq
        · rw [st_nk q]; exact hz j (by omega))
      refine ⟨k0, ?_⟩
      rw [cpT_st (by omega)] at hx
      simp only [m_X8_land_90, m_X8_land_74, m_X8_land_61, m_X8_land_56, m_X8_land_52, m_X8_land_49, m_X8_land_46, m_X8_land_L66_39_b, m_X8_land_L40_32_b, m_X8_land_27, m_X8_land_16, m_X8_land_10, m_X8_land_5, m_X8_land, if_neg g1, rlN (show k < 2147483648 by omega), oI1, n1]
      exact hx
def zS (τ : SS) : SS := fun i k => if i = 62 ∧ k < 7 then nI 0 else τ i k
theorem zS_st {τ : SS} {k : Nat} (hk : k < 7) : zS (st τ 62 k (nI 0)) = zS τ := by
  funext i j; unfold zS st
  by_cases h1 : i = 62 ∧ j < 7
  · rw [if_pos h1, if_pos h1]
  · rw [if_neg h1, if_neg h1, if_neg (fun q => h1 ⟨q.1, by omega⟩)]
theorem zS_id {τ : SS} (h : ∀ j, j < 7 → τ 62 j = nI 0) : zS τ = τ := by
  funext i j; unfold zS
  by_cases h1 : i = 62 ∧ j < 7
  · rw [if_pos h1, h1.1]; exact (h j h1.2).symm
  · rw [if_neg h1]
def lE (τ : SS) : SS := st (st (st (st (st τ 58 6 (nI 0)) 58 11 (nI 0)) 58 13 (nI 0)) 65 0 fb) 65 1 fb
theorem zs_L (x : Int32) (k0 : SS → Int32 → Int32 → Int32 × SS) : ∀ (m k : Nat) (τ : SS), k ≤ 7 → 7 - k < m → (∀ j, j < k → τ 62 j = nI 0) → m_X8_land_L66_39 k0 m τ (nI k) x = (τ 60 2, lE (zS τ)) := by
  intro m
  induction m with
  | zero => intro k τ _ h0; exact absurd h0 (Nat.not_lt_zero _)
  | succ m ih =>
    intro k τ hk hm hz
    rw [show m_X8_land_L66_39 k0 (m + 1) = m_X8_land_L66_39_b k0 (m_X8_land_L66_39 k0 m) from rfl]
    by_cases h1 : 7 ≤ k
    · have e : k = 7 := by omega
      subst e
      rw [zS_id hz]
      simp only [m_X8_land_90, m_X8_land_74, m_X8_land_61, m_X8_land_56, m_X8_land_52, m_X8_land_49, m_X8_land_46, m_X8_land_L66_39_b, m_X8_land_L40_32_b, m_X8_land_27, m_X8_land_16, m_X8_land_10, m_X8_land_5, m_X8_land, if_pos (show nI 7 ≤ nI 7 from (nle (by omega) (by omega)).mpr (by omega)), r0, r1, r2, lE, fb]
      rw [st_ni (by decide), st_ni (by decide), st_ni (by decide), st_ni (by decide), st_ni (by decide)]
    · have g1 : ¬ (nI 7 ≤ nI k) := fun q => h1 ((nle (by omega) (by omega)).mp q)
      have hx := ih (k + 1) (st τ 62 k (nI 0)) (by omega) (by omega) (fun j hj => by
        by_cases q : j = k
        · subst q; exact st_eq
        · rw [st_nk q]; exact hz j (by omega))
      rw [zS_st (by omega), st_ni (by decide)] at hx
      simp only [m_X8_land_90, m_X8_land_74, m_X8_land_61, m_X8_land_56, m_X8_land_52, m_X8_land_49, m_X8_land_46, m_X8_land_L66_39_b, m_X8_land_L40_32_b, m_X8_land_27, m_X8_land_16, m_X8_land_10, m_X8_land_5, m_X8_land, if_neg g1, rlN (show k < 2147483648 by omega), oI1, n1]
      exact hx
theorem clrJ (σ : SS) (i k : Nat) : m_X1_clear σ 3 i k = if i = 3 ∧ k < 7 then nI 0 else σ i k := by
  simp only [m_X1_clear_21, m_X1_clear_18, m_X1_clear_15, m_X1_clear_12, m_X1_clear_9, m_X1_clear_6, m_X1_clear_3, m_X1_clear, st]
  by_cases h3 : i = 3
  · subst h3
    by_cases h7 : k < 7
    · rw [if_pos (show 3 = 3 ∧ k < 7 from ⟨rfl, h7⟩)]
      rcases (show k = 0 ∨ k = 1 ∨ k = 2 ∨ k = 3 ∨ k = 4 ∨ k = 5 ∨ k = 6 by omega) with rfl | rfl | rfl | rfl | rfl | rfl | rfl <;> simp
    · rw [if_neg (show ¬ (3 = 3 ∧ k < 7) from fun q => h7 q.2)]
      simp [show k ≠ 0 by omega, show k ≠ 1 by omega, show k ≠ 2 by omega, show k ≠ 3 by omega, show k ≠ 4 by omega, show k ≠ 5 by omega, show k ≠ 6 by omega]
  · rw [if_neg (show ¬ (i = 3 ∧ k < 7) from fun q => h3 q.1)]; simp [h3]
noncomputable def lC (G : SS) (c d : Nat) : SS := st (st (st (st (st (m_X1_clear (st (st G 0 12 (nI c)) 0 11 (nI d)) 3) 4 1 (nI 0)) 33 0 (nI 0)) 0 13 (nI 0)) 43 0 fb) 43 1 fb
section LC
variable {G : SS} {c d : Nat}
theorem lC_o {i k : Nat} (h0 : i ≠ 0) (h3 : i ≠ 3) (h4 : i ≠ 4) (h33 : i ≠ 33) (h43 : i ≠ 43) : lC G c d i k = G i k := by
  unfold lC
  rw [st_ni h43, st_ni h43, st_ni h0, st_ni h33, st_ni h4, clrJ, if_neg (fun q => h3 q.1), st_ni h0, st_ni h0]
theorem lC_11 : lC G c d 0 11 = nI d := by
  unfold lC; rw [st_ni (by decide), st_ni (by decide), st_nk (by decide), st_ni (by decide), st_ni (by decide), clrJ, if_neg (fun q => by omega), st_eq]
theorem lC_12 : lC G c d 0 12 = nI c := by
  unfold lC; rw [st_ni (by decide), st_ni (by decide), st_nk (by decide), st_ni (by decide), st_ni (by decide), clrJ, if_neg (fun q => by omega), st_nk (by decide), st_eq]
theorem lC_13 : lC G c d 0 13 = nI 0 := by
  unfold lC; rw [st_ni (by decide), st_ni (by decide), st_eq]
theorem lC_14 : lC G c d 0 14 = G 0 14 := by
  unfold lC; rw [st_ni (by decide), st_ni (by decide), st_nk (by decide), st_ni (by decide), st_ni (by decide), clrJ, if_neg (fun q => by omega), st_nk (by decide), st_nk (by decide)]
theorem lC_3 {k : Nat} (hk : k < 7) : lC G c d 3 k = nI 0 := by
  unfold lC; rw [st_ni (by decide), st_ni (by decide), st_ni (by decide), st_ni (by decide), st_ni (by decide), clrJ, if_pos ⟨rfl, hk⟩]
theorem lC_4 : lC G c d 4 1 = nI 0 := by
  unfold lC; rw [st_ni (by decide), st_ni (by decide), st_ni (by decide), st_ni (by decide), st_eq]
theorem lC_33 : lC G c d 33 0 = nI 0 := by
  unfold lC; rw [st_ni (by decide), st_ni (by decide), st_ni (by decide), st_eq]
theorem lC_430 : lC G c d 43 0 = fb := by unfold lC; rw [st_nk (by decide), st_eq]
theorem lC_431 : lC G c d 43 1 = fb := by unfold lC; rw [st_eq]
end LC
theorem land_E {C E : SS} (h : RR C E) : (m_X7_land C).1 = (m_X8_land E).1 ∧ RR (m_X7_land C).2 (m_X8_land E).2 := by
  obtain ⟨a1, a2, a3, a4, a5, a6, a7, a8⟩ := h
  obtain ⟨⟨n, q1, q2⟩, q3⟩ := a1
  obtain ⟨c, d, t0, r0', p1, p2, p3, p4⟩ := a2
  have hd : d = 46 ∨ d = 52 := by omega
  have hc : c = 46 ∨ c = 52 := by omega
  have hrd : rl (C 0 12) = d := by rw [p3]; exact rlN (by omega)
  have hZ : ∀ i k, i ≠ 61 → zr E i k = E i k := fun i k hi => if_neg (fun q => hi q.1)
  rcases read_E (d := d) hd q1 q2 with ⟨D', E', xa, xs, xb, xv, xu, t, r, z1, z2, z3, z4, z5⟩ | ⟨D', E', xa, xs, f, q, xv, xu, hf, z1, z2, z4, z5⟩
  · have gC : ∀ i k, i ≠ 1 → (i < d ∨ d + 5 < i) → tx (st D' 1 1 (nI 0)) xa xs 0 (-1) i k = C i k := fun i k hi hq => by
      rw [txo hi, st_ni hi, z4 i k hq]; unfold clD; rw [st_ni (by omega), st_ni (by omega), st_ni (by omega), st_ni (by omega), st_ni (by omega)]
    have gD : ∀ i k, i ≠ 1 → tx (st D' 1 1 (nI 0)) xa xs 0 (-1) i k = D' i k := fun i k hi => by rw [txo hi, st_ni hi]
    have g11 : tx (st D' 1 1 (nI 0)) xa xs 0 (-1) 1 1 = nI 0 := by rw [tx1, st_eq]
    have e1 : m_X7_land C = (nI t, lC (tx (st D' 1 1 (nI 0)) xa xs 0 (-1)) c d) := by
      have h11 : rl (tx (st D' 1 1 (nI 0)) xa xs 0 (-1) 0 11) = c := by rw [gC 0 11 (by decide) (by omega), p2]; exact rlN (by omega)
      have h12 : rl (tx (st D' 1 1 (nI 0)) xa xs 0 (-1) 0 12) = d := by rw [gC 0 12 (by decide) (by omega), p3]; exact rlN (by omega)
      have hx : m_X7_land C = m_X7_land_L80_41 2000 (st (st (st (m_X1_clear (st (st (tx (st D' 1 1 (nI 0)) xa xs 0 (-1)) 0 12 (nI c)) 0 11 (nI d)) 3) 4 1 (nI 0)) 33 0 (nI 0)) 0 13 (nI 0)) (nI 0) d := by
        simp only [m_X7_land_57, m_X7_land_L80_41_b, m_X7_land_38, m_X7_land_34, m_X7_land_29, m_X7_land_24, m_X7_land_20, m_X7_land_17, m_X7_land_7, m_X7_land, hrd, z1, tx2, if_true, h11, h12]
      rw [hx, flag_L]
      have h11' := lC_11 (G := tx (st D' 1 1 (nI 0)) xa xs 0 (-1)) (c := c) (d := d)
      unfold lC at h11'
      rw [st_ni (by decide), st_ni (by decide)] at h11'
      rw [h11', rlN (by omega)]
      refine Prod.ext ?_ rfl
      have := lC_o (G := tx (st D' 1 1 (nI 0)) xa xs 0 (-1)) (c := c) (d := d) (i := d) (k := 2) (by omega) (by omega) (by omega) (by omega) (by omega)
      unfold lC at this
      rw [gD d 2 (by omega), z3.2.2.1] at this
      exact this
    obtain ⟨k0, ek⟩ := cp_L (nI 1) 2000 0 (st (st (rx E' xb (nI 0) xv xu) 58 1 (nI 0)) 58 16 (-1)) (by omega) (by omega) (fun j hj => absurd hj (Nat.not_lt_zero _))
    generalize hτ : st (st (rx E' xb (nI 0) xv xu) 58 1 (nI 0)) 58 16 (-1) = τ at ek
    have t60 : ∀ k, k < 52 → cpT τ 60 k = E' 61 k := fun k hk => by
      unfold cpT; rw [if_pos ⟨rfl, hk⟩, ← hτ, st_ni (by decide), st_ni (by decide), rxD]
    have e2 : m_X8_land E = (nI t, lE (zS (cpT τ))) := by
      have hx : m_X8_land E = m_X8_land_L40_32 2000 τ (nI 0) (nI 1) := by
        simp only [m_X8_land_90, m_X8_land_74, m_X8_land_61, m_X8_land_56, m_X8_land_52, m_X8_land_49, m_X8_land_46, m_X8_land_L66_39_b, m_X8_land_L40_32_b, m_X8_land_27, m_X8_land_16, m_X8_land_10, m_X8_land_5, m_X8_land, z2, if_neg n1ne, hτ]
      rw [hx, ek, zs_L (nI 1) k0 2000 0 (cpT τ) (by omega) (by omega) (fun j hj => absurd hj (Nat.not_lt_zero _)), t60 2 (by omega), z3.2.2.2.1]
    have eo : ∀ i k, i ≠ 58 → i ≠ 60 → i ≠ 61 → i ≠ 62 → i ≠ 65 → lE (zS (cpT τ)) i k = E i k := fun i k h1 h2 h3 h4 h5 => by
      unfold lE; rw [st_ni h5, st_ni h5, st_ni h1, st_ni h1, st_ni h1]
      unfold zS cpT; rw [if_neg (fun q => h4 q.1), if_neg (fun q => h2 q.1), ← hτ, st_ni h1, st_ni h1, rxo h1, z5 i k h3, hZ i k h3]
    have e60 : ∀ k, k < 52 → lE (zS (cpT τ)) 60 k = E' 61 k := fun k hk => by
      unfold lE; rw [st_ni (by decide), st_ni (by decide), st_ni (by decide), st_ni (by decide), st_ni (by decide)]
      unfold zS; rw [if_neg (fun q => by omega)]; exact t60 k hk
    have e58 : ∀ k, k ≠ 6 → k ≠ 11 → k ≠ 13 → lE (zS (cpT τ)) 58 k = τ 58 k := fun k h1 h2 h3 => by
      unfold lE; rw [st_ni (by decide), st_ni (by decide), st_nk h3, st_nk h2, st_nk h1]
      unfold zS cpT; rw [if_neg (fun q => by omega), if_neg (fun q => by omega)]
    have e9 : lE (zS (cpT τ)) 58 9 = E 58 9 := by
      rw [e58 9 (by decide) (by decide) (by decide), ← hτ, st_nk (by decide), st_nk (by decide)]
      show E' 58 9 = E 58 9
      rw [z5 58 9 (by decide), hZ 58 9 (by decide)]
    rw [e1, e2]
    show nI t = nI t ∧ RR (lC (tx (st D' 1 1 (nI 0)) xa xs 0 (-1)) c d) (lE (zS (cpT τ)))
    refine ⟨rfl, ⟨⟨0, ⟨by omega, ?_, ?_, fun k hk => absurd hk (Nat.not_lt_zero _)⟩, fun k hk => absurd hk (Nat.not_lt_zero _)⟩, ?_⟩, ⟨d, c, t, r, by omega, lC_11, lC_12, ?_⟩, ⟨⟨0, by omega, lC_33, ?_, fun j hj => absurd hj (Nat.not_lt_zero _)⟩, ⟨0, by omega, lC_13, ?_, fun j hj => absurd hj (Nat.not_lt_zero _)⟩⟩, ⟨?_, ?_⟩, fun k hk => ?_, ?_, ?_, ?_⟩
    · rw [lC_o (by decide) (by decide) (by decide) (by decide) (by decide)]; exact g11
    · rw [e58 1 (by decide) (by decide) (by decide), ← hτ, st_nk (by decide), st_eq]
    · rw [lC_o (by decide) (by decide) (by decide) (by decide) (by decide), tx3, e58 16 (by decide) (by decide) (by decide), ← hτ, st_eq]
    · obtain ⟨y1, y2, y3, y4, y5, y6, y7, y8, y9, y10, y11, y12⟩ := z3
      have cD : ∀ j k, j ≤ 5 → lC (tx (st D' 1 1 (nI 0)) xa xs 0 (-1)) c d (d + j) k = D' (d + j) k := fun j k hj => by rw [lC_o (by omega) (by omega) (by omega) (by omega) (by omega)]; exact gD _ _ (by omega)
      have c0 : ∀ k, lC (tx (st D' 1 1 (nI 0)) xa xs 0 (-1)) c d d k = D' d k := fun k => cD 0 k (by omega)
      refine ⟨?_, ?_, ?_, ?_, y5, ?_, ?_, y8, fun k hk => ?_, fun k hk => ?_, fun k => ?_, fun k hk1 hk2 => ?_⟩
      · rw [c0, e60 0 (by omega)]; exact y1
      · rw [c0, e60 1 (by omega)]; exact y2
      · rw [c0]; exact y3
      · rw [e60 2 (by omega)]; exact y4
      · rw [c0]; exact y6
      · rw [e60 3 (by omega)]; exact y7
      · rw [cD 1 k (by omega), cD 2 k (by omega), cD 3 k (by omega), e60 (4 + k) (by omega), e60 (12 + k) (by omega), e60 (20 + k) (by omega)]; exact y9 k hk
      · rw [cD 4 k (by omega), cD 5 k (by omega), e60 (28 + k) (by omega), e60 (40 + k) (by omega)]; exact y10 k hk
      · rw [c0, y11 k]
        by_cases qk : k < t
        · rw [e60 (4 + k) (by omega)]
        · rw [decide_eq_false qk, Bool.false_and, Bool.false_and]
      · rw [e60 (12 + k) (by omega)]; exact y12 k hk1 hk2
    · unfold lE; rw [st_ni (by decide), st_ni (by decide), st_nk (by decide), st_eq]
    · unfold lE; rw [st_ni (by decide), st_ni (by decide), st_eq]
    · rw [lC_430]; unfold lE; rw [st_nk (by decide), st_eq]
    · rw [lC_431]; unfold lE; rw [st_eq]
    · rw [lC_3 hk]; unfold lE; rw [st_ni (by decide), st_ni (by decide), st_ni (by decide), st_ni (by decide), st_ni (by decide)]; unfold zS; rw [if_pos ⟨rfl, hk⟩]
    · exact a6.cg (by rw [lC_14]; exact gC 0 14 (by decide) (by omega)) e9
    · obtain ⟨q', _, _, _, u4, u5, _⟩ := a7
      have c5 : ∀ i, lC (tx (st D' 1 1 (nI 0)) xa xs 0 (-1)) c d 5 i = C 5 i := fun i => by rw [lC_o (by decide) (by decide) (by decide) (by decide) (by decide)]; exact gC 5 i (by decide) (by omega)
      refine ⟨0, by omega, lC_4, ?_, fun i hi => by rw [c5]; exact u4 i hi, fun i i' b1 b2 => by rw [c5, c5]; exact u5 i i' b1 b2, fun i hi => absurd hi (Nat.not_lt_zero _)⟩
      unfold lE; rw [st_ni (by decide), st_ni (by decide), st_nk (by decide), st_nk (by decide), st_eq]
    · have cI : ∀ i, i = 39 ∨ i = 40 ∨ i = 41 ∨ i = 42 → lC (tx (st D' 1 1 (nI 0)) xa xs 0 (-1)) c d i = C i := fun i hi => by
        funext k; rw [lC_o (by omega) (by omega) (by omega) (by omega) (by omega)]; exact gC i k (by omega) (by omega)
      exact a8.cg (cI 39 (by omega)) (cI 40 (by omega)) (cI 41 (by omega)) (cI 42 (by omega)) (by funext k; exact eo 64 k (by decide) (by decide) (by decide) (by decide) (by decide))
  · have gC : ∀ i k, i ≠ 1 → (i < d ∨ d + 5 < i) → tx (st D' 1 1 (nI 0)) xa xs f (nI q) i k = C i k := fun i k hi hq => by
      rw [txo hi, st_ni hi, z4 i k hq]; unfold clD; rw [st_ni (by omega), st_ni (by omega), st_ni (by omega), st_ni (by omega), st_ni (by omega)]
    have gF : ∀ i, i ≠ 1 → (i < d ∨ d + 5 < i) → tx (st D' 1 1 (nI 0)) xa xs f (nI q) i = C i := fun i hi hq => funext (fun k => gC i k hi hq)
    have g11 : tx (st D' 1 1 (nI 0)) xa xs f (nI q) 1 1 = nI 0 := by rw [tx1, st_eq]
    have e1 : m_X7_land C = ((-10 : Int32) - f, tx (st D' 1 1 (nI 0)) xa xs f (nI q)) := by
      have := z1
      simp only [m_X7_land_57, m_X7_land_L80_41_b, m_X7_land_38, m_X7_land_34, m_X7_land_29, m_X7_land_24, m_X7_land_20, m_X7_land_17, m_X7_land_7, m_X7_land, hrd, z1, tx2]
      rw [if_neg hf]
    have e2 : m_X8_land E = ((-10 : Int32) - f, st (st (rx E' (nI q) f xv xu) 58 1 (nI 0)) 58 16 (nI q)) := by
      simp only [m_X8_land_90, m_X8_land_74, m_X8_land_61, m_X8_land_56, m_X8_land_52, m_X8_land_49, m_X8_land_46, m_X8_land_L66_39_b, m_X8_land_L40_32_b, m_X8_land_27, m_X8_land_16, m_X8_land_10, m_X8_land_5, m_X8_land, z2, if_pos n0e, st_nk (show 15 ≠ 16 by decide), st_nk (show 15 ≠ 1 by decide), st_nk (show 14 ≠ 1 by decide), rx14, rx15]
    have eo : ∀ i, i ≠ 58 → i ≠ 61 → st (st (rx E' (nI q) f xv xu) 58 1 (nI 0)) 58 16 (nI q) i = E i := fun i h1 h3 => funext (fun k => by rw [st_ni h1, st_ni h1, rxo h1, z5 i k h3, hZ i k h3])
    have e58 : ∀ k, k ≠ 1 → k ≠ 16 → k ≠ 14 → k ≠ 15 → k ≠ 17 → k ≠ 18 → st (st (rx E' (nI q) f xv xu) 58 1 (nI 0)) 58 16 (nI q) 58 k = E 58 k := fun k h1 h2 h3 h4 h5 h6 => by
      rw [st_nk h2, st_nk h1]
      show (if (58 : Nat) = 58 then (if k = 14 then nI q else if k = 15 then f else if k = 17 then xv else if k = 18 then xu else E' 58 k) else E' 58 k) = E 58 k
      rw [if_pos rfl, if_neg h3, if_neg h4, if_neg h5, if_neg h6, z5 58 k (by decide), hZ 58 k (by decide)]
    rw [e1, e2]
    show (-10 : Int32) - f = (-10 : Int32) - f ∧ RR (tx (st D' 1 1 (nI 0)) xa xs f (nI q)) (st (st (rx E' (nI q) f xv xu) 58 1 (nI 0)) 58 16 (nI q))
    refine ⟨rfl, ⟨⟨0, ⟨by omega, g11, ?_, fun k hk => absurd hk (Nat.not_lt_zero _)⟩, fun k hk => absurd hk (Nat.not_lt_zero _)⟩, ?_⟩, ⟨c, d, t0, r0', p1, ?_, ?_, p4.cg hc (fun i b1 b2 => gF i (by omega) (by omega)) (eo 60 (by decide) (by decide))⟩, a3.cg (gC _ _ (by decide) (by omega)) (gF _ (by decide) (by omega)) (gF _ (by decide) (by omega)) (gC _ _ (by decide) (by omega)) (gF _ (by decide) (by omega)) (e58 11 (by decide) (by decide) (by decide) (by decide) (by decide) (by decide)) (e58 13 (by decide) (by decide) (by decide) (by decide) (by decide) (by decide)) (eo _ (by decide) (by decide)) (eo _ (by decide) (by decide)) (congrFun (eo 60 (by decide) (by decide)) 2), a4.cg (gF _ (by decide) (by omega)) (eo _ (by decide) (by decide)), a5.cg (gF _ (by decide) (by omega)) (eo _ (by decide) (by decide)), a6.cg (gC _ _ (by decide) (by omega)) (e58 9 (by decide) (by decide) (by decide) (by decide) (by decide) (by decide)), a7.cg (gC _ _ (by decide) (by omega)) (gF _ (by decide) (by omega)) (fun i b1 b2 => gF i (by omega) (by omega)) (e58 6 (by decide) (by decide) (by decide) (by decide) (by decide) (by decide)) (eo _ (by decide) (by decide)), a8.cg (gF _ (by decide) (by omega)) (gF _ (by decide) (by omega)) (gF _ (by decide) (by omega)) (gF _ (by decide) (by omega)) (eo _ (by decide) (by decide))⟩
    · rw [st_nk (by decide), st_eq]
    · rw [tx3, st_eq]
    · rw [gC 0 11 (by decide) (by omega)]; exact p2
    · rw [gC 0 12 (by decide) (by omega)]; exact p3
