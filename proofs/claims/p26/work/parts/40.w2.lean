/-! told seals: the sweeps, fits, bought -/
section FB
variable {C E : SS}
theorem isTold_cg {σ τ : SS} (h1 : σ 33 = τ 33) (h2 : σ 35 = τ 35) (a b : Int32) : ∀ (m : Nat) (u : Int32), m_X6_isTold_L2_2 m σ u a b = m_X6_isTold_L2_2 m τ u a b := by
  intro m
  induction m with
  | zero => intro u; rfl
  | succ m ih =>
    intro u
    rw [show m_X6_isTold_L2_2 (m + 1) = m_X6_isTold_L2_2_b (m_X6_isTold_L2_2 m) from rfl]
    unfold m_X6_isTold_L2_2_b
    rw [h1, h2, ih]
theorem told_cg {σ τ : SS} (h1 : σ 33 = τ 33) (h2 : σ 35 = τ 35) (a b : Int32) : m_X6_isTold σ a b = m_X6_isTold τ a b := isTold_cg h1 h2 a b 2000 (nI 0)
theorem works_cg {σ τ : SS} {c : Nat} (h1 : σ c = τ c) (h2 : σ (c + 2) = τ (c + 2)) (a b : Int32) : m_X0_worksIn σ c a b = m_X0_worksIn τ c a b := by
  unfold m_X0_worksIn m_X0_hasTown; rw [h1, h2]
theorem staysIn_cg {σ τ : SS} {c : Nat} (h1 : σ 33 = τ 33) (h2 : σ 34 = τ 34) (h3 : σ 35 = τ 35) (h4 : σ c = τ c) (h5 : σ (c + 2) = τ (c + 2)) (a b : Int32) : ∀ (m : Nat) (u s : Int32), m_X6_staysIn_L8_3 m σ u s c a b = m_X6_staysIn_L8_3 m τ u s c a b := by
  intro m
  induction m with
  | zero => intro u s; rfl
  | succ m ih =>
    intro u s
    rw [show m_X6_staysIn_L8_3 (m + 1) = m_X6_staysIn_L8_3_b (m_X6_staysIn_L8_3 m) from rfl]
    unfold m_X6_staysIn_L8_3_b
    rw [h1, h2, h3, ih, ih, ih, works_cg h4 h5]
theorem stays_cg {σ τ : SS} {c : Nat} (h1 : σ 33 = τ 33) (h2 : σ 34 = τ 34) (h3 : σ 35 = τ 35) (h4 : σ c = τ c) (h5 : σ (c + 2) = τ (c + 2)) (a b : Int32) : m_X6_staysIn σ c a b = m_X6_staysIn τ c a b := staysIn_cg h1 h2 h3 h4 h5 a b 2000 (nI 0) (nI 255)
section SW
variable {c T r R : Nat} {but : Int32}
theorem swN_o {σ : SS} {N i k : Nat} (hi : i ≠ 37) : swN σ C E c T R but N i k = σ i k := if_neg (fun q => hi q.1)
theorem swN_r {σ : SS} {N m p : Nat} (hp : p < 5) (h : 5 * m + p < N) : swN σ C E c T R but N 37 (5 * m + p) = rowA C E c T R but m p := by
  unfold swN; rw [if_pos ⟨rfl, h⟩, show (5 * m + p) / 5 = m by omega, show (5 * m + p) % 5 = p by omega]
theorem swN_S {σ : SS} {m p : Nat} (hp : p < 5) {v : Int32} (hv : v = rowA C E c T R but m p) : st (swN σ C E c T R but (5 * m + p)) 37 (5 * m + p) v = swN σ C E c T R but (5 * m + p + 1) := by
  have := swN_s (C := C) (E := E) (σ := σ) (c := c) (T := T) (R := R) (but := but) (N := 5 * m + p)
  rw [show (5 * m + p) / 5 = m by omega, show (5 * m + p) % 5 = p by omega] at this
  rw [hv]; exact this
theorem sw_in0 {σ : SS} (hR : R ≤ 4) (h0 : σ c 0 = nI R) (hc : c = 46 ∨ c = 52) {mo : Nat} (hmo : mo < 48) (k0 k1 : SS → Int32 → Nat → Int32 → SS) : ∀ (m s : Nat), 1 ≤ s → s ≤ 5 → 5 - s < m → m_X6_sweepAhead_L110_88 k0 k1 m (swN σ C E c T R but (5 * (mo + 1) + s)) (nI s) (m_X6_staysIn C c (nI mo) but) (nI (5 * (mo + 1))) (nI (5 * mo)) (nI mo) c but = k1 (swN σ C E c T R but (5 * (mo + 2))) (nI (mo + 1)) c but := by
  intro m
  induction m with
  | zero => intro s _ _ h0; exact absurd h0 (Nat.not_lt_zero _)
  | succ m ih =>
    intro s hs1 hs hm
    rw [show m_X6_sweepAhead_L110_88 k0 k1 (m + 1) = m_X6_sweepAhead_L110_88_b k0 k1 (m_X6_sweepAhead_L110_88 k0 k1 m) from rfl]
    by_cases h1 : 5 ≤ s
    · have e : s = 5 := by omega
      subst e
      simp only [m_X6_sweepAhead_155, m_X6_sweepAhead_147, m_X6_sweepAhead_135, m_X6_sweepAhead_122, m_X6_sweepAhead_105, m_X6_sweepAhead_L110_88_b, m_X6_sweepAhead_85, m_X6_sweepAhead_76, m_X6_sweepAhead_59, m_X6_sweepAhead_L110_42_b, m_X6_sweepAhead_39, m_X6_sweepAhead_L46_12_b, m_X6_sweepAhead_L11_7_b, m_X6_sweepAhead_4, m_X6_sweepAhead, if_pos (show nI 5 ≤ nI 5 from (nle (by omega) (by omega)).mpr (by omega)), oI1, n1]
      rw [show 5 * (mo + 1) + 5 = 5 * (mo + 2) by omega]
    · have g1 : ¬ (nI 5 ≤ nI s) := fun q => h1 ((nle (by omega) (by omega)).mp q)
      have ec : swN σ C E c T R but (5 * (mo + 1) + s) c 0 = nI R := by rw [swN_o (by omega)]; exact h0
      have k1' : nI (5 * (mo + 1)) + nI s = nI (5 * (mo + 1) + s) := nI_add _ _
      have k2' : nI (5 * mo) + nI s = nI (5 * mo + s) := nI_add _ _
      have k3' : nI (5 * mo + s) - nI 1 = nI (5 * mo + (s - 1)) := by rw [pk_sub (by omega)]; congr 1; omega
      have er : swN σ C E c T R but (5 * (mo + 1) + s) 37 (5 * mo + (s - 1)) = rowA C E c T R but mo (s - 1) := swN_r (by omega) (by omega)
      have ih' := ih (s + 1) (by omega) (by omega) (by omega)
      rw [show 5 * (mo + 1) + (s + 1) = 5 * (mo + 1) + s + 1 by omega] at ih'
      by_cases q : R < s
      · simp only [m_X6_sweepAhead_155, m_X6_sweepAhead_147, m_X6_sweepAhead_135, m_X6_sweepAhead_122, m_X6_sweepAhead_105, m_X6_sweepAhead_L110_88_b, m_X6_sweepAhead_85, m_X6_sweepAhead_76, m_X6_sweepAhead_59, m_X6_sweepAhead_L110_42_b, m_X6_sweepAhead_39, m_X6_sweepAhead_L46_12_b, m_X6_sweepAhead_L11_7_b, m_X6_sweepAhead_4, m_X6_sweepAhead, if_neg g1, ec, if_pos (show nI R < nI s from (nlt (by omega) (by omega)).mpr q), k1', rlN (show 5 * (mo + 1) + s < 2147483648 by omega), oI1, n1]
        rw [swN_S (by omega) (show nI 0 = rowA C E c T R but (mo + 1) s by show nI 0 = stepA E T R _ _ _ s; unfold stepA; rw [if_neg (by omega), if_neg (by omega)])]
        exact ih'
      · simp only [m_X6_sweepAhead_155, m_X6_sweepAhead_147, m_X6_sweepAhead_135, m_X6_sweepAhead_122, m_X6_sweepAhead_105, m_X6_sweepAhead_L110_88_b, m_X6_sweepAhead_85, m_X6_sweepAhead_76, m_X6_sweepAhead_59, m_X6_sweepAhead_L110_42_b, m_X6_sweepAhead_39, m_X6_sweepAhead_L46_12_b, m_X6_sweepAhead_L11_7_b, m_X6_sweepAhead_4, m_X6_sweepAhead, if_neg g1, ec, if_neg (show ¬ (nI R < nI s) from fun z => q ((nlt (by omega) (by omega)).mp z)), k1', k2', k3', rlN (show 5 * (mo + 1) + s < 2147483648 by omega), rlN (show 5 * mo + (s - 1) < 2147483648 by omega), er, oI1, n1]
        rw [swN_S (by omega) (show rowA C E c T R but mo (s - 1) &&& m_X6_staysIn C c (nI mo) but = rowA C E c T R but (mo + 1) s by show _ = stepA E T R _ _ _ s; unfold stepA; rw [if_neg (by omega), if_pos (by omega)])]
        exact ih'
theorem sw_in1 {σ : SS} (hR : R ≤ 4) (h0 : σ c 0 = nI R) (hc : c = 46 ∨ c = 52) {mo : Nat} (hmo : mo < 48) (k0 k1 : SS → Int32 → Nat → Int32 → SS) : ∀ (m s : Nat), 1 ≤ s → s ≤ 5 → 5 - s < m → m_X6_sweepAhead_L110_42 k0 k1 m (swN σ C E c T R but (5 * (mo + 1) + s)) (nI s) (m_X6_staysIn C c (nI mo) but) (nI (5 * (mo + 1))) (nI (5 * mo)) (nI mo) c but = k1 (swN σ C E c T R but (5 * (mo + 2))) (nI (mo + 1)) c but := by
  intro m
  induction m with
  | zero => intro s _ _ h0; exact absurd h0 (Nat.not_lt_zero _)
  | succ m ih =>
    intro s hs1 hs hm
    rw [show m_X6_sweepAhead_L110_42 k0 k1 (m + 1) = m_X6_sweepAhead_L110_42_b k0 k1 (m_X6_sweepAhead_L110_42 k0 k1 m) from rfl]
    by_cases h1 : 5 ≤ s
    · have e : s = 5 := by omega
      subst e
      simp only [m_X6_sweepAhead_155, m_X6_sweepAhead_147, m_X6_sweepAhead_135, m_X6_sweepAhead_122, m_X6_sweepAhead_105, m_X6_sweepAhead_L110_88_b, m_X6_sweepAhead_85, m_X6_sweepAhead_76, m_X6_sweepAhead_59, m_X6_sweepAhead_L110_42_b, m_X6_sweepAhead_39, m_X6_sweepAhead_L46_12_b, m_X6_sweepAhead_L11_7_b, m_X6_sweepAhead_4, m_X6_sweepAhead, if_pos (show nI 5 ≤ nI 5 from (nle (by omega) (by omega)).mpr (by omega)), oI1, n1]
      rw [show 5 * (mo + 1) + 5 = 5 * (mo + 2) by omega]
    · have g1 : ¬ (nI 5 ≤ nI s) := fun q => h1 ((nle (by omega) (by omega)).mp q)
      have ec : swN σ C E c T R but (5 * (mo + 1) + s) c 0 = nI R := by rw [swN_o (by omega)]; exact h0
      have k1' : nI (5 * (mo + 1)) + nI s = nI (5 * (mo + 1) + s) := nI_add _ _
      have k2' : nI (5 * mo) + nI s = nI (5 * mo + s) := nI_add _ _
      have k3' : nI (5 * mo + s) - nI 1 = nI (5 * mo + (s - 1)) := by rw [pk_sub (by omega)]; congr 1; omega
      have er : swN σ C E c T R but (5 * (mo + 1) + s) 37 (5 * mo + (s - 1)) = rowA C E c T R but mo (s - 1) := swN_r (by omega) (by omega)
      have ih' := ih (s + 1) (by omega) (by omega) (by omega)
      rw [show 5 * (mo + 1) + (s + 1) = 5 * (mo + 1) + s + 1 by omega] at ih'
      by_cases q : R < s
      · simp only [m_X6_sweepAhead_155, m_X6_sweepAhead_147, m_X6_sweepAhead_135, m_X6_sweepAhead_122, m_X6_sweepAhead_105, m_X6_sweepAhead_L110_88_b, m_X6_sweepAhead_85, m_X6_sweepAhead_76, m_X6_sweepAhead_59, m_X6_sweepAhead_L110_42_b, m_X6_sweepAhead_39, m_X6_sweepAhead_L46_12_b, m_X6_sweepAhead_L11_7_b, m_X6_sweepAhead_4, m_X6_sweepAhead, if_neg g1, ec, if_pos (show nI R < nI s from (nlt (by omega) (by omega)).mpr q), k1', rlN (show 5 * (mo + 1) + s < 2147483648 by omega), oI1, n1]
        rw [swN_S (by omega) (show nI 0 = rowA C E c T R but (mo + 1) s by show nI 0 = stepA E T R _ _ _ s; unfold stepA; rw [if_neg (by omega), if_neg (by omega)])]
        exact ih'
      · simp only [m_X6_sweepAhead_155, m_X6_sweepAhead_147, m_X6_sweepAhead_135, m_X6_sweepAhead_122, m_X6_sweepAhead_105, m_X6_sweepAhead_L110_88_b, m_X6_sweepAhead_85, m_X6_sweepAhead_76, m_X6_sweepAhead_59, m_X6_sweepAhead_L110_42_b, m_X6_sweepAhead_39, m_X6_sweepAhead_L46_12_b, m_X6_sweepAhead_L11_7_b, m_X6_sweepAhead_4, m_X6_sweepAhead, if_neg g1, ec, if_neg (show ¬ (nI R < nI s) from fun z => q ((nlt (by omega) (by omega)).mp z)), k1', k2', k3', rlN (show 5 * (mo + 1) + s < 2147483648 by omega), rlN (show 5 * mo + (s - 1) < 2147483648 by omega), er, oI1, n1]
        rw [swN_S (by omega) (show rowA C E c T R but mo (s - 1) &&& m_X6_staysIn C c (nI mo) but = rowA C E c T R but (mo + 1) s by show _ = stepA E T R _ _ _ s; unfold stepA; rw [if_neg (by omega), if_pos (by omega)])]
        exact ih'
theorem exits36 (hT : T ≤ 8) (s : Int32) {σ : SS} (hσ : ∀ k, σ 36 k = fyN C E T (nI 0) 8 36 k) : m_X7_exitsOf σ s 36 = orx (fun u => m_X8_walks E (nI u) (nI 0)) s T := by
  rw [exits_E]
  have e : ∀ u, u < 8 → σ 36 u = if u < T then m_X8_walks E (nI u) (nI 0) else nI 0 := fun u hu => by rw [hσ]; unfold fyN; rw [if_pos ⟨rfl, hu⟩]
  rw [orx_cg (g := fun u => if u < T then m_X8_walks E (nI u) (nI 0) else nI 0) 8 (fun u hu => e u hu), orx_cut (t := T) 8 hT (fun u hu => if_neg (by omega)), orx_cg (g := fun u => m_X8_walks E (nI u) (nI 0)) T (fun u hu => if_pos hu)]
theorem sw_L (D : DR C E c 60 T r) (hc : c = 46 ∨ c = 52) (hR : R ≤ 4) (h0 : E 60 0 = nI R) (k0 : SS → Int32 → Nat → Int32 → SS) : ∀ (m mo : Nat), mo ≤ 48 → 48 - mo < m → m_X6_sweepAhead_L46_12 k0 m (swN (fyN C E T (nI 0) 8) C E c T R but (5 * (mo + 1))) (nI mo) c but = swN (fyN C E T (nI 0) 8) C E c T R but 245 := by
  have hT := D.2.2.2.2.1
  have fo : ∀ i, i ≠ 36 → fyN C E T (nI 0) 8 i = C i := fun i hi => funext (fun k => by unfold fyN; rw [if_neg (fun q => hi q.1)])
  have so : ∀ N i, i ≠ 36 → i ≠ 37 → swN (fyN C E T (nI 0) 8) C E c T R but N i = C i := fun N i h1 h2 => funext (fun k => by rw [swN_o h2, fo i h1])
  intro m
  induction m with
  | zero => intro mo _ h0; exact absurd h0 (Nat.not_lt_zero _)
  | succ m ih =>
    intro mo hmo hm
    rw [show m_X6_sweepAhead_L46_12 k0 (m + 1) = m_X6_sweepAhead_L46_12_b k0 (m_X6_sweepAhead_L46_12 k0 m) from rfl]
    by_cases h1 : 48 ≤ mo
    · have e : mo = 48 := by omega
      subst e
      simp only [m_X6_sweepAhead_155, m_X6_sweepAhead_147, m_X6_sweepAhead_135, m_X6_sweepAhead_122, m_X6_sweepAhead_105, m_X6_sweepAhead_L110_88_b, m_X6_sweepAhead_85, m_X6_sweepAhead_76, m_X6_sweepAhead_59, m_X6_sweepAhead_L110_42_b, m_X6_sweepAhead_39, m_X6_sweepAhead_L46_12_b, m_X6_sweepAhead_L11_7_b, m_X6_sweepAhead_4, m_X6_sweepAhead, if_pos (show nI 48 ≤ nI 48 from (nle (by omega) (by omega)).mpr (by omega))]
    · have g1 : ¬ (nI 48 ≤ nI mo) := fun q => h1 ((nle (by omega) (by omega)).mp q)
      have et : m_X6_isTold (swN (fyN C E T (nI 0) 8) C E c T R but (5 * (mo + 1))) (nI mo) but = m_X6_isTold C (nI mo) but := told_cg (so _ 33 (by decide) (by decide)) (so _ 35 (by decide) (by decide)) _ _
      have es : m_X6_staysIn (swN (fyN C E T (nI 0) 8) C E c T R but (5 * (mo + 1))) c (nI mo) but = m_X6_staysIn C c (nI mo) but := stays_cg (so _ 33 (by decide) (by decide)) (so _ 34 (by decide) (by decide)) (so _ 35 (by decide) (by decide)) (so _ c (by omega) (by omega)) (so _ (c + 2) (by omega) (by omega)) _ _
      have k1 : nI mo * nI 5 + nI 5 = nI (5 * (mo + 1)) := by rw [pk_mul, nI_add]; congr 1; omega
      have k2 : nI mo * nI 5 = nI (5 * mo) := by rw [pk_mul]; congr 1; omega
      have hcR : fyN C E T (nI 0) 8 c 0 = nI R := by rw [fo c (by omega), D.1]; exact h0
      have eu : m_X6_union (swN (fyN C E T (nI 0) 8) C E c T R but (5 * (mo + 1))) 37 (nI mo) = un (rowA C E c T R but mo) 5 := by
        rw [un6_E (by omega)]; exact un_cg 5 (fun p hp => swN_r hp (by omega))
      have ex := exits36 (C := C) (E := E) (T := T) hT (un (rowA C E c T R but mo) 5) (σ := swN (fyN C E T (nI 0) 8) C E c T R but (5 * (mo + 1))) (fun k => swN_o (by decide))
      have z : 5 * (mo + 1) = 5 * (mo + 1) + 0 := rfl
      by_cases q : m_X6_isTold C (nI mo) but = 0
      · have qb := told0.mp q
        have hv : orx (fun u => m_X8_walks E (nI u) (nI 0)) (un (rowA C E c T R but mo) 5) T = rowA C E c T R but (mo + 1) 0 := by
          show _ = stepA E T R _ _ _ 0; unfold stepA; rw [if_pos rfl, qb, if_neg (show ¬ (false = true) by decide)]
        simp only [m_X6_sweepAhead_155, m_X6_sweepAhead_147, m_X6_sweepAhead_135, m_X6_sweepAhead_122, m_X6_sweepAhead_105, m_X6_sweepAhead_L110_88_b, m_X6_sweepAhead_85, m_X6_sweepAhead_76, m_X6_sweepAhead_59, m_X6_sweepAhead_L110_42_b, m_X6_sweepAhead_39, m_X6_sweepAhead_L46_12_b, m_X6_sweepAhead_L11_7_b, m_X6_sweepAhead_4, m_X6_sweepAhead, if_neg g1, et, if_pos q, es, eu, ex]
        rw [k1, k2, rlN (show 5 * (mo + 1) < 2147483648 by omega)]
        have e5 := swN_S (C := C) (E := E) (σ := fyN C E T (nI 0) 8) (c := c) (T := T) (R := R) (but := but) (m := mo + 1) (p := 0) (by omega) hv
        rw [Nat.add_zero] at e5
        rw [e5]
        exact (sw_in1 hR hcR hc (by omega) k0 (m_X6_sweepAhead_L46_12 k0 m) 2000 1 (by omega) (by omega) (by omega)).trans (ih (mo + 1) (by omega) (by omega))
      · have qb : decide (m_X6_isTold C (nI mo) but = nI 1) = true := by
          cases w : decide (m_X6_isTold C (nI mo) but = nI 1)
          · exact absurd (told0.mpr w) q
          · rfl
        have hv : nI 0 = rowA C E c T R but (mo + 1) 0 := by
          show _ = stepA E T R _ _ _ 0; unfold stepA; rw [if_pos rfl, qb, if_pos (rfl : true = true)]
        simp only [m_X6_sweepAhead_155, m_X6_sweepAhead_147, m_X6_sweepAhead_135, m_X6_sweepAhead_122, m_X6_sweepAhead_105, m_X6_sweepAhead_L110_88_b, m_X6_sweepAhead_85, m_X6_sweepAhead_76, m_X6_sweepAhead_59, m_X6_sweepAhead_L110_42_b, m_X6_sweepAhead_39, m_X6_sweepAhead_L46_12_b, m_X6_sweepAhead_L11_7_b, m_X6_sweepAhead_4, m_X6_sweepAhead, if_neg g1, et, if_neg q, es]
        rw [k1, k2, rlN (show 5 * (mo + 1) < 2147483648 by omega)]
        have e5 := swN_S (C := C) (E := E) (σ := fyN C E T (nI 0) 8) (c := c) (T := T) (R := R) (but := but) (m := mo + 1) (p := 0) (by omega) hv
        rw [Nat.add_zero] at e5
        rw [e5]
        exact (sw_in0 hR hcR hc (by omega) k0 (m_X6_sweepAhead_L46_12 k0 m) 2000 1 (by omega) (by omega) (by omega)).trans (ih (mo + 1) (by omega) (by omega))
theorem sw0_L (D : DR C E c 60 T r) (hc : c = 46 ∨ c = 52) (hR : R ≤ 4) (h0 : E 60 0 = nI R) : ∀ (m s : Nat), s ≤ 5 → 5 - s < m → m_X6_sweepAhead_L11_7 m (swN (fyN C E T (nI 0) 8) C E c T R but s) (nI s) c but = swN (fyN C E T (nI 0) 8) C E c T R but 245 := by
  have hT := D.2.2.2.2.1
  intro m
  induction m with
  | zero => intro s _ h0; exact absurd h0 (Nat.not_lt_zero _)
  | succ m ih =>
    intro s hs hm
    have e2 : swN (fyN C E T (nI 0) 8) C E c T R but s c 2 = nI T := by rw [swN_o (by omega)]; unfold fyN; rw [if_neg (fun q => by omega)]; exact D.2.2.1
    rw [show m_X6_sweepAhead_L11_7 (m + 1) = m_X6_sweepAhead_L11_7_b (m_X6_sweepAhead_L11_7 m) from rfl]
    by_cases h1 : 5 ≤ s
    · have e : s = 5 := by omega
      subst e
      simp only [m_X6_sweepAhead_155, m_X6_sweepAhead_147, m_X6_sweepAhead_135, m_X6_sweepAhead_122, m_X6_sweepAhead_105, m_X6_sweepAhead_L110_88_b, m_X6_sweepAhead_85, m_X6_sweepAhead_76, m_X6_sweepAhead_59, m_X6_sweepAhead_L110_42_b, m_X6_sweepAhead_39, m_X6_sweepAhead_L46_12_b, m_X6_sweepAhead_L11_7_b, m_X6_sweepAhead_4, m_X6_sweepAhead, if_pos (show nI 5 ≤ nI 5 from (nle (by omega) (by omega)).mpr (by omega))]
      exact sw_L D hc hR h0 (m_X6_sweepAhead_L11_7 m) 2000 0 (by omega) (by omega)
    · have g1 : ¬ (nI 5 ≤ nI s) := fun q => h1 ((nle (by omega) (by omega)).mp q)
      have ih' := ih (s + 1) (by omega) (by omega)
      have S := fun (v : Int32) (hv : v = rowA C E c T R but 0 s) => swN_S (C := C) (E := E) (σ := fyN C E T (nI 0) 8) (c := c) (T := T) (R := R) (but := but) (m := 0) (p := s) (by omega) hv
      simp only [Nat.mul_zero, Nat.zero_add] at S
      by_cases q : s = 0
      · subst q
        by_cases w : T = 0
        · simp only [m_X6_sweepAhead_155, m_X6_sweepAhead_147, m_X6_sweepAhead_135, m_X6_sweepAhead_122, m_X6_sweepAhead_105, m_X6_sweepAhead_L110_88_b, m_X6_sweepAhead_85, m_X6_sweepAhead_76, m_X6_sweepAhead_59, m_X6_sweepAhead_L110_42_b, m_X6_sweepAhead_39, m_X6_sweepAhead_L46_12_b, m_X6_sweepAhead_L11_7_b, m_X6_sweepAhead_4, m_X6_sweepAhead, if_neg g1, if_pos n0e, e2, if_pos (show nI T ≤ 0 by rw [w]; decide +kernel), r0, oI1, n1]
          rw [S (nI 0) (by show nI 0 = if 0 = 0 ∧ 0 < T then nI 1 else nI 0; rw [if_neg (by omega)])]
          exact ih'
        · simp only [m_X6_sweepAhead_155, m_X6_sweepAhead_147, m_X6_sweepAhead_135, m_X6_sweepAhead_122, m_X6_sweepAhead_105, m_X6_sweepAhead_L110_88_b, m_X6_sweepAhead_85, m_X6_sweepAhead_76, m_X6_sweepAhead_59, m_X6_sweepAhead_L110_42_b, m_X6_sweepAhead_39, m_X6_sweepAhead_L46_12_b, m_X6_sweepAhead_L11_7_b, m_X6_sweepAhead_4, m_X6_sweepAhead, if_neg g1, if_pos n0e, e2, if_neg (show ¬ (nI T ≤ 0) from nI_nle (by omega) (by omega)), r0, oI1, n1]
          rw [S (nI 1) (by show nI 1 = if 0 = 0 ∧ 0 < T then nI 1 else nI 0; rw [if_pos ⟨rfl, by omega⟩])]
          exact ih'
      · simp only [m_X6_sweepAhead_155, m_X6_sweepAhead_147, m_X6_sweepAhead_135, m_X6_sweepAhead_122, m_X6_sweepAhead_105, m_X6_sweepAhead_L110_88_b, m_X6_sweepAhead_85, m_X6_sweepAhead_76, m_X6_sweepAhead_59, m_X6_sweepAhead_L110_42_b, m_X6_sweepAhead_39, m_X6_sweepAhead_L46_12_b, m_X6_sweepAhead_L11_7_b, m_X6_sweepAhead_4, m_X6_sweepAhead, if_neg g1, if_neg (show ¬ (nI s = 0) from nI_ne0 (by omega) (by omega)), rlN (show s < 2147483648 by omega), oI1, n1]
        rw [S (nI 0) (by show nI 0 = if s = 0 ∧ 0 < T then nI 1 else nI 0; rw [if_neg (by omega)])]
        exact ih'
theorem ahead_E (D : DR C E c 60 T r) (hc : c = 46 ∨ c = 52) (hR : R ≤ 4) (h0 : E 60 0 = nI R) : m_X6_sweepAhead C c but = swN (fyN C E T (nI 0) 8) C E c T R but 245 := by
  have := sw0_L (but := but) D hc hR h0 2000 0 (by omega) (by omega)
  rw [show swN (fyN C E T (nI 0) 8) C E c T R but 0 = fyN C E T (nI 0) 8 by funext i k; unfold swN; rw [if_neg (fun q => by omega)]] at this
  unfold m_X6_sweepAhead
  rw [filly_E hc D]
  unfold m_X6_sweepAhead_4
  exact this
end SW
noncomputable def wN (E : SS) (T : Nat) (but : Int32) (w : Nat → Int64) (n : Nat) : Nat → Int64 := fun k => if k ≤ n then wayE E T but k else w k
theorem wN_s {T : Nat} {but : Int32} {w : Nat → Int64} {n : Nat} : vp_updL (wN E T but w n) (n + 1) (wayE E T but (n + 1)) = wN E T but w (n + 1) := by
  funext k
  by_cases q : k = n + 1
  · subst q; unfold vp_updL wN; rw [if_pos rfl, if_pos (Nat.le_refl _)]
  · unfold vp_updL wN; rw [if_neg q]
    by_cases p : k ≤ n
    · rw [if_pos p, if_pos (by omega)]
    · rw [if_neg p, if_neg (by omega)]
theorem fb_L0 {T : Nat} {but : Int32} {w : Nat → Int64} : ∀ (m n : Nat), n ≤ 48 → 48 - n < m → m_X8_fitsBut_L26_57 m (E, wN E T but w n) (nI n) but = (if wayE E T but 48 = 0 then nI 0 else nI 1, (E, wN E T but w 48)) := by
  intro m
  induction m with
  | zero => intro n _ h0; exact absurd h0 (Nat.not_lt_zero _)
  | succ m ih =>
    intro n hn hm
    rw [show m_X8_fitsBut_L26_57 (m + 1) = m_X8_fitsBut_L26_57_b (m_X8_fitsBut_L26_57 m) from rfl]
    by_cases h1 : 48 ≤ n
    · have e : n = 48 := by omega
      subst e
      have e48 : wN E T but w 48 48 = wayE E T but 48 := if_pos (Nat.le_refl _)
      simp only [m_X8_fitsBut_86, m_X8_fitsBut_L26_57_b, m_X8_fitsBut_54, m_X8_fitsBut_45, m_X8_fitsBut_L26_16_b, m_X8_fitsBut_13, m_X8_fitsBut, if_pos (show nI 48 ≤ nI 48 from (nle (by omega) (by omega)).mpr (by omega)), rlN (show 48 < 2147483648 by omega), e48]
      by_cases q : wayE E T but 48 = 0
      · rw [if_pos (cmp0.mpr q), if_pos q]
      · rw [if_neg (fun z => q (cmp0.mp z)), if_neg q]
    · have g1 : ¬ (nI 48 ≤ nI n) := fun q => h1 ((nle (by omega) (by omega)).mp q)
      have en : wN E T but w n n = wayE E T but n := if_pos (Nat.le_refl _)
      simp only [m_X8_fitsBut_86, m_X8_fitsBut_L26_57_b, m_X8_fitsBut_54, m_X8_fitsBut_45, m_X8_fitsBut_L26_16_b, m_X8_fitsBut_13, m_X8_fitsBut, if_neg g1, rlN (show n < 2147483648 by omega), en, oI1, n1, rlN (show n + 1 < 2147483648 by omega)]
      rw [show vp_updL (wN E T but w n) (n + 1) (m_X8_goes E (wayE E T but n) (nI 0) (m_X8_onlyIn E (nI n) but)) = wN E T but w (n + 1) from wN_s]
      exact ih (n + 1) (by omega) (by omega)
theorem fb_L1 {T : Nat} {but : Int32} {w : Nat → Int64} : ∀ (m n : Nat), n ≤ 48 → 48 - n < m → m_X8_fitsBut_L26_16 m (E, wN E T but w n) (nI n) but = (if wayE E T but 48 = 0 then nI 0 else nI 1, (E, wN E T but w 48)) := by
  intro m
  induction m with
  | zero => intro n _ h0; exact absurd h0 (Nat.not_lt_zero _)
  | succ m ih =>
    intro n hn hm
    rw [show m_X8_fitsBut_L26_16 (m + 1) = m_X8_fitsBut_L26_16_b (m_X8_fitsBut_L26_16 m) from rfl]
    by_cases h1 : 48 ≤ n
    · have e : n = 48 := by omega
      subst e
      have e48 : wN E T but w 48 48 = wayE E T but 48 := if_pos (Nat.le_refl _)
      simp only [m_X8_fitsBut_86, m_X8_fitsBut_L26_57_b, m_X8_fitsBut_54, m_X8_fitsBut_45, m_X8_fitsBut_L26_16_b, m_X8_fitsBut_13, m_X8_fitsBut, if_pos (show nI 48 ≤ nI 48 from (nle (by omega) (by omega)).mpr (by omega)), rlN (show 48 < 2147483648 by omega), e48]
      by_cases q : wayE E T but 48 = 0
      · rw [if_pos (cmp0.mpr q), if_pos q]
      · rw [if_neg (fun z => q (cmp0.mp z)), if_neg q]
    · have g1 : ¬ (nI 48 ≤ nI n) := fun q => h1 ((nle (by omega) (by omega)).mp q)
      have en : wN E T but w n n = wayE E T but n := if_pos (Nat.le_refl _)
      simp only [m_X8_fitsBut_86, m_X8_fitsBut_L26_57_b, m_X8_fitsBut_54, m_X8_fitsBut_45, m_X8_fitsBut_L26_16_b, m_X8_fitsBut_13, m_X8_fitsBut, if_neg g1, rlN (show n < 2147483648 by omega), en, oI1, n1, rlN (show n + 1 < 2147483648 by omega)]
      rw [show vp_updL (wN E T but w n) (n + 1) (m_X8_goes E (wayE E T but n) (nI 0) (m_X8_onlyIn E (nI n) but)) = wN E T but w (n + 1) from wN_s]
      exact ih (n + 1) (by omega) (by omega)
theorem fitsBut_A {T : Nat} (hT : T ≤ 8) (h2 : E 60 2 = nI T) (but : Int32) (w : Nat → Int64) : m_X8_fitsBut (E, w) but = (if wayE E T but 48 = 0 then nI 0 else nI 1, (E, wN E T but w 48)) := by
  have e0 : ∀ v, v = wayE E T but 0 → vp_updL w 0 v = wN E T but w 0 := fun v hv => by
    funext k; unfold vp_updL wN
    by_cases q : k = 0
    · subst q; rw [if_pos rfl, if_pos (Nat.le_refl _), hv]
    · rw [if_neg q, if_neg (by omega)]
  unfold m_X8_fitsBut
  show (if E 60 (rl (nI 2)) = 0 then _ else _) = _
  rw [r2, h2]
  by_cases q : T = 0
  · rw [if_pos (show nI T = 0 by rw [q]; exact n0e)]
    unfold m_X8_fitsBut_54
    show m_X8_fitsBut_L26_57 2000 (E, vp_updL w (rl (nI 0)) 0) (nI 0) but = _
    rw [r0, e0 0 (by show (0 : Int64) = if T = 0 then 0 else lB 0; rw [if_pos q])]
    exact fb_L0 2000 0 (by omega) (by omega)
  · rw [if_neg (show ¬ (nI T = 0) from nI_ne0 (by omega) (by omega))]
    unfold m_X8_fitsBut_13
    show m_X8_fitsBut_L26_16 2000 (E, vp_updL w (rl (nI 0)) (m_X8_bit E (nI 0) (nI 0))) (nI 0) but = _
    rw [r0, e0 _ (by show m_X8_bit E (nI 0) (nI 0) = if T = 0 then 0 else lB 0; rw [if_neg q, bit_E])]
    exact fb_L1 2000 0 (by omega) (by omega)
/-- whether there is a way: both sides -/
theorem some_E (h : RR C E) (hlim : ∃ R, R ≤ 4 ∧ E 60 0 = nI R) (but : Int32) (w : Nat → Int64) : (m_X6_someWay C (rl (C 0 11)) but).1 = (m_X8_fitsBut (E, w) but).1 ∧ RR (m_X6_someWay C (rl (C 0 11)) but).2 E ∧ (∀ k, (m_X6_someWay C (rl (C 0 11)) but).2 0 k = C 0 k) ∧ (∀ k, (m_X6_someWay C (rl (C 0 11)) but).2 33 k = C 33 k) ∧ ∃ w', (m_X8_fitsBut (E, w) but).2 = (E, w') := by
  obtain ⟨c, T, r, hc, e0, D⟩ := h.2.1.get
  obtain ⟨R, hR, eR⟩ := hlim
  have hT := D.2.2.2.2.1
  have hOB := row_OB h D hR eR but 48 (by omega)
  rw [e0, fitsBut_A hT D.2.2.2.1]
  have e1 : m_X6_someWay C c but = (if un (rowA C E c T R but 48) 5 = 0 then nI 0 else nI 1, swN (fyN C E T (nI 0) 8) C E c T R but 245) := by
    have eu : m_X6_union (swN (fyN C E T (nI 0) 8) C E c T R but 245) 37 (nI 48) = un (rowA C E c T R but 48) 5 := by
      rw [un6_E (by omega)]; exact un_cg 5 (fun p hp => swN_r hp (by omega))
    simp only [m_X6_someWay_3, m_X6_someWay, ahead_E D hc hR eR, eu]
    by_cases q : un (rowA C E c T R but 48) 5 = 0
    · rw [if_pos q, if_pos q]
    · rw [if_neg q, if_neg q]
  have so : ∀ i, i ≠ 36 → i ≠ 37 → swN (fyN C E T (nI 0) 8) C E c T R but 245 i = C i := fun i h1 h2 => funext (fun k => by rw [swN_o h2]; unfold fyN; rw [if_neg (fun q => h1 q.1)])
  have key : (un (rowA C E c T R but 48) 5 = 0) ↔ wayE E T but 48 = 0 := by
    constructor
    · intro z
      refine l_nil (fun k _ => ?_)
      cases q : lb (wayE E T but 48) k
      · rfl
      · obtain ⟨t, p, u1, u2, u3⟩ := hOB.2.2 k q
        subst u3
        rw [← hOB.1 t p u1 u2] at q
        have := (un_b 5).mpr ⟨p, u2, q⟩
        rw [z, b_0] at this; cases this
    · intro z
      refine b_nil (fun k => ?_)
      cases q : bt (un (rowA C E c T R but 48) 5) k
      · rfl
      · obtain ⟨p, p1, p2⟩ := (un_b 5).mp q
        have hk := hOB.2.1 p k p1 p2
        rw [hOB.1 k p hk p1, z, l_0] at p2; cases p2
  rw [e1]
  refine ⟨?_, ?_, fun k => ?_, fun k => ?_, ⟨_, rfl⟩⟩
  · show (if un (rowA C E c T R but 48) 5 = 0 then nI 0 else nI 1) = (if wayE E T but 48 = 0 then nI 0 else nI 1)
    by_cases q : wayE E T but 48 = 0
    · rw [if_pos q, if_pos (key.mpr q)]
    · rw [if_neg q, if_neg (fun z => q (key.mp z))]
  · refine h.frC (fun i hi => so i ?_ ?_)
    · intro z; subst z; exact absurd hi (by decide)
    · intro z; subst z; exact absurd hi (by decide)
  · exact congrFun (so 0 (by decide) (by decide)) k
  · exact congrFun (so 33 (by decide) (by decide)) k
end FB
