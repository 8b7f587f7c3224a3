/-! answers that change nothing -/
section AN
variable {C E : SS}
theorem fault_E (h : RR C E) : m_X7_fault C = m_X8_fault E := by unfold m_X7_fault m_X8_fault; exact h.1.2
theorem told_E (h : RR C E) (hb : ∃ b, b ≤ 1 ∧ C 3 6 = nI b) (a : Int32) : m_X7_told C a = m_X8_told E a := by
  obtain ⟨c, t, r, hc, e0, D⟩ := h.2.1.get
  have hJ := h.2.2.2.2.1
  have j0 := hJ 0 (by omega)
  have j1 := hJ 1 (by omega)
  have j2 := hJ 2 (by omega)
  have j3 := hJ 3 (by omega)
  have j4 := hJ 4 (by omega)
  have j5 := hJ 5 (by omega)
  have j6 := hJ 6 (by omega)
  obtain ⟨⟨n, q1, q2⟩, q3⟩ := h.1
  obtain ⟨⟨k1, _, k2, k3, _⟩, k4, _, k5, k6, _⟩ := h.2.2.1
  obtain ⟨q, _, p2, p3, _⟩ := h.2.2.2.2.2.2.1
  have hh : (if E 62 6 = 0 then nI 0 else nI 1) = E 62 6 := by
    obtain ⟨b, hb1, hb2⟩ := hb
    rw [← j6, hb2]
    rcases (show b = 0 ∨ b = 1 by omega) with rfl | rfl
    · rw [if_pos n0e]
    · rw [if_neg n1ne]
  simp only [m_X7_told, m_X8_told, e0, D.1, D.2.1, D.2.2.1, D.2.2.2.1, D.2.2.2.2.2.1, D.2.2.2.2.2.2.1, r0, r1, r2, r3, r4, r5, r6, j0, j1, j2, j3, j4, j5, j6, hh, q1.2.1, q1.2.2.1, k2, k3, k5, k6, p2, p3]
theorem town_E2 (h : RR C E) (a b : Int32) : m_X7_town C a b = m_X8_town E a b := by
  obtain ⟨c, t, r, hc, e0, D⟩ := h.2.1.get
  have t8 := D.2.2.2.2.1
  by_cases h1 : a.toInt < 0 ∨ (t : Int) ≤ a.toInt
  · unfold m_X7_town m_X8_town
    rw [e0, if_pos ((townC D.2.2.1 t8).mpr h1), if_pos ((townE D.2.2.2.1 t8).mpr h1)]
  · have g1 : ¬ (m_X0_hasTown C c a = 0) := fun q => h1 ((townC D.2.2.1 t8).mp q)
    have g2 : ¬ (m_X8_isTown E a = 0) := fun q => h1 ((townE D.2.2.2.1 t8).mp q)
    obtain ⟨x, hx, rfl⟩ := ti_nat h1
    obtain ⟨d1, d2, d3⟩ := D.2.2.2.2.2.2.2.2.1 x hx
    have k1 : nI 4 + nI x = nI (4 + x) := nI_add _ _
    have k2 : nI 12 + nI x = nI (12 + x) := nI_add _ _
    have k3 : nI 20 + nI x = nI (20 + x) := nI_add _ _
    unfold m_X7_town m_X8_town
    rw [e0, if_neg g1, if_neg g2, k1, k2, k3, rlN (show x < 2147483648 by omega), rlN (show 4 + x < 2147483648 by omega), rlN (show 12 + x < 2147483648 by omega), rlN (show 20 + x < 2147483648 by omega), d1, d2, d3, neigh_E D (by omega), banC D hx, banE D hx]
theorem road_E2 (h : RR C E) (a b : Int32) : m_X7_road C a b = m_X8_road E a b := by
  obtain ⟨c, t, r, hc, e0, D⟩ := h.2.1.get
  have r12 := D.2.2.2.2.2.2.2.1
  by_cases h1 : a.toInt < 0 ∨ (r : Int) ≤ a.toInt
  · unfold m_X7_road m_X8_road
    rw [e0, if_pos ((roadC D.2.2.2.2.2.1 r12).mpr h1), if_pos ((roadE D.2.2.2.2.2.2.1 r12).mpr h1)]
  · have g1 : ¬ (m_X0_hasRoad C c a = 0) := fun q => h1 ((roadC D.2.2.2.2.2.1 r12).mp q)
    have g2 : ¬ (m_X8_isRoad E a = 0) := fun q => h1 ((roadE D.2.2.2.2.2.2.1 r12).mp q)
    obtain ⟨x, hx, rfl⟩ := ti_nat h1
    obtain ⟨i1, i2, i3, i4, i5, i6, i7⟩ := DR_AB D x hx
    have k1 : nI 28 + nI x = nI (28 + x) := nI_add _ _
    have k2 : nI 40 + nI x = nI (40 + x) := nI_add _ _
    unfold m_X7_road m_X8_road
    rw [e0, if_neg g1, if_neg g2, k1, k2, rlN (show x < 2147483648 by omega), rlN (show 28 + x < 2147483648 by omega), rlN (show 40 + x < 2147483648 by omega), i3, i4, r5, h.2.2.2.2.1 5 (by omega)]
    rw [← i1, ← i2]
theorem may_E (h : RR C E) {x : Nat} (hx : x < 8) (he : E 62 0 = nI x) (a : Int32) : m_X7_may C a = m_X8_may E a := by
  unfold m_X7_may m_X8_may
  rw [walksJ h hx he, mayS_E h, r0, r5, he]
  by_cases h0 : a = 0
  · have g : ¬ (m_X8_in E a (nI 0) (nI 1) = 0) := fun q => by rw [in0, h0, nI_toInt (by omega), nI_toInt (by omega), z_ti] at q; omega
    rw [if_pos h0, if_neg g]
    by_cases g2 : m_X8_goesOn E = 0
    · rw [if_neg (fun q => (goOn_E h).mp q g2), if_pos g2]
    · rw [if_pos ((goOn_E h).mpr g2), if_neg g2, if_pos h0]
  · rw [if_neg h0]
    by_cases h1 : a = nI 1
    · have g : ¬ (m_X8_in E a (nI 0) (nI 1) = 0) := fun q => by rw [in0, h1, nI_toInt (by omega), nI_toInt (by omega)] at q; omega
      rw [if_pos h1, if_neg g]
      by_cases g2 : m_X8_goesOn E = 0
      · rw [if_neg (fun q => (goOn_E h).mp q g2), if_pos g2]
      · rw [if_pos ((goOn_E h).mpr g2), if_neg g2, if_neg h0]
    · have g : m_X8_in E a (nI 0) (nI 1) = 0 := in0.mpr (by
        rw [nI_toInt (by omega), nI_toInt (by omega)]
        have e0 : a.toInt ≠ 0 := fun q => h0 (by have := nI_of_toInt (n := 0) q; rw [this]; exact n0e)
        have e1 : a.toInt ≠ 1 := fun q => h1 (nI_of_toInt (n := 1) q)
        omega)
      rw [if_neg h1, if_pos g]
/-- the least number with a property, from above -/
def lsp (p : Nat → Bool) : Nat → Int32 → Int32
  | 0, f => f
  | j + 1, f => lsp p j (if p j then nI j else f)
theorem lsp_none {p : Nat → Bool} : ∀ (n : Nat) (f : Int32), (∀ k, k < n → p k = false) → lsp p n f = f := by
  intro n
  induction n with
  | zero => intro f _; rfl
  | succ n ih =>
    intro f h
    show lsp p n (if p n then nI n else f) = f
    rw [h n (by omega), if_neg (show ¬ (false = true) by decide)]
    exact ih f (fun k hk => h k (by omega))
theorem lsp_first {p : Nat → Bool} {u : Nat} (hu : p u = true) (hb : ∀ k, k < u → p k = false) : ∀ (n : Nat) (f : Int32), u < n → lsp p n f = nI u := by
  intro n
  induction n with
  | zero => intro f h; omega
  | succ n ih =>
    intro f h
    show lsp p n (if p n then nI n else f) = nI u
    by_cases q : u = n
    · subst q; rw [hu, if_pos (rfl : true = true)]; exact lsp_none u _ hb
    · exact ih _ (by omega)
theorem jE_L : ∀ (m j : Nat) (f : Int32), j ≤ 15 → j < m → m_X8_judge_L9_7 m E (ix j) f = lsp (fun k => decide (E 67 k ≠ E 62 3)) j f := by
  intro m
  induction m with
  | zero => intro j f _ h0; exact absurd h0 (Nat.not_lt_zero _)
  | succ m ih =>
    intro j f hj hm
    rw [show m_X8_judge_L9_7 (m + 1) = m_X8_judge_L9_7_b (m_X8_judge_L9_7 m) from rfl]
    unfold m_X8_judge_L9_7_b
    cases j with
    | zero => rw [if_pos (show ix 0 < 0 by decide +kernel)]; rfl
    | succ j =>
      rw [show ix (j + 1) = nI j from rfl, if_neg (nI_pos (by omega)), ix_s, rlN (show j < 2147483648 by omega), r3]
      show _ = lsp (fun k => decide (E 67 k ≠ E 62 3)) j (if decide (E 67 j ≠ E 62 3) then nI j else f)
      by_cases q : E 67 j = E 62 3
      · rw [if_pos q, decide_eq_false (fun p => p q), if_neg (show ¬ (false = true) by decide)]
        exact ih j f (by omega) (by omega)
      · rw [if_neg q, decide_eq_true q, if_pos (rfl : true = true)]
        exact ih j (nI j) (by omega) (by omega)
theorem jC_L {n : Nat} (hn : n ≤ 15) (h13 : C 0 13 = nI n) (hb : ∀ k, k < n → C 44 k = E 67 k) (h3 : C 3 3 = E 62 3) : ∀ (m u : Nat), u ≤ n → n - u < m → (∀ k, k < u → decide (E 67 k ≠ E 62 3) = false) → m_X7_judge_L2_2 m C (nI u) = lsp (fun k => decide (E 67 k ≠ E 62 3)) n (-1) := by
  intro m
  induction m with
  | zero => intro u _ h0; exact absurd h0 (Nat.not_lt_zero _)
  | succ m ih =>
    intro u hu hm hz
    rw [show m_X7_judge_L2_2 (m + 1) = m_X7_judge_L2_2_b (m_X7_judge_L2_2 m) from rfl]
    unfold m_X7_judge_L2_2_b
    rw [h13, h3, rlN (show u < 2147483648 by omega), oI1, n1]
    by_cases h1 : n ≤ u
    · rw [if_pos ((nle (by omega) (by omega)).mpr h1), lsp_none n (-1) (fun k hk => hz k (by omega))]
    · rw [if_neg (fun q => h1 ((nle (by omega) (by omega)).mp q)), if_neg (fun q => by rw [nle (by omega) (by omega)] at q; omega), hb u (by omega)]
      by_cases q : E 67 u = E 62 3
      · rw [if_pos q]
        exact ih (u + 1) (by omega) (by omega) (fun k hk => by
          by_cases p : k = u
          · subst p; exact decide_eq_false (fun p => p q)
          · exact hz k (by omega))
      · rw [if_neg q, lsp_first (p := fun k => decide (E 67 k ≠ E 62 3)) (decide_eq_true q) hz n (-1) (by omega)]
theorem judge_E (h : RR C E) : m_X7_judge C = m_X8_judge E := by
  obtain ⟨n, a1, a2, a3, a4⟩ := h.2.2.1.2
  have e1 : m_X7_judge C = lsp (fun k => decide (E 67 k ≠ E 62 3)) n (-1) := jC_L a1 a2 a4 (h.2.2.2.2.1 3 (by omega)) 2000 0 (by omega) (by omega) (fun k hk => absurd hk (Nat.not_lt_zero _))
  have e2 : m_X8_judge E = lsp (fun k => decide (E 67 k ≠ E 62 3)) n (-1) := by
    have e3 : E 58 13 - nI 1 = ix n := by
      rw [a3]
      cases n with
      | zero => decide +kernel
      | succ n => exact pk_sub (by omega)
    unfold m_X8_judge
    rw [e3]
    exact jE_L 2000 n (-1) a1 (by omega)
  rw [e1, e2]
theorem idle_L {c t r : Nat} (D : DR C E c 60 t r) (e0 : rl (C 0 11) = c) : ∀ (m u : Nat) (b s : Int32), u ≤ t → t - u < m → (∀ k, k < 32 → bt s k = (bt (nI 4095) k && !bt b k)) → m_X7_idle_L4_3 m C (nI u) b = m_X8_idle_L6_3 m E (nI u) s := by
  have t8 := D.2.2.2.2.1
  intro m
  induction m with
  | zero => intro u b s _ h0; exact absurd h0 (Nat.not_lt_zero _)
  | succ m ih =>
    intro u b s hu hm hs
    rw [show m_X7_idle_L4_3 (m + 1) = m_X7_idle_L4_3_b (m_X7_idle_L4_3 m) from rfl, show m_X8_idle_L6_3 (m + 1) = m_X8_idle_L6_3_b (m_X8_idle_L6_3 m) from rfl]
    unfold m_X7_idle_L4_3_b m_X8_idle_L6_3_b
    rw [e0, D.2.2.1, r2, D.2.2.2.1]
    by_cases h1 : t ≤ u
    · rw [if_pos ((nle (by omega) (by omega)).mpr h1), if_pos ((nle (by omega) (by omega)).mpr h1)]
      apply b_ext
      intro k hk
      rw [b_and, b_xor, b_m1 k hk, hs k hk]; simp
    · have g : ¬ (nI t ≤ nI u) := fun q => h1 ((nle (by omega) (by omega)).mp q)
      have k2 : nI 12 + nI u = nI (12 + u) := nI_add _ _
      rw [if_neg g, if_neg g, banC D (by omega), banE D (by omega), oI1, n1, k2, rlN (show u < 2147483648 by omega), rlN (show 12 + u < 2147483648 by omega), (D.2.2.2.2.2.2.2.2.1 u (by omega)).2.1]
      by_cases q : E 60 (4 + u) < nI 50
      · rw [if_pos q, if_neg n1ne, if_neg n1ne]
        exact ih (u + 1) _ _ (by omega) (by omega) (fun k hk => by
          rw [b_and, hs k hk]
          cases bt (nI 4095) k <;> cases bt b k <;> rfl)
      · rw [if_neg q, if_pos n0e, if_pos n0e]
        exact ih (u + 1) _ _ (by omega) (by omega) (fun k hk => by
          rw [b_and, hs k hk, b_xor, b_m1 k hk, b_or]
          cases bt (nI 4095) k <;> cases bt b k <;> cases bt (E 60 (12 + u)) k <;> rfl)
theorem idle_E (h : RR C E) : m_X7_idle C = m_X8_idle E := by
  obtain ⟨c, t, r, hc, e0, D⟩ := h.2.1.get
  have t8 := D.2.2.2.2.1
  unfold m_X7_idle m_X8_idle
  exact idle_L D e0 2000 0 (nI 0) (nI 4095) (by omega) (by omega) (fun k hk => by rw [b_n0]; simp)
/-- exits as the class fills them -/
noncomputable def fxN (C E : SS) (t : Nat) (sh : Int32) (n : Nat) : SS := fun i k => if i = 45 ∧ k < n then (if k < t then m_X8_walks E (nI k) sh else nI 0) else C i k
end AN
section AN2
variable {C E : SS}
theorem fxN_s {t n : Nat} {sh : Int32} : st (fxN C E t sh n) 45 n (if n < t then m_X8_walks E (nI n) sh else nI 0) = fxN C E t sh (n + 1) := by
  funext i' k'; unfold st fxN
  by_cases h1 : i' = 45
  · subst h1
    by_cases h2 : k' = n
    · subst h2; rw [if_pos ⟨rfl, rfl⟩, if_pos (show 45 = 45 ∧ k' < k' + 1 from ⟨rfl, by omega⟩)]
    · rw [if_neg (fun q => h2 q.2)]
      by_cases h3 : k' < n
      · rw [if_pos (show 45 = 45 ∧ k' < n from ⟨rfl, h3⟩), if_pos (show 45 = 45 ∧ k' < n + 1 from ⟨rfl, by omega⟩)]
      · rw [if_neg (fun q => h3 q.2), if_neg (fun q => by omega)]
  · rw [if_neg (fun q => h1 q.1), if_neg (fun q => h1 q.1), if_neg (fun q => h1 q.1)]
theorem fill_L {c t r : Nat} (hc : c = 46 ∨ c = 52) (D : DR C E c 60 t r) (sh : Int32) : ∀ (m k : Nat), k ≤ 8 → 8 - k < m → m_X0_fillExits_L2_2 m (fxN C E t sh k) (nI k) c 45 sh = fxN C E t sh 8 := by
  have t8 := D.2.2.2.2.1
  intro m
  induction m with
  | zero => intro k _ h0; exact absurd h0 (Nat.not_lt_zero _)
  | succ m ih =>
    intro k hk hm
    have fo : ∀ i j, i ≠ 45 → fxN C E t sh k i j = C i j := fun i j hi => by unfold fxN; rw [if_neg (fun q => hi q.1)]
    have D' : DR (fxN C E t sh k) E c 60 t r := D.cg hc (fun i a b => funext (fun j => fo i j (by omega))) rfl
    rw [show m_X0_fillExits_L2_2 (m + 1) = m_X0_fillExits_L2_2_b (m_X0_fillExits_L2_2 m) from rfl]
    by_cases h1 : 8 ≤ k
    · have e : k = 8 := by omega
      subst e
      simp only [m_X0_fillExits_23, m_X0_fillExits_14, m_X0_fillExits_L2_2_b, m_X0_fillExits, if_pos (show nI 8 ≤ nI 8 from (nle (by omega) (by omega)).mpr (by omega))]
    · have g1 : ¬ (nI 8 ≤ nI k) := fun q => h1 ((nle (by omega) (by omega)).mp q)
      by_cases h2 : t ≤ k
      · simp only [m_X0_fillExits_23, m_X0_fillExits_14, m_X0_fillExits_L2_2_b, m_X0_fillExits, if_neg g1, D'.2.2.1, if_pos (show nI t ≤ nI k from (nle (by omega) (by omega)).mpr h2), rlN (show k < 2147483648 by omega), oI1, n1]
        have := fxN_s (C := C) (E := E) (t := t) (n := k) (sh := sh)
        rw [if_neg (by omega)] at this
        rw [this]; exact ih (k + 1) (by omega) (by omega)
      · simp only [m_X0_fillExits_23, m_X0_fillExits_14, m_X0_fillExits_L2_2_b, m_X0_fillExits, if_neg g1, D'.2.2.1, if_neg (show ¬ (nI t ≤ nI k) from fun q => h2 ((nle (by omega) (by omega)).mp q)), rlN (show k < 2147483648 by omega), oI1, n1, walks_E D' (show k < 8 by omega) sh]
        have := fxN_s (C := C) (E := E) (t := t) (n := k) (sh := sh)
        rw [if_pos (by omega)] at this
        rw [this]; exact ih (k + 1) (by omega) (by omega)
theorem fill_E {c t r : Nat} (hc : c = 46 ∨ c = 52) (D : DR C E c 60 t r) (sh : Int32) : m_X0_fillExits C c 45 sh = fxN C E t sh 8 := by
  have hx := fill_L hc D sh 2000 0 (by omega) (by omega)
  rw [show fxN C E t sh 0 = C by funext i k; unfold fxN; rw [if_neg (fun q => by omega)]] at hx
  unfold m_X0_fillExits; exact hx
theorem str_L {c t r : Nat} (hc : c = 46 ∨ c = 52) (D : DR C E c 60 t r) (e0 : rl (C 0 11) = c) : ∀ (m u : Nat) (s : Int32), u ≤ t → t - u < m → (m_X7_stranded_L22_11 m (fxN C E t (E 62 5) 8) (nI u) s).1 = m_X8_stranded_L4_3 m E (nI u) s := by
  have t8 := D.2.2.2.2.1
  have fo : ∀ i j, i ≠ 45 → fxN C E t (E 62 5) 8 i j = C i j := fun i j hi => by unfold fxN; rw [if_neg (fun q => hi q.1)]
  intro m
  induction m with
  | zero => intro u s _ h0; exact absurd h0 (Nat.not_lt_zero _)
  | succ m ih =>
    intro u s hu hm
    rw [show m_X7_stranded_L22_11 (m + 1) = m_X7_stranded_L22_11_b (m_X7_stranded_L22_11 m) from rfl, show m_X8_stranded_L4_3 (m + 1) = m_X8_stranded_L4_3_b (m_X8_stranded_L4_3 m) from rfl]
    unfold m_X7_stranded_L22_11_b m_X8_stranded_L4_3_b
    rw [fo 0 11 (by decide), e0, fo c 2 (by omega), D.2.2.1, r2, D.2.2.2.1]
    by_cases h1 : t ≤ u
    · rw [if_pos ((nle (by omega) (by omega)).mpr h1), if_pos ((nle (by omega) (by omega)).mpr h1)]
    · have g : ¬ (nI t ≤ nI u) := fun q => h1 ((nle (by omega) (by omega)).mp q)
      have e45 : fxN C E t (E 62 5) 8 45 u = m_X8_walks E (nI u) (E 62 5) := by unfold fxN; rw [if_pos ⟨rfl, by omega⟩, if_pos (by omega)]
      rw [if_neg g, if_neg g, rlN (show u < 2147483648 by omega), e45, r5, oI1, n1, or_nz]
      by_cases q : m_X8_walks E (nI u) (E 62 5) = 0
      · rw [if_pos q, if_pos q]; exact ih (u + 1) _ (by omega) (by omega)
      · rw [if_neg q, if_neg q]; exact ih (u + 1) _ (by omega) (by omega)
theorem stranded_E (h : RR C E) : (m_X7_stranded C).1 = m_X8_stranded E := by
  obtain ⟨c, t, r, hc, e0, D⟩ := h.2.1.get
  have t8 := D.2.2.2.2.1
  simp only [m_X7_stranded_L22_11_b, m_X7_stranded_7, m_X7_stranded, e0, h.2.2.2.2.1 5 (show 5 < 7 by omega), fill_E hc D]
  unfold m_X8_stranded
  exact str_L hc D e0 2000 0 (nI 0) (by omega) (by omega)
end AN2
