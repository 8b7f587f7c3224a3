/-! roads, clauses, the whole reading -/
def nb (A B : Nat → Nat) (t : Nat) (o : Nat → Bool) (k : Nat) : Nat → Bool
  | 0 => false
  | r + 1 => nb A B t o k r || (o r && (decide (A r = t) && decide (B r = k) || decide (B r = t) && decide (A r = k)))
theorem dsym (a b : Nat) : decide (a = b) = decide (b = a) := by rw [decide_eq_decide]; exact ⟨Eq.symm, Eq.symm⟩
theorem nbC {σ : SS} {c R : Nat} {A B : Nat → Nat} (hR : σ c 3 = nI R) (h12 : R ≤ 12) (hA : ∀ j, j < R → σ (c + 4) j = nI (A j) ∧ σ (c + 5) j = nI (B j) ∧ A j < 8 ∧ B j < 8 ∧ A j ≠ B j) {t : Nat} (ht : t < 8) (shut : Int32) : ∀ (m r : Nat) (set : Int32), r ≤ R → R - r < m → (∀ k, bt set k = nb A B t (fun j => !bt shut j) k r) → ∀ k, bt (m_X0_neighbours_L5_3 m σ (nI r) set c (nI t) shut) k = nb A B t (fun j => !bt shut j) k R := by
  intro m
  induction m with
  | zero => intro r set _ h0; exact absurd h0 (Nat.not_lt_zero _)
  | succ m ih =>
    intro r set hr hm hs k
    rw [show m_X0_neighbours_L5_3 (m + 1) = m_X0_neighbours_L5_3_b (m_X0_neighbours_L5_3 m) from rfl]
    unfold m_X0_neighbours_L5_3_b
    by_cases h1 : R ≤ r
    · have e : r = R := by omega
      subst e
      rw [hR, if_pos ((nle (by omega) (by omega)).mpr (Nat.le_refl _))]; exact hs k
    · obtain ⟨ha, hb, a8, b8, ne⟩ := hA r (by omega)
      rw [hR, if_neg (fun q => h1 ((nle (by omega) (by omega)).mp q)), rlN (by omega), ha, hb, oI1, n1]
      cases ho : bt shut r
      · rw [if_pos ((b_ask0 (by omega)).mpr ho)]
        by_cases h2 : A r = t
        · rw [if_pos (show nI (A r) = nI t by rw [h2])]
          refine ih (r + 1) _ (by omega) (by omega) (fun k => ?_) k
          rw [b_or, hs k, b_one (by omega)]
          simp only [nb, ho, decide_eq_true h2, decide_eq_false (show ¬ B r = t by omega), Bool.not_false, Bool.true_and, Bool.false_and, Bool.or_false, dsym k (B r)]
        · rw [if_neg (fun q => h2 ((neq (by omega) (by omega)).mp q))]
          by_cases h3 : B r = t
          · rw [if_pos (show nI (B r) = nI t by rw [h3])]
            refine ih (r + 1) _ (by omega) (by omega) (fun k => ?_) k
            rw [b_or, hs k, b_one (by omega)]
            simp only [nb, ho, decide_eq_false h2, decide_eq_true h3, Bool.not_false, Bool.true_and, Bool.false_and, Bool.false_or, dsym k (A r)]
          · rw [if_neg (fun q => h3 ((neq (by omega) (by omega)).mp q))]
            refine ih (r + 1) _ (by omega) (by omega) (fun k => ?_) k
            rw [hs k]
            simp only [nb, ho, decide_eq_false h2, decide_eq_false h3, Bool.not_false, Bool.true_and, Bool.false_and, Bool.or_false]
      · rw [if_neg (fun q => by rw [b_ask0 (by omega), ho] at q; cases q)]
        refine ih (r + 1) _ (by omega) (by omega) (fun k => ?_) k
        rw [hs k]
        simp only [nb, ho, Bool.not_true, Bool.false_and, Bool.or_false]
theorem nbC0 {σ : SS} {c R : Nat} {A B : Nat → Nat} (hR : σ c 3 = nI R) (h12 : R ≤ 12) (hA : ∀ j, j < R → σ (c + 4) j = nI (A j) ∧ σ (c + 5) j = nI (B j) ∧ A j < 8 ∧ B j < 8 ∧ A j ≠ B j) {t : Nat} (ht : t < 8) (shut : Int32) (k : Nat) : bt (m_X0_neighbours σ c (nI t) shut) k = nb A B t (fun j => !bt shut j) k R := by
  unfold m_X0_neighbours
  exact nbC hR h12 hA ht shut 2000 0 (nI 0) (by omega) (by omega) (fun k => b_n0 k) k
theorem nb_cg {A B A' B' : Nat → Nat} {t k : Nat} {o o' : Nat → Bool} : ∀ (r : Nat), (∀ j, j < r → A j = A' j ∧ B j = B' j ∧ o j = o' j) → nb A B t o k r = nb A' B' t o' k r := by
  intro r
  induction r with
  | zero => intro _; rfl
  | succ r ih =>
    intro h
    obtain ⟨h1, h2, h3⟩ := h r (by omega)
    simp only [nb, h1, h2, h3, ih (fun j hj => h j (by omega))]
theorem fst_snd {α β : Type} (q : α × β) : (q.1, q.2) = q := rfl
section RD
variable {D E : SS} {n d t r : Nat}
def eR (E : SS) (R x y : Nat) : SS := st (st (st E 61 (28 + R) (nI x)) 61 (40 + R) (nI y)) 61 3 (nI (R + 1))
theorem hasF {R x y : Nat} {k0 : SS → Int32 → Int32 → Int32 → Int32 × SS} {a w u q z : Int32} (hR : E 61 3 = nI R) (h12 : R ≤ 12) : m_X8_readsRoad_65 k0 (st (rx E a w (nI y) u) 61 (rl (nI 28 + (rx E a w (nI y) u) 61 (rl (nI 3)))) (nI x)) q z (nI x) = m_X8_ends (rx (eR E R x y) a w (nI y) u) := by
  have ne : (61 : Nat) ≠ 58 := by decide
  have k1 : nI 28 + nI R = nI (28 + R) := nI_add _ _
  have k2 : nI 40 + nI R = nI (40 + R) := nI_add _ _
  simp only [m_X8_readsRoad_248, m_X8_readsRoad_236, m_X8_readsRoad_226, m_X8_readsRoad_215, m_X8_readsRoad_203, m_X8_readsRoad_L57_187_b, m_X8_readsRoad_110, m_X8_readsRoad_98, m_X8_readsRoad_88, m_X8_readsRoad_77, m_X8_readsRoad_65, m_X8_readsRoad_L57_49_b, m_X8_readsRoad_40, m_X8_readsRoad_20, m_X8_readsRoad, rxD, r3, hR, k1, k2, rlN (show 28 + R < 2147483648 by omega), rlN (show 40 + R < 2147483648 by omega), st_rxo ne, rx17, st_nk (show 3 ≠ 28 + R by omega), st_nk (show 3 ≠ 40 + R by omega), n1, fst_snd, eR]
theorem hasL {R x y : Nat} {A B : Nat → Nat} (hR : E 61 3 = nI R) (h12 : R ≤ 12) (hA : ∀ j, j < R → E 61 (28 + j) = nI (A j) ∧ E 61 (40 + j) = nI (B j) ∧ A j < 8 ∧ B j < 8) (hx : x < 8) (hy : y < 8) (a w u : Int32) : ∀ (m r : Nat), r ≤ R → R - r < m → m_X8_readsRoad_L57_49 m (rx E a w (nI y) u) (nI r) (if nb A B x (fun _ => true) y r then nI 1 else nI 0) (nI x) = if nb A B x (fun _ => true) y R then (nI 0, rx E u (nI 4) (nI y) u) else m_X8_ends (rx (eR E R x y) a w (nI y) u) := by
  intro m
  induction m with
  | zero => intro r _ h0; exact absurd h0 (Nat.not_lt_zero _)
  | succ m ih =>
    intro r hr hm
    rw [show m_X8_readsRoad_L57_49 (m + 1) = m_X8_readsRoad_L57_49_b (m_X8_readsRoad_L57_49 m) from rfl]
    unfold m_X8_readsRoad_L57_49_b
    by_cases h1 : R ≤ r
    · have e : r = R := by omega
      subst e
      rw [rxD, r3, hR, if_pos ((nle (by omega) (by omega)).mpr (Nat.le_refl _))]
      cases nb A B x (fun _ => true) y r
      · rw [if_neg (show ¬ (false = true) by decide), if_neg (show ¬ (false = true) by decide), if_pos n0e]
        have := hasF (E := E) (R := r) (x := x) (y := y) (k0 := m_X8_readsRoad_L57_49 m) (a := a) (w := w) (u := u) (q := nI r) (z := nI 0) hR h12
        rw [rxD, r3, hR] at this
        exact this
      · rw [if_pos (rfl : true = true), if_pos (rfl : true = true), if_neg n1ne]
        simp only [m_X8_readsRoad_248, m_X8_readsRoad_236, m_X8_readsRoad_226, m_X8_readsRoad_215, m_X8_readsRoad_203, m_X8_readsRoad_L57_187_b, m_X8_readsRoad_110, m_X8_readsRoad_98, m_X8_readsRoad_88, m_X8_readsRoad_77, m_X8_readsRoad_65, m_X8_readsRoad_L57_49_b, m_X8_readsRoad_40, m_X8_readsRoad_20, m_X8_readsRoad, rx18, wrongE]
    · obtain ⟨ha, hb, a8, b8⟩ := hA r (by omega)
      have k1 : nI 28 + nI r = nI (28 + r) := nI_add _ _
      have k2 : nI 40 + nI r = nI (40 + r) := nI_add _ _
      have ih' := ih (r + 1) (by omega) (by omega)
      simp only [rxD, r3, hR, k1, k2, rlN (show 28 + r < 2147483648 by omega), rlN (show 40 + r < 2147483648 by omega), ha, hb, rx17, oI1, n1]
      rw [if_neg (fun q => h1 ((nle (by omega) (by omega)).mp q))]
      simp only [neq (show A r < 2147483648 by omega) (show x < 2147483648 by omega), neq (show B r < 2147483648 by omega) (show y < 2147483648 by omega), neq (show A r < 2147483648 by omega) (show y < 2147483648 by omega), neq (show B r < 2147483648 by omega) (show x < 2147483648 by omega)]
      simp only [nb, Bool.true_and] at ih'
      cases hb2 : nb A B x (fun _ => true) y r
      · rw [hb2] at ih'
        rw [if_neg (show ¬ (false = true) by decide), if_pos n0e]
        by_cases e1 : A r = x
        · rw [if_pos e1]
          by_cases e2 : B r = y
          · rw [if_pos e2]; rw [decide_eq_true e1, decide_eq_true e2] at ih'; simpa using ih'
          · rw [if_neg e2]
            by_cases e3 : A r = y
            · rw [if_pos e3]
              by_cases e4 : B r = x
              · rw [if_pos e4]; rw [decide_eq_true e1, decide_eq_false e2, decide_eq_true e4, decide_eq_true e3] at ih'; simpa using ih'
              · rw [if_neg e4]; rw [decide_eq_true e1, decide_eq_false e2, decide_eq_false e4] at ih'; simpa using ih'
            · rw [if_neg e3]; rw [decide_eq_true e1, decide_eq_false e2, decide_eq_false e3] at ih'; simpa using ih'
        · rw [if_neg e1]
          by_cases e3 : A r = y
          · rw [if_pos e3]
            by_cases e4 : B r = x
            · rw [if_pos e4]; rw [decide_eq_false e1, decide_eq_true e4, decide_eq_true e3] at ih'; simpa using ih'
            · rw [if_neg e4]; rw [decide_eq_false e1, decide_eq_false e4] at ih'; simpa using ih'
          · rw [if_neg e3]; rw [decide_eq_false e1, decide_eq_false e3] at ih'; simpa using ih'
      · rw [hb2] at ih'
        rw [if_pos (rfl : true = true), if_neg n1ne]
        simpa using ih'
theorem hasL1 {R x y : Nat} (hR : E 61 3 = nI R) (h12 : R ≤ 12) (a w u : Int32) : ∀ (m r : Nat), r ≤ R → R - r < m → m_X8_readsRoad_L57_187 m (rx E a w (nI y) u) (nI r) (nI 1) (nI x) = (nI 0, rx E u (nI 4) (nI y) u) := by
  intro m
  induction m with
  | zero => intro r _ h0; exact absurd h0 (Nat.not_lt_zero _)
  | succ m ih =>
    intro r hr hm
    rw [show m_X8_readsRoad_L57_187 (m + 1) = m_X8_readsRoad_L57_187_b (m_X8_readsRoad_L57_187 m) from rfl]
    unfold m_X8_readsRoad_L57_187_b
    rw [rxD, r3, hR, if_neg n1ne, if_neg n1ne, oI1, n1]
    by_cases h1 : R ≤ r
    · rw [if_pos ((nle (by omega) (by omega)).mpr h1)]
      simp only [m_X8_readsRoad_248, m_X8_readsRoad_236, m_X8_readsRoad_226, m_X8_readsRoad_215, m_X8_readsRoad_203, m_X8_readsRoad_L57_187_b, m_X8_readsRoad_110, m_X8_readsRoad_98, m_X8_readsRoad_88, m_X8_readsRoad_77, m_X8_readsRoad_65, m_X8_readsRoad_L57_49_b, m_X8_readsRoad_40, m_X8_readsRoad_20, m_X8_readsRoad, rx18, wrongE]
    · rw [if_neg (fun q => h1 ((nle (by omega) (by omega)).mp q))]
      exact ih (r + 1) (by omega) (by omega)
def aR (D : SS) (d r : Nat) (x y : Int32) : SS := st (st (st D (d + 4) r x) (d + 5) r y) d 3 (nI (r + 1))
theorem addR_E (hd : d = 46 ∨ d = 52) (ht : D d 3 = nI r) (h12 : r < 12) {a s f p x y : Int32} : m_X0_addRoad (tx D a s f p) d x y = tx (aR D d r x y) a s f p := by
  have g : ¬ (nI 12 ≤ nI r) := fun q => by rw [nle (by omega) (by omega)] at q; omega
  have hd1 : d ≠ 1 := by omega
  have e1 : d + 4 ≠ 1 := by omega
  have e2 : d + 5 ≠ 1 := by omega
  simp only [m_X0_addRoad_23, m_X0_addRoad_16, m_X0_addRoad_10, m_X0_addRoad, txo hd1, ht, if_neg g, rlN (show r < 2147483648 by omega), st_txo e1, st_txo e2, st_txo hd1, st_ni (show d ≠ d + 4 by omega), st_ni (show d ≠ d + 5 by omega), n1, aR]
theorem frR {x y : Int32} : frD D (aR D d r x y) d := ((frD.rf.up (by omega)).up (by omega)).up (by omega)
theorem DR_road (hd : d = 46 ∨ d = 52) {x y : Nat} (hx : x < t) (hy : y < t) (hxy : x ≠ y) (h12 : r < 12) (h : DR D E d 61 t r) : DR (aR D d r (nI x) (nI y)) (eR E r x y) d 61 t (r + 1) := by
  obtain ⟨h1, h2, h3, h4, h5, h6, h7, h8', h9, h10, h11, h12z⟩ := h
  have e : ∀ k, k ≠ 3 → k ≠ 28 + r → k ≠ 40 + r → eR E r x y 61 k = E 61 k := fun k a b c => by unfold eR; rw [st_nk a, st_nk c, st_nk b]
  have f : ∀ k, k ≠ 3 → aR D d r (nI x) (nI y) d k = D d k := fun k a => by unfold aR; rw [st_nk a, st_ni (by omega), st_ni (by omega)]
  have g : ∀ i k, i ≠ d → i ≠ d + 4 → i ≠ d + 5 → aR D d r (nI x) (nI y) i k = D i k := fun i k a b c => by unfold aR; rw [st_ni a, st_ni c, st_ni b]
  have g4 : ∀ k, k ≠ r → aR D d r (nI x) (nI y) (d + 4) k = D (d + 4) k := fun k a => by unfold aR; rw [st_ni (by omega), st_ni (by omega), st_nk a]
  have g5 : ∀ k, k ≠ r → aR D d r (nI x) (nI y) (d + 5) k = D (d + 5) k := fun k a => by unfold aR; rw [st_ni (by omega), st_nk a, st_ni (by omega)]
  refine ⟨?_, ?_, ?_, ?_, h5, ?_, ?_, by omega, fun k hk => ?_, fun k hk => ?_, fun k => ?_, fun k hk1 hk2 => ?_⟩
  · rw [f 0 (by omega), e 0 (by omega) (by omega) (by omega)]; exact h1
  · rw [f 1 (by omega), e 1 (by omega) (by omega) (by omega)]; exact h2
  · rw [f 2 (by omega)]; exact h3
  · rw [e 2 (by omega) (by omega) (by omega)]; exact h4
  · unfold aR; exact st_eq
  · unfold eR; exact st_eq
  · rw [g _ _ (by omega) (by omega) (by omega), g _ _ (by omega) (by omega) (by omega), g _ _ (by omega) (by omega) (by omega), e _ (by omega) (by omega) (by omega), e _ (by omega) (by omega) (by omega), e _ (by omega) (by omega) (by omega)]; exact h9 k hk
  · by_cases q : k = r
    · subst q
      refine ⟨x, y, hx, hy, hxy, ?_, ?_, ?_, ?_⟩
      · unfold aR; rw [st_ni (by omega), st_ni (by omega), st_eq]
      · unfold aR; rw [st_ni (by omega), st_eq]
      · unfold eR; rw [st_nk (by omega), st_nk (by omega), st_eq]
      · unfold eR; rw [st_nk (by omega), st_eq]
    · rw [g4 k q, g5 k q, e _ (by omega) (by omega) (by omega), e _ (by omega) (by omega) (by omega)]; exact h10 k (by omega)
  · rw [f 4 (by omega)]
    by_cases q : k < t
    · rw [e _ (by omega) (by omega) (by omega)]; exact h11 k
    · rw [h11 k, decide_eq_false q, Bool.false_and, Bool.false_and]
  · rw [e _ (by omega) (by omega) (by omega)]; exact h12z k hk1 hk2
theorem num_bd {x : Int32} (h0 : ¬ x < nI 0) (h1 : ¬ (nI t - nI 1) < x) (ht : t ≤ 8) : ∃ j, j < t ∧ x = nI j := by
  have a0 : (nI 0).toInt = 0 := nI_toInt (by omega)
  have a1 : (nI t - nI 1).toInt = (t : Int) - 1 := pk_sub_toInt (by omega) (by omega)
  have b0 : ¬ x.toInt < (nI 0).toInt := fun q => h0 (Int32.lt_iff_toInt_lt.mpr q)
  have b1 : ¬ (nI t - nI 1).toInt < x.toInt := fun q => h1 (Int32.lt_iff_toInt_lt.mpr q)
  exact ⟨x.toInt.toNat, by omega, nI_of_toInt (by omega)⟩
theorem DR_AB {e : Nat} (h : DR D E d e t r) : ∀ j, j < r → D (d + 4) j = nI (rl (D (d + 4) j)) ∧ D (d + 5) j = nI (rl (D (d + 5) j)) ∧ E e (28 + j) = nI (rl (D (d + 4) j)) ∧ E e (40 + j) = nI (rl (D (d + 5) j)) ∧ rl (D (d + 4) j) < t ∧ rl (D (d + 5) j) < t ∧ rl (D (d + 4) j) ≠ rl (D (d + 5) j) := fun j hj => by
  obtain ⟨x, y, i1, i2, i3, i4, i5, i6, i7⟩ := h.2.2.2.2.2.2.2.2.2.1 j hj
  have ht := h.2.2.2.2.1
  have e1 : rl (D (d + 4) j) = x := by rw [i4]; exact rlN (by omega)
  have e2 : rl (D (d + 5) j) = y := by rw [i5]; exact rlN (by omega)
  rw [e1, e2]
  exact ⟨i4, i5, i6, i7, i1, i2, i3⟩
theorem road_E (h : TT D E n) (hd : d = 46 ∨ d = 52) (hR : DR D E d 61 t r) (h12 : r < 12) {a : Nat} (ha : a ≤ n) (s p w v u : Int32) : RES D E d n a p w (m_X5_readRoad (tx D (nI a) s 0 p) d) (m_X8_readsRoad (rx E (nI a) w v u)) := by
  have hd1 : d ≠ 1 := by omega
  have ne : (61 : Nat) ≠ 58 := by decide
  have ht2 : D d 2 = nI t := hR.2.2.1
  have he2 : E 61 2 = nI t := hR.2.2.2.1
  have ht8 : t ≤ 8 := hR.2.2.2.2.1
  have ht3 : D d 3 = nI r := hR.2.2.2.2.2.1
  have he3 : E 61 3 = nI r := hR.2.2.2.2.2.2.1
  have hAB := DR_AB hR
  obtain ⟨a1, l1, l2, q1⟩ := num_E h a ha s p w v u (nI 0) (nI t - nI 1)
  rcases q1 with ⟨x1, b1, _, c1, e1, g1, g2⟩ | ⟨f, q, xs, xv, xu, hf, c1, e1⟩
  · obtain ⟨x, hx, rfl⟩ := num_bd g1 g2 ht8
    obtain ⟨a2, l3, l4, q2⟩ := num_E h a1 l2 (nI b1) p w (nI x) (nI b1) (nI 0) (nI t - nI 1)
    rcases q2 with ⟨x2, b2, _, c2, e2, g3, g4⟩ | ⟨f, q, xs, xv, xu, hf, c2, e2⟩
    · obtain ⟨y, hy, rfl⟩ := num_bd g3 g4 ht8
      by_cases hxy : x = y
      · subst hxy
        refine Or.inr ⟨aR D d r (nI x) (nI x), E, nI a2, nI b2, nI 4, b2, nI x, nI b2, by decide +kernel, ?_, ?_, frR, frE.rf⟩
        · simp only [m_X5_readRoad_71, m_X5_readRoad_66, m_X5_readRoad_62, m_X5_readRoad_55, m_X5_readRoad_51, m_X5_readRoad_36, m_X5_readRoad_30, m_X5_readRoad_26, m_X5_readRoad_18, m_X5_readRoad_8, m_X5_readRoad, txo hd1, ht2, c1, c2, if_true, tx5, blame0, end_F (show nI 4 ≠ 0 by decide +kernel), addR_E hd ht3 h12]
        · simp only [m_X8_readsRoad_248, m_X8_readsRoad_236, m_X8_readsRoad_226, m_X8_readsRoad_215, m_X8_readsRoad_203, m_X8_readsRoad_L57_187_b, m_X8_readsRoad_110, m_X8_readsRoad_98, m_X8_readsRoad_88, m_X8_readsRoad_77, m_X8_readsRoad_65, m_X8_readsRoad_L57_49_b, m_X8_readsRoad_40, m_X8_readsRoad_20, m_X8_readsRoad, rxD, r2, he2, e1, if_neg n1ne, rx17, e2, if_true, hasL1 he3 (show r ≤ 12 by omega) (nI a2) w (nI b2) 2000 0 (by omega) (by omega)]
      · have hn : ∀ k, bt (m_X0_neighbours (tx D (nI a2) (nI b2) 0 p) d (nI x) (nI 0)) k = nb (fun j => rl (D (d + 4) j)) (fun j => rl (D (d + 5) j)) x (fun j => !bt (nI 0) j) k r := fun k => nbC0 (by rw [txo hd1]; exact ht3) (by omega) (fun j hj => by
          obtain ⟨i1, i2, i3, i4, i5, i6, i7⟩ := hAB j hj
          rw [txo (show d + 4 ≠ 1 by omega), txo (show d + 5 ≠ 1 by omega)]
          exact ⟨i1, i2, by omega, by omega, i7⟩) (by omega) (nI 0) k
        have hn2 := hn y
        rw [nb_cg (A' := fun j => rl (D (d + 4) j)) (B' := fun j => rl (D (d + 5) j)) (o' := fun _ => true) r (fun j _ => ⟨rfl, rfl, by simp only [b_n0, Bool.not_false]⟩)] at hn2
        have hh := hasL (x := x) (y := y) he3 (show r ≤ 12 by omega) (fun j hj => by
          obtain ⟨i1, i2, i3, i4, i5, i6, i7⟩ := hAB j hj
          exact ⟨i3, i4, by omega, by omega⟩) (by omega) (by omega) (nI a2) w (nI b2) 2000 0 (by omega) (by omega)
        simp only [nb, Bool.false_eq_true, if_false] at hh
        have hxy' : ¬ (nI x = nI y) := fun q => hxy ((neq (by omega) (by omega)).mp q)
        cases hb : nb (fun j => rl (D (d + 4) j)) (fun j => rl (D (d + 5) j)) x (fun _ => true) y r
        · rw [hb] at hn2 hh
          simp only [Bool.false_eq_true, if_false] at hh
          have hz := (b_ask0 (x := m_X0_neighbours (tx D (nI a2) (nI b2) 0 p) d (nI x) (nI 0)) (show y < 32 by omega)).mpr hn2
          obtain ⟨a3, l5, l6, q3⟩ := end_E (show TT D (eR E r x y) n from TT_E (TT_E (TT_E h))) a2 l4 (nI b2) p w (nI y) (nI b2)
          rcases q3 with ⟨c3, e3⟩ | ⟨c3, e3⟩
          · refine Or.inl ⟨aR D d r (nI x) (nI y), eR E r x y, a3, nI b2, nI y, nI b2, t, r + 1, by omega, l6, ?_, ?_, DR_road hd hx hy hxy h12 hR, frR, frE.rf.up.up.up⟩
            · simp only [m_X5_readRoad_71, m_X5_readRoad_66, m_X5_readRoad_62, m_X5_readRoad_55, m_X5_readRoad_51, m_X5_readRoad_36, m_X5_readRoad_30, m_X5_readRoad_26, m_X5_readRoad_18, m_X5_readRoad_8, m_X5_readRoad, txo hd1, ht2, c1, c2, if_neg hxy', hz, if_true, c3, addR_E hd ht3 h12]
            · simp only [m_X8_readsRoad_248, m_X8_readsRoad_236, m_X8_readsRoad_226, m_X8_readsRoad_215, m_X8_readsRoad_203, m_X8_readsRoad_L57_187_b, m_X8_readsRoad_110, m_X8_readsRoad_98, m_X8_readsRoad_88, m_X8_readsRoad_77, m_X8_readsRoad_65, m_X8_readsRoad_L57_49_b, m_X8_readsRoad_40, m_X8_readsRoad_20, m_X8_readsRoad, rxD, r2, he2, e1, if_neg n1ne, rx17, e2, if_neg hxy', hh, e3]
          · refine Or.inr ⟨aR D d r (nI x) (nI y), eR E r x y, nI a3, nI b2, nI 1, a3, nI y, nI b2, by decide +kernel, ?_, ?_, frR, frE.rf.up.up.up⟩
            · simp only [m_X5_readRoad_71, m_X5_readRoad_66, m_X5_readRoad_62, m_X5_readRoad_55, m_X5_readRoad_51, m_X5_readRoad_36, m_X5_readRoad_30, m_X5_readRoad_26, m_X5_readRoad_18, m_X5_readRoad_8, m_X5_readRoad, txo hd1, ht2, c1, c2, if_neg hxy', hz, if_true, c3, addR_E hd ht3 h12]
            · simp only [m_X8_readsRoad_248, m_X8_readsRoad_236, m_X8_readsRoad_226, m_X8_readsRoad_215, m_X8_readsRoad_203, m_X8_readsRoad_L57_187_b, m_X8_readsRoad_110, m_X8_readsRoad_98, m_X8_readsRoad_88, m_X8_readsRoad_77, m_X8_readsRoad_65, m_X8_readsRoad_L57_49_b, m_X8_readsRoad_40, m_X8_readsRoad_20, m_X8_readsRoad, rxD, r2, he2, e1, if_neg n1ne, rx17, e2, if_neg hxy', hh, e3]
        · rw [hb] at hn2 hh
          rw [if_pos (rfl : true = true)] at hh
          have hz : ¬ (((m_X0_neighbours (tx D (nI a2) (nI b2) 0 p) d (nI x) (nI 0)) >>> (nI y &&& 31)) &&& (nI 1) = 0) := fun q => by rw [b_ask0 (by omega), hn2] at q; cases q
          refine Or.inr ⟨aR D d r (nI x) (nI y), E, nI a2, nI b2, nI 4, b2, nI y, nI b2, by decide +kernel, ?_, ?_, frR, frE.rf⟩
          · simp only [m_X5_readRoad_71, m_X5_readRoad_66, m_X5_readRoad_62, m_X5_readRoad_55, m_X5_readRoad_51, m_X5_readRoad_36, m_X5_readRoad_30, m_X5_readRoad_26, m_X5_readRoad_18, m_X5_readRoad_8, m_X5_readRoad, txo hd1, ht2, c1, c2, if_neg hxy', if_neg hz, tx5, blame0, end_F (show nI 4 ≠ 0 by decide +kernel), addR_E hd ht3 h12]
          · simp only [m_X8_readsRoad_248, m_X8_readsRoad_236, m_X8_readsRoad_226, m_X8_readsRoad_215, m_X8_readsRoad_203, m_X8_readsRoad_L57_187_b, m_X8_readsRoad_110, m_X8_readsRoad_98, m_X8_readsRoad_88, m_X8_readsRoad_77, m_X8_readsRoad_65, m_X8_readsRoad_L57_49_b, m_X8_readsRoad_40, m_X8_readsRoad_20, m_X8_readsRoad, rxD, r2, he2, e1, if_neg n1ne, rx17, e2, if_neg hxy', hh]
    · refine Or.inr ⟨aR D d r (nI x) (nI 0), E, nI a2, xs, f, q, xv, xu, hf, ?_, ?_, frR, frE.rf⟩
      · simp only [m_X5_readRoad_71, m_X5_readRoad_66, m_X5_readRoad_62, m_X5_readRoad_55, m_X5_readRoad_51, m_X5_readRoad_36, m_X5_readRoad_30, m_X5_readRoad_26, m_X5_readRoad_18, m_X5_readRoad_8, m_X5_readRoad, txo hd1, ht2, c1, c2, tx5, blame1 hf, end_F hf, addR_E hd ht3 h12, ite_self]
      · simp only [m_X8_readsRoad_248, m_X8_readsRoad_236, m_X8_readsRoad_226, m_X8_readsRoad_215, m_X8_readsRoad_203, m_X8_readsRoad_L57_187_b, m_X8_readsRoad_110, m_X8_readsRoad_98, m_X8_readsRoad_88, m_X8_readsRoad_77, m_X8_readsRoad_65, m_X8_readsRoad_L57_49_b, m_X8_readsRoad_40, m_X8_readsRoad_20, m_X8_readsRoad, rxD, r2, he2, e1, if_neg n1ne, rx17, e2, if_pos n0e]
  · refine Or.inr ⟨aR D d r (nI 0) (nI 0), E, nI a1, xs, f, q, xv, xu, hf, ?_, ?_, frR, frE.rf⟩
    · simp only [m_X5_readRoad_71, m_X5_readRoad_66, m_X5_readRoad_62, m_X5_readRoad_55, m_X5_readRoad_51, m_X5_readRoad_36, m_X5_readRoad_30, m_X5_readRoad_26, m_X5_readRoad_18, m_X5_readRoad_8, m_X5_readRoad, txo hd1, ht2, c1, num_F hf, tx5, blame1 hf, end_F hf, addR_E hd ht3 h12, ite_self]
    · simp only [m_X8_readsRoad_248, m_X8_readsRoad_236, m_X8_readsRoad_226, m_X8_readsRoad_215, m_X8_readsRoad_203, m_X8_readsRoad_L57_187_b, m_X8_readsRoad_110, m_X8_readsRoad_98, m_X8_readsRoad_88, m_X8_readsRoad_77, m_X8_readsRoad_65, m_X8_readsRoad_L57_49_b, m_X8_readsRoad_40, m_X8_readsRoad_20, m_X8_readsRoad, rxD, r2, he2, e1, if_pos n0e]
end RD
