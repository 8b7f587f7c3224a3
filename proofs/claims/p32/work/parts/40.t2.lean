/-! a draft on both sides, the clauses -/
/-- a land's rows on both sides: the class's at role d, the reference's at role e -/
def DR (D E : SS) (d e t r : Nat) : Prop := D d 0 = E e 0 ∧ D d 1 = E e 1 ∧ D d 2 = nI t ∧ E e 2 = nI t ∧ t ≤ 8 ∧ D d 3 = nI r ∧ E e 3 = nI r ∧ r ≤ 12 ∧ (∀ k, k < t → D (d + 1) k = E e (4 + k) ∧ D (d + 2) k = E e (12 + k) ∧ D (d + 3) k = E e (20 + k)) ∧ (∀ k, k < r → ∃ x y, x < t ∧ y < t ∧ x ≠ y ∧ D (d + 4) k = nI x ∧ D (d + 5) k = nI y ∧ E e (28 + k) = nI x ∧ E e (40 + k) = nI y) ∧ (∀ k, bt (D d 4) k = (decide (k < t) && decide (E e (4 + k) < nI 50))) ∧ (∀ k, t ≤ k → k < 8 → E e (12 + k) = nI 0)
def frD (D D' : SS) (d : Nat) : Prop := ∀ i k, (i < d ∨ d + 5 < i) → D' i k = D i k
def frE (E E' : SS) : Prop := ∀ i k, i ≠ 61 → E' i k = E i k
theorem frE.rf {E : SS} : frE E E := fun _ _ _ => rfl
theorem frD.rf {E : SS} {d : Nat} : frD E E d := fun _ _ _ => rfl
theorem frE.up {E E' : SS} {k : Nat} {v : Int32} (h : frE E E') : frE E (st E' 61 k v) := fun i k' hi => (st_ni hi).trans (h i k' hi)
theorem frD.up {D D' : SS} {d i k : Nat} {v : Int32} (h : frD D D' d) (hi : d ≤ i ∧ i ≤ d + 5) : frD D (st D' i k v) d := fun i' k' hq => (st_ni (by omega)).trans (h i' k' hq)
theorem frE.tr {E E' E'' : SS} (h : frE E E') (h' : frE E' E'') : frE E E'' := fun i k hi => (h' i k hi).trans (h i k hi)
theorem frD.tr {E E' E'' : SS} {d : Nat} (h : frD E E' d) (h' : frD E' E'' d) : frD E E'' d := fun i k hi => (h' i k hi).trans (h i k hi)
section CL
variable {D E : SS} {n d t r : Nat}
theorem TT_E {k : Nat} {v : Int32} (h : TT D E n) : TT D (st E 61 k v) n := ⟨h.1, h.2.1, (st_ni (by decide)).trans h.2.2.1, fun j hj => (h.2.2.2 j hj).trans (st_ni (by decide)).symm⟩
theorem TT_fr {D' E' : SS} (hd : d = 46 ∨ d = 52) (h : TT D E n) (hD : frD D D' d) (hE : frE E E') : TT D' E' n := ⟨h.1, (hD 1 1 (by omega)).trans h.2.1, (hE 58 1 (by decide)).trans h.2.2.1, fun j hj => by rw [hD 2 j (by omega), hE 59 j (by decide)]; exact h.2.2.2 j hj⟩
def RES (D E : SS) (d n a : Nat) (p w : Int32) (C : SS) (R : Int32 × SS) : Prop :=
  (∃ D' E' a' s v u t r, a ≤ a' ∧ a' ≤ n ∧ C = tx D' (nI a') s 0 p ∧ R = (nI 1, rx E' (nI a') w v u) ∧ DR D' E' d 61 t r ∧ frD D D' d ∧ frE E E') ∨
  (∃ D' E' xa xs f q xv xu, f ≠ 0 ∧ C = tx D' xa xs f (nI q) ∧ R = (nI 0, rx E' (nI q) f xv xu) ∧ frD D D' d ∧ frE E E')
theorem r0 : rl (nI 0) = 0 := rlN (by omega)
theorem r1 : rl (nI 1) = 1 := rlN (by omega)
theorem r2 : rl (nI 2) = 2 := rlN (by omega)
theorem r3 : rl (nI 3) = 3 := rlN (by omega)
theorem DR_stay (hd : d = 46 ∨ d = 52) {x y : Int32} (h : DR D E d 61 t r) : DR (st (st D d 0 x) d 1 y) (st (st E 61 0 x) 61 1 y) d 61 t r := by
  obtain ⟨h1, h2, h3, h4, h5, h6, h7, h8, h9, h10, h11, h12z⟩ := h
  have e : ∀ k, 2 ≤ k → st (st E 61 0 x) 61 1 y 61 k = E 61 k := fun k hk => (st_nk (by omega)).trans (st_nk (by omega))
  have f : ∀ k, 2 ≤ k → st (st D d 0 x) d 1 y d k = D d k := fun k hk => (st_nk (by omega)).trans (st_nk (by omega))
  have g : ∀ i k, i ≠ d → st (st D d 0 x) d 1 y i k = D i k := fun i k hk => (st_ni hk).trans (st_ni hk)
  refine ⟨?_, ?_, (f 2 (by omega)).trans h3, (e 2 (by omega)).trans h4, h5, (f 3 (by omega)).trans h6, (e 3 (by omega)).trans h7, h8, fun k hk => ?_, fun k hk => ?_, fun k => ?_, fun k hk1 hk2 => ?_⟩
  · rw [st_nk (by omega), st_eq, st_nk (by omega), st_eq]
  · rw [st_eq, st_eq]
  · rw [g _ _ (by omega), g _ _ (by omega), g _ _ (by omega), e _ (by omega), e _ (by omega), e _ (by omega)]; exact h9 k hk
  · rw [g _ _ (by omega), g _ _ (by omega), e _ (by omega), e _ (by omega)]; exact h10 k hk
  · rw [f 4 (by omega), e _ (by omega)]; exact h11 k
  · rw [e _ (by omega)]; exact h12z k hk1 hk2
theorem stay_E (h : TT D E n) (hd : d = 46 ∨ d = 52) (hR : DR D E d 61 t r) {a : Nat} (ha : a ≤ n) (s p w v u : Int32) : RES D E d n a p w (m_X5_readLimits (tx D (nI a) s 0 p) d) (m_X8_readsStay (rx E (nI a) w v u)) := by
  have hd1 : d ≠ 1 := by omega
  obtain ⟨a1, l1, l2, q1⟩ := num_E h a ha s p w v u (nI 1) (nI 4)
  rcases q1 with ⟨x1, b1, _, c1, e1, _, _⟩ | ⟨f, q, xs, xv, xu, hf, c1, e1⟩
  · obtain ⟨a2, l3, l4, q2⟩ := num_E (TT_E (k := 0) (v := x1) h) a1 l2 (nI b1) p w x1 (nI b1) (nI 0) (nI 11)
    rcases q2 with ⟨x2, b2, _, c2, e2, _, _⟩ | ⟨f, q, xs, xv, xu, hf, c2, e2⟩
    · obtain ⟨a3, l5, l6, q3⟩ := end_E (TT_E (k := 1) (v := x2) (TT_E (k := 0) (v := x1) h)) a2 l4 (nI b2) p w x2 (nI b2)
      rcases q3 with ⟨c3, e3⟩ | ⟨c3, e3⟩
      · refine Or.inl ⟨st (st D d 0 x1) d 1 x2, st (st E 61 0 x1) 61 1 x2, a3, nI b2, x2, nI b2, t, r, by omega, l6, ?_, ?_, DR_stay hd hR, (frD.rf.up (by omega)).up (by omega), frE.rf.up.up⟩
        · simp only [m_X5_readLimits_25, m_X5_readLimits_22, m_X5_readLimits_17, m_X5_readLimits_12, m_X5_readLimits_5, m_X5_readLimits, c1, c2, c3, st_txo hd1]
        · simp only [m_X8_readsStay_45, m_X8_readsStay_36, m_X8_readsStay_29, m_X8_readsStay_18, m_X8_readsStay_11, m_X8_readsStay, e1, if_neg n1ne, rx17, r0, r1, st_rxo (show (61 : Nat) ≠ 58 by decide), e2, e3]
      · refine Or.inr ⟨st (st D d 0 x1) d 1 x2, st (st E 61 0 x1) 61 1 x2, nI a3, nI b2, nI 1, a3, x2, nI b2, by decide +kernel, ?_, ?_, (frD.rf.up (by omega)).up (by omega), frE.rf.up.up⟩
        · simp only [m_X5_readLimits_25, m_X5_readLimits_22, m_X5_readLimits_17, m_X5_readLimits_12, m_X5_readLimits_5, m_X5_readLimits, c1, c2, c3, st_txo hd1]
        · simp only [m_X8_readsStay_45, m_X8_readsStay_36, m_X8_readsStay_29, m_X8_readsStay_18, m_X8_readsStay_11, m_X8_readsStay, e1, if_neg n1ne, rx17, r0, r1, st_rxo (show (61 : Nat) ≠ 58 by decide), e2, e3]
    · refine Or.inr ⟨st (st D d 0 x1) d 1 (nI 0), st E 61 0 x1, nI a2, xs, f, q, xv, xu, hf, ?_, ?_, (frD.rf.up (by omega)).up (by omega), frE.rf.up⟩
      · simp only [m_X5_readLimits_25, m_X5_readLimits_22, m_X5_readLimits_17, m_X5_readLimits_12, m_X5_readLimits_5, m_X5_readLimits, c1, c2, end_F hf, st_txo hd1]
      · simp only [m_X8_readsStay_45, m_X8_readsStay_36, m_X8_readsStay_29, m_X8_readsStay_18, m_X8_readsStay_11, m_X8_readsStay, e1, if_neg n1ne, rx17, r0, st_rxo (show (61 : Nat) ≠ 58 by decide), e2, if_pos n0e]
  · refine Or.inr ⟨st (st D d 0 (nI 1)) d 1 (nI 0), E, nI a1, xs, f, q, xv, xu, hf, ?_, ?_, (frD.rf.up (by omega)).up (by omega), frE.rf⟩
    · simp only [m_X5_readLimits_25, m_X5_readLimits_22, m_X5_readLimits_17, m_X5_readLimits_12, m_X5_readLimits_5, m_X5_readLimits, c1, num_F hf, end_F hf, st_txo hd1]
    · simp only [m_X8_readsStay_45, m_X8_readsStay_36, m_X8_readsStay_29, m_X8_readsStay_18, m_X8_readsStay_11, m_X8_readsStay, e1, if_pos n0e]
/-- a town told -/
def aT (D : SS) (d t : Nat) (x y z : Int32) : SS := st (st (st (st (st D (d + 1) t x) (d + 2) t y) (d + 3) t z) d 4 (D d 4 ||| (if nI 50 ≤ x then nI 0 else nI 1 <<< (nI t &&& 31)))) d 2 (nI (t + 1))
theorem addT_E (hd : d = 46 ∨ d = 52) (ht : D d 2 = nI t) (h8 : t < 8) {a s f p x y z : Int32} : m_X0_addTown (tx D a s f p) d x y z = tx (aT D d t x y z) a s f p := by
  have g : ¬ (nI 8 ≤ nI t) := fun q => by rw [nle (by omega) (by omega)] at q; omega
  have hd1 : d ≠ 1 := by omega
  have e1 : d + 1 ≠ 1 := by omega
  have e2 : d + 2 ≠ 1 := by omega
  have e3 : d + 3 ≠ 1 := by omega
  by_cases h5 : nI 50 ≤ x
  · simp only [m_X0_addTown_53, m_X0_addTown_47, m_X0_addTown_37, m_X0_addTown_31, m_X0_addTown_22, m_X0_addTown_16, m_X0_addTown_10, m_X0_addTown, txo hd1, ht, if_neg g, rlN (show t < 2147483648 by omega), st_txo e1, st_txo e2, st_txo e3, st_txo hd1, st_ni (show d ≠ d + 1 by omega), st_ni (show d ≠ d + 2 by omega), st_ni (show d ≠ d + 3 by omega), if_pos h5, st_nk (show 2 ≠ 4 by omega), n1, aT]
  · simp only [m_X0_addTown_53, m_X0_addTown_47, m_X0_addTown_37, m_X0_addTown_31, m_X0_addTown_22, m_X0_addTown_16, m_X0_addTown_10, m_X0_addTown, txo hd1, ht, if_neg g, rlN (show t < 2147483648 by omega), st_txo e1, st_txo e2, st_txo e3, st_txo hd1, st_ni (show d ≠ d + 1 by omega), st_ni (show d ≠ d + 2 by omega), st_ni (show d ≠ d + 3 by omega), if_neg h5, st_nk (show 2 ≠ 4 by omega), n1, aT]
theorem addT_F (hd : d = 46 ∨ d = 52) (ht : D d 2 = nI t) (h8 : t < 8) {a s f p x y z : Int32} : ∃ D', frD D D' d ∧ m_X0_addTown (tx D a s f p) d x y z = tx D' a s f p :=
  ⟨_, ((((frD.rf.up (by omega)).up (by omega)).up (by omega)).up (by omega)).up (by omega), addT_E hd ht h8⟩
theorem lt_of_nle {x y : Int32} (h : ¬ y ≤ x) : x < y := Int32.lt_iff_toInt_lt.mpr (by have : ¬ y.toInt ≤ x.toInt := fun q2 => h (Int32.le_iff_toInt_le.mpr q2); omega)
theorem nlt_of_le {x y : Int32} (h : y ≤ x) : ¬ x < y := fun q2 => by have := Int32.lt_iff_toInt_lt.mp q2; have := Int32.le_iff_toInt_le.mp h; omega
theorem ban5 {x : Int32} {k : Nat} (h8 : t < 8) : bt (if nI 50 ≤ x then nI 0 else nI 1 <<< (nI t &&& 31)) k = (decide (x < nI 50) && decide (k = t)) := by
  by_cases q : nI 50 ≤ x
  · rw [if_pos q, b_n0, decide_eq_false (nlt_of_le q), Bool.false_and]
  · rw [if_neg q, b_one (by omega), decide_eq_true (lt_of_nle q), Bool.true_and]
theorem DR_town (hd : d = 46 ∨ d = 52) {x y z : Int32} (h8 : t < 8) (h : DR D E d 61 t r) : DR (aT D d t x y z) (st (st (st (st E 61 (4 + t) x) 61 (12 + t) y) 61 (20 + t) z) 61 2 (nI (t + 1))) d 61 (t + 1) r := by
  obtain ⟨h1, h2, h3, h4, h5, h6, h7, h8', h9, h10, h11, h12z⟩ := h
  have e : ∀ k, k ≠ 2 → k ≠ 4 + t → k ≠ 12 + t → k ≠ 20 + t → st (st (st (st E 61 (4 + t) x) 61 (12 + t) y) 61 (20 + t) z) 61 2 (nI (t + 1)) 61 k = E 61 k := fun k a b c f => by rw [st_nk a, st_nk f, st_nk c, st_nk b]
  have e4 : st (st (st (st E 61 (4 + t) x) 61 (12 + t) y) 61 (20 + t) z) 61 2 (nI (t + 1)) 61 (4 + t) = x := by rw [st_nk (by omega), st_nk (by omega), st_nk (by omega), st_eq]
  have e5 : st (st (st (st E 61 (4 + t) x) 61 (12 + t) y) 61 (20 + t) z) 61 2 (nI (t + 1)) 61 (12 + t) = y := by rw [st_nk (by omega), st_nk (by omega), st_eq]
  have e6 : st (st (st (st E 61 (4 + t) x) 61 (12 + t) y) 61 (20 + t) z) 61 2 (nI (t + 1)) 61 (20 + t) = z := by rw [st_nk (by omega), st_eq]
  have f : ∀ k, k ≠ 2 → k ≠ 4 → aT D d t x y z d k = D d k := fun k a b => by unfold aT; rw [st_nk a, st_nk b, st_ni (by omega), st_ni (by omega), st_ni (by omega)]
  have g1 : ∀ k, aT D d t x y z (d + 1) k = if k = t then x else D (d + 1) k := fun k => by
    unfold aT; rw [st_ni (by omega), st_ni (by omega), st_ni (by omega), st_ni (by omega)]; unfold st; by_cases q : k = t <;> simp [q]
  have g2 : ∀ k, aT D d t x y z (d + 2) k = if k = t then y else D (d + 2) k := fun k => by
    unfold aT; rw [st_ni (by omega), st_ni (by omega), st_ni (by omega)]; unfold st; by_cases q : k = t <;> simp [q]
  have g3 : ∀ k, aT D d t x y z (d + 3) k = if k = t then z else D (d + 3) k := fun k => by
    unfold aT; rw [st_ni (by omega), st_ni (by omega)]; unfold st; by_cases q : k = t <;> simp [q]
  have g4 : ∀ i k, d + 3 < i → aT D d t x y z i k = D i k := fun i k q => by
    unfold aT; rw [st_ni (by omega), st_ni (by omega), st_ni (by omega), st_ni (by omega), st_ni (by omega)]
  refine ⟨?_, ?_, ?_, st_eq, by omega, ?_, ?_, h8', fun k hk => ?_, fun k hk => ?_, fun k => ?_, fun k hk1 hk2 => ?_⟩
  · rw [f 0 (by omega) (by omega), e 0 (by omega) (by omega) (by omega) (by omega)]; exact h1
  · rw [f 1 (by omega) (by omega), e 1 (by omega) (by omega) (by omega) (by omega)]; exact h2
  · unfold aT; exact st_eq
  · rw [f 3 (by omega) (by omega)]; exact h6
  · rw [e 3 (by omega) (by omega) (by omega) (by omega)]; exact h7
  · rw [g1, g2, g3]
    by_cases q : k = t
    · subst q; rw [if_pos rfl, if_pos rfl, if_pos rfl, e4, e5, e6]; exact ⟨rfl, rfl, rfl⟩
    · rw [if_neg q, if_neg q, if_neg q, e _ (by omega) (by omega) (by omega) (by omega), e _ (by omega) (by omega) (by omega) (by omega), e _ (by omega) (by omega) (by omega) (by omega)]; exact h9 k (by omega)
  · obtain ⟨x', y', i1, i2, i3, i4, i5, i6, i7⟩ := h10 k hk
    refine ⟨x', y', by omega, by omega, i3, ?_, ?_, ?_, ?_⟩
    · rw [g4 _ _ (by omega)]; exact i4
    · rw [g4 _ _ (by omega)]; exact i5
    · rw [e _ (by omega) (by omega) (by omega) (by omega)]; exact i6
    · rw [e _ (by omega) (by omega) (by omega) (by omega)]; exact i7
  · have b4 : aT D d t x y z d 4 = (D d 4 ||| (if nI 50 ≤ x then nI 0 else nI 1 <<< (nI t &&& 31))) := by unfold aT; rw [st_nk (by omega), st_eq]
    rw [b4, b_or, h11 k]
    rw [ban5 h8]
    by_cases q : k = t
    · subst q; rw [e4, decide_eq_false (show ¬ k < k by omega), decide_eq_true (show k < k + 1 by omega), decide_eq_true (rfl : k = k)]; simp
    · rw [decide_eq_false q, Bool.and_false, Bool.or_false]
      by_cases q2 : k < t
      · rw [e _ (by omega) (by omega) (by omega) (by omega), decide_eq_true q2, decide_eq_true (show k < t + 1 by omega)]
      · rw [decide_eq_false q2, decide_eq_false (show ¬ k < t + 1 by omega), Bool.false_and, Bool.false_and]
  · rw [e _ (by omega) (by omega) (by omega) (by omega)]; exact h12z k (by omega) hk2
theorem town_E (h : TT D E n) (hd : d = 46 ∨ d = 52) (hR : DR D E d 61 t r) (h8 : t < 8) {a : Nat} (ha : a ≤ n) (s p w v u : Int32) : RES D E d n a p w (m_X5_readTown (tx D (nI a) s 0 p) d) (m_X8_readsTown (rx E (nI a) w v u)) := by
  have hd1 : d ≠ 1 := by omega
  have hdt : D d 2 = nI t := hR.2.2.1
  have het : E 61 2 = nI t := hR.2.2.2.1
  have k1 : nI 4 + nI t = nI (4 + t) := nI_add _ _
  have k2 : nI 12 + nI t = nI (12 + t) := nI_add _ _
  have k3 : nI 20 + nI t = nI (20 + t) := nI_add _ _
  have j1 : rl (nI (4 + t)) = 4 + t := rlN (by omega)
  have j2 : rl (nI (12 + t)) = 12 + t := rlN (by omega)
  have j3 : rl (nI (20 + t)) = 20 + t := rlN (by omega)
  have ne : (61 : Nat) ≠ 58 := by decide
  obtain ⟨a1, l1, l2, q1⟩ := num_E h a ha s p w v u (nI 0) (nI 999)
  rcases q1 with ⟨x1, b1, _, c1, e1, _, _⟩ | ⟨f, q, xs, xv, xu, hf, c1, e1⟩
  · have h1 := TT_E (k := 4 + t) (v := x1) h
    obtain ⟨a2, l3, l4, q2⟩ := num_E h1 a1 l2 (nI b1) p w x1 (nI b1) (nI 0) (nI 4095)
    rcases q2 with ⟨x2, b2, _, c2, e2, _, _⟩ | ⟨f, q, xs, xv, xu, hf, c2, e2⟩
    · have h2 := TT_E (k := 12 + t) (v := x2) h1
      obtain ⟨a3, l5, l6, q3⟩ := num_E h2 a2 l4 (nI b2) p w x2 (nI b2) (nI 0) (nI 20)
      rcases q3 with ⟨x3, b3, _, c3, e3, _, _⟩ | ⟨f, q, xs, xv, xu, hf, c3, e3⟩
      · have h3 := TT_E (k := 2) (v := nI (t + 1)) (TT_E (k := 20 + t) (v := x3) h2)
        have m2 : st (st (st E 61 (4 + t) x1) 61 (12 + t) x2) 61 (20 + t) x3 61 2 = nI t := by rw [st_nk (by omega), st_nk (by omega), st_nk (by omega)]; exact het
        obtain ⟨a4, l7, l8, q4⟩ := end_E h3 a3 l6 (nI b3) p w x3 (nI b3)
        rcases q4 with ⟨c4, e4⟩ | ⟨c4, e4⟩
        · refine Or.inl ⟨aT D d t x1 x2 x3, (st (st (st (st E 61 (4 + t) x1) 61 (12 + t) x2) 61 (20 + t) x3) 61 2 (nI (t + 1))), a4, nI b3, x3, nI b3, t + 1, r, by omega, l8, ?_, ?_, DR_town hd h8 hR, ((((frD.rf.up (by omega)).up (by omega)).up (by omega)).up (by omega)).up (by omega), frE.rf.up.up.up.up⟩
          · simp only [m_X5_readTown_28, m_X5_readTown_24, m_X5_readTown_19, m_X5_readTown_12, m_X5_readTown_5, m_X5_readTown, c1, c2, c3, c4, addT_E hd hdt h8]
          · simp only [m_X8_readsTown_88, m_X8_readsTown_79, m_X8_readsTown_69, m_X8_readsTown_60, m_X8_readsTown_48, m_X8_readsTown_39, m_X8_readsTown_27, m_X8_readsTown_18, m_X8_readsTown, e1, if_neg n1ne, rx17, rxD, r2, het, k1, k2, k3, j1, j2, j3, st_rxo ne, e2, e3, m2, n1, e4]
        · refine Or.inr ⟨aT D d t x1 x2 x3, (st (st (st (st E 61 (4 + t) x1) 61 (12 + t) x2) 61 (20 + t) x3) 61 2 (nI (t + 1))), nI a4, nI b3, nI 1, a4, x3, nI b3, by decide +kernel, ?_, ?_, ((((frD.rf.up (by omega)).up (by omega)).up (by omega)).up (by omega)).up (by omega), frE.rf.up.up.up.up⟩
          · simp only [m_X5_readTown_28, m_X5_readTown_24, m_X5_readTown_19, m_X5_readTown_12, m_X5_readTown_5, m_X5_readTown, c1, c2, c3, c4, addT_E hd hdt h8]
          · simp only [m_X8_readsTown_88, m_X8_readsTown_79, m_X8_readsTown_69, m_X8_readsTown_60, m_X8_readsTown_48, m_X8_readsTown_39, m_X8_readsTown_27, m_X8_readsTown_18, m_X8_readsTown, e1, if_neg n1ne, rx17, rxD, r2, het, k1, k2, k3, j1, j2, j3, st_rxo ne, e2, e3, m2, n1, e4]
      · refine Or.inr ⟨aT D d t x1 x2 (nI 0), (st (st E 61 (4 + t) x1) 61 (12 + t) x2), nI a3, xs, f, q, xv, xu, hf, ?_, ?_, ((((frD.rf.up (by omega)).up (by omega)).up (by omega)).up (by omega)).up (by omega), frE.rf.up.up⟩
        · simp only [m_X5_readTown_28, m_X5_readTown_24, m_X5_readTown_19, m_X5_readTown_12, m_X5_readTown_5, m_X5_readTown, c1, c2, c3, end_F hf, addT_E hd hdt h8]
        · simp only [m_X8_readsTown_88, m_X8_readsTown_79, m_X8_readsTown_69, m_X8_readsTown_60, m_X8_readsTown_48, m_X8_readsTown_39, m_X8_readsTown_27, m_X8_readsTown_18, m_X8_readsTown, e1, if_neg n1ne, rx17, rxD, r2, het, k1, k2, j1, j2, st_rxo ne, e2, e3, if_pos n0e]
    · refine Or.inr ⟨aT D d t x1 (nI 0) (nI 0), (st E 61 (4 + t) x1), nI a2, xs, f, q, xv, xu, hf, ?_, ?_, ((((frD.rf.up (by omega)).up (by omega)).up (by omega)).up (by omega)).up (by omega), frE.rf.up⟩
      · simp only [m_X5_readTown_28, m_X5_readTown_24, m_X5_readTown_19, m_X5_readTown_12, m_X5_readTown_5, m_X5_readTown, c1, c2, num_F hf, end_F hf, addT_E hd hdt h8]
      · simp only [m_X8_readsTown_88, m_X8_readsTown_79, m_X8_readsTown_69, m_X8_readsTown_60, m_X8_readsTown_48, m_X8_readsTown_39, m_X8_readsTown_27, m_X8_readsTown_18, m_X8_readsTown, e1, if_neg n1ne, rx17, rxD, r2, het, k1, j1, st_rxo ne, e2, if_pos n0e]
  · refine Or.inr ⟨aT D d t (nI 0) (nI 0) (nI 0), E, nI a1, xs, f, q, xv, xu, hf, ?_, ?_, ((((frD.rf.up (by omega)).up (by omega)).up (by omega)).up (by omega)).up (by omega), frE.rf⟩
    · simp only [m_X5_readTown_28, m_X5_readTown_24, m_X5_readTown_19, m_X5_readTown_12, m_X5_readTown_5, m_X5_readTown, c1, num_F hf, end_F hf, addT_E hd hdt h8]
    · simp only [m_X8_readsTown_88, m_X8_readsTown_79, m_X8_readsTown_69, m_X8_readsTown_60, m_X8_readsTown_48, m_X8_readsTown_39, m_X8_readsTown_27, m_X8_readsTown_18, m_X8_readsTown, e1, if_pos n0e]
end CL
