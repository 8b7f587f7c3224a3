/-! clauses, the whole text -/
section RD
variable {D E : SS} {n d t r : Nat}
theorem w1 : ¬ (nI 108 = nI 116) := by decide +kernel
theorem w2 : ¬ (nI 108 = nI 114) := by decide +kernel
theorem w3 : ¬ (nI 116 = nI 114) := by decide +kernel
theorem w4 : ¬ (nI 116 = nI 108) := by decide +kernel
theorem w5 : ¬ (nI 114 = nI 108) := by decide +kernel
theorem w6 : ¬ (nI 114 = nI 116) := by decide +kernel
theorem n3ne : ¬ (nI 3 = 0) := by decide +kernel
theorem clause_E (h : TT D E n) (hd : d = 46 ∨ d = 52) (hR : DR D E d 61 t r) {a : Nat} (ha : a < n) (s p w v u : Int32) : RES D E d n (a + 1) p w (m_X5_readClause (tx D (nI a) s 0 p) d) (m_X8_readsClause (rx E (nI a) w v u) (D 2 a)) := by
  have hd1 : d ≠ 1 := by omega
  have hd0 : D d 0 = E 61 0 := hR.1
  have ht2 : D d 2 = nI t := hR.2.2.1
  have he2 : E 61 2 = nI t := hR.2.2.2.1
  have ht8 : t ≤ 8 := hR.2.2.2.2.1
  have ht3 : D d 3 = nI r := hR.2.2.2.2.2.1
  have he3 : E 61 3 = nI r := hR.2.2.2.2.2.2.1
  have hr12 : r ≤ 12 := hR.2.2.2.2.2.2.2.1
  have hl : rl (nI a) = a := rlN (by have := h.1; omega)
  have bad : ∀ f : Int32, f ≠ 0 → m_X5_readClause (tx D (nI a) s 0 p) d = tx D (nI a) s f (nI a) → m_X8_readsClause (rx E (nI a) w v u) (D 2 a) = (nI 0, rx E (nI a) f v u) → RES D E d n (a + 1) p w (m_X5_readClause (tx D (nI a) s 0 p) d) (m_X8_readsClause (rx E (nI a) w v u) (D 2 a)) := fun f hf h1 h2 => Or.inr ⟨D, E, nI a, s, f, a, v, u, hf, h1, h2, frD.rf, frE.rf⟩
  by_cases e0 : E 61 0 = 0
  · by_cases c1 : D 2 a = nI 108
    · have e1 : m_X5_readClause (tx D (nI a) s 0 p) d = m_X5_readLimits (tx D (nI (a + 1)) s 0 p) d := by
        simp only [m_X5_readClause_41, m_X5_readClause_35, m_X5_readClause_30, m_X5_readClause_25, m_X5_readClause_18, m_X5_readClause, m_X5_faultOfWord, tx4, txL, hl, txo hd1, hd0, e0, c1, if_true, if_pos n0e, n1, st_tx4]
      have e2 : m_X8_readsClause (rx E (nI a) w v u) (D 2 a) = m_X8_readsStay (rx E (nI (a + 1)) w v u) := by
        simp only [m_X8_readsClause_390, m_X8_readsClause_372, m_X8_readsClause_358, m_X8_readsClause_338, m_X8_readsClause_326, m_X8_readsClause_316, m_X8_readsClause_301, m_X8_readsClause_291, m_X8_readsClause_280, m_X8_readsClause_262, m_X8_readsClause_250, m_X8_readsClause_240, m_X8_readsClause_225, m_X8_readsClause_215, m_X8_readsClause_193, m_X8_readsClause_181, m_X8_readsClause_167, m_X8_readsClause_140, m_X8_readsClause_126, m_X8_readsClause_114, m_X8_readsClause_100, m_X8_readsClause_85, m_X8_readsClause_71, m_X8_readsClause_60, m_X8_readsClause_30, m_X8_readsClause, rxD, r0, e0, c1, if_true, if_neg w1, if_neg w2, rx14, n1, st_rx14, fst_snd]
      rw [e1, e2]
      exact stay_E h hd hR (by omega) s p w v u
    · refine bad (nI 1) n1ne ?_ ?_
      · simp only [m_X5_readClause_41, m_X5_readClause_35, m_X5_readClause_30, m_X5_readClause_25, m_X5_readClause_18, m_X5_readClause, m_X5_faultOfWord, tx4, txL, hl, txo hd1, hd0, e0, if_true, if_neg c1, if_neg n1ne, blame0]
      · by_cases c2 : D 2 a = nI 116
        · simp only [m_X8_readsClause_390, m_X8_readsClause_372, m_X8_readsClause_358, m_X8_readsClause_338, m_X8_readsClause_326, m_X8_readsClause_316, m_X8_readsClause_301, m_X8_readsClause_291, m_X8_readsClause_280, m_X8_readsClause_262, m_X8_readsClause_250, m_X8_readsClause_240, m_X8_readsClause_225, m_X8_readsClause_215, m_X8_readsClause_193, m_X8_readsClause_181, m_X8_readsClause_167, m_X8_readsClause_140, m_X8_readsClause_126, m_X8_readsClause_114, m_X8_readsClause_100, m_X8_readsClause_85, m_X8_readsClause_71, m_X8_readsClause_60, m_X8_readsClause_30, m_X8_readsClause, rxD, r0, e0, c2, if_true, if_neg w4, rx14, wrongE]
        · by_cases c3 : D 2 a = nI 114
          · simp only [m_X8_readsClause_390, m_X8_readsClause_372, m_X8_readsClause_358, m_X8_readsClause_338, m_X8_readsClause_326, m_X8_readsClause_316, m_X8_readsClause_301, m_X8_readsClause_291, m_X8_readsClause_280, m_X8_readsClause_262, m_X8_readsClause_250, m_X8_readsClause_240, m_X8_readsClause_225, m_X8_readsClause_215, m_X8_readsClause_193, m_X8_readsClause_181, m_X8_readsClause_167, m_X8_readsClause_140, m_X8_readsClause_126, m_X8_readsClause_114, m_X8_readsClause_100, m_X8_readsClause_85, m_X8_readsClause_71, m_X8_readsClause_60, m_X8_readsClause_30, m_X8_readsClause, rxD, r0, e0, c3, if_true, if_neg w5, if_neg w6, rx14, wrongE]
          · simp only [m_X8_readsClause_390, m_X8_readsClause_372, m_X8_readsClause_358, m_X8_readsClause_338, m_X8_readsClause_326, m_X8_readsClause_316, m_X8_readsClause_301, m_X8_readsClause_291, m_X8_readsClause_280, m_X8_readsClause_262, m_X8_readsClause_250, m_X8_readsClause_240, m_X8_readsClause_225, m_X8_readsClause_215, m_X8_readsClause_193, m_X8_readsClause_181, m_X8_readsClause_167, m_X8_readsClause_140, m_X8_readsClause_126, m_X8_readsClause_114, m_X8_readsClause_100, m_X8_readsClause_85, m_X8_readsClause_71, m_X8_readsClause_60, m_X8_readsClause_30, m_X8_readsClause, rxD, r0, e0, if_true, if_neg c1, if_neg c2, if_neg c3, rx14, wrongE]
  · by_cases c1 : D 2 a = nI 108
    · refine bad (nI 3) n3ne ?_ ?_
      · simp only [m_X5_readClause_41, m_X5_readClause_35, m_X5_readClause_30, m_X5_readClause_25, m_X5_readClause_18, m_X5_readClause, m_X5_faultOfWord, tx4, txL, hl, txo hd1, hd0, if_neg e0, c1, if_true, if_neg n3ne, blame0]
      · simp only [m_X8_readsClause_390, m_X8_readsClause_372, m_X8_readsClause_358, m_X8_readsClause_338, m_X8_readsClause_326, m_X8_readsClause_316, m_X8_readsClause_301, m_X8_readsClause_291, m_X8_readsClause_280, m_X8_readsClause_262, m_X8_readsClause_250, m_X8_readsClause_240, m_X8_readsClause_225, m_X8_readsClause_215, m_X8_readsClause_193, m_X8_readsClause_181, m_X8_readsClause_167, m_X8_readsClause_140, m_X8_readsClause_126, m_X8_readsClause_114, m_X8_readsClause_100, m_X8_readsClause_85, m_X8_readsClause_71, m_X8_readsClause_60, m_X8_readsClause_30, m_X8_readsClause, rxD, r0, if_neg e0, c1, if_true, rx14, wrongE]
    · by_cases c2 : D 2 a = nI 116
      · by_cases h8 : t = 8
        · refine bad (nI 3) n3ne ?_ ?_
          · simp only [m_X5_readClause_41, m_X5_readClause_35, m_X5_readClause_30, m_X5_readClause_25, m_X5_readClause_18, m_X5_readClause, m_X5_faultOfWord, tx4, txL, hl, txo hd1, hd0, if_neg e0, c2, if_neg w4, if_true, ht2, if_pos (show nI 8 ≤ nI t from (nle (by omega) (by omega)).mpr (by omega)), if_neg n3ne, blame0]
          · simp only [m_X8_readsClause_390, m_X8_readsClause_372, m_X8_readsClause_358, m_X8_readsClause_338, m_X8_readsClause_326, m_X8_readsClause_316, m_X8_readsClause_301, m_X8_readsClause_291, m_X8_readsClause_280, m_X8_readsClause_262, m_X8_readsClause_250, m_X8_readsClause_240, m_X8_readsClause_225, m_X8_readsClause_215, m_X8_readsClause_193, m_X8_readsClause_181, m_X8_readsClause_167, m_X8_readsClause_140, m_X8_readsClause_126, m_X8_readsClause_114, m_X8_readsClause_100, m_X8_readsClause_85, m_X8_readsClause_71, m_X8_readsClause_60, m_X8_readsClause_30, m_X8_readsClause, rxD, r0, r2, if_neg e0, c2, if_neg w4, if_true, he2, if_pos (show nI t = nI 8 by rw [h8]), rx14, wrongE]
        · have g1 : ¬ (nI 8 ≤ nI t) := fun q => by rw [nle (by omega) (by omega)] at q; omega
          have g2 : ¬ (nI t = nI 8) := fun q => h8 ((neq (by omega) (by omega)).mp q)
          have e1 : m_X5_readClause (tx D (nI a) s 0 p) d = m_X5_readTown (tx D (nI (a + 1)) s 0 p) d := by
            simp only [m_X5_readClause_41, m_X5_readClause_35, m_X5_readClause_30, m_X5_readClause_25, m_X5_readClause_18, m_X5_readClause, m_X5_faultOfWord, tx4, txL, hl, txo hd1, hd0, if_neg e0, c2, if_neg w4, if_true, ht2, if_neg g1, if_pos n0e, n1, st_tx4]
          have e2 : m_X8_readsClause (rx E (nI a) w v u) (D 2 a) = m_X8_readsTown (rx E (nI (a + 1)) w v u) := by
            simp only [m_X8_readsClause_390, m_X8_readsClause_372, m_X8_readsClause_358, m_X8_readsClause_338, m_X8_readsClause_326, m_X8_readsClause_316, m_X8_readsClause_301, m_X8_readsClause_291, m_X8_readsClause_280, m_X8_readsClause_262, m_X8_readsClause_250, m_X8_readsClause_240, m_X8_readsClause_225, m_X8_readsClause_215, m_X8_readsClause_193, m_X8_readsClause_181, m_X8_readsClause_167, m_X8_readsClause_140, m_X8_readsClause_126, m_X8_readsClause_114, m_X8_readsClause_100, m_X8_readsClause_85, m_X8_readsClause_71, m_X8_readsClause_60, m_X8_readsClause_30, m_X8_readsClause, rxD, r0, r2, if_neg e0, c2, if_neg w4, if_neg w3, if_true, he2, if_neg g2, rx14, n1, st_rx14, fst_snd]
          rw [e1, e2]
          exact town_E h hd hR (by omega) (by omega) s p w v u
      · by_cases c3 : D 2 a = nI 114
        · by_cases h12 : r = 12
          · refine bad (nI 3) n3ne ?_ ?_
            · simp only [m_X5_readClause_41, m_X5_readClause_35, m_X5_readClause_30, m_X5_readClause_25, m_X5_readClause_18, m_X5_readClause, m_X5_faultOfWord, tx4, txL, hl, txo hd1, hd0, if_neg e0, c3, if_neg w5, if_neg w6, if_true, ht3, if_pos (show nI 12 ≤ nI r from (nle (by omega) (by omega)).mpr (by omega)), if_neg n3ne, blame0]
            · simp only [m_X8_readsClause_390, m_X8_readsClause_372, m_X8_readsClause_358, m_X8_readsClause_338, m_X8_readsClause_326, m_X8_readsClause_316, m_X8_readsClause_301, m_X8_readsClause_291, m_X8_readsClause_280, m_X8_readsClause_262, m_X8_readsClause_250, m_X8_readsClause_240, m_X8_readsClause_225, m_X8_readsClause_215, m_X8_readsClause_193, m_X8_readsClause_181, m_X8_readsClause_167, m_X8_readsClause_140, m_X8_readsClause_126, m_X8_readsClause_114, m_X8_readsClause_100, m_X8_readsClause_85, m_X8_readsClause_71, m_X8_readsClause_60, m_X8_readsClause_30, m_X8_readsClause, rxD, r0, r3, if_neg e0, c3, if_neg w5, if_neg w6, if_true, he3, if_pos (show nI r = nI 12 by rw [h12]), rx14, wrongE]
          · have g1 : ¬ (nI 12 ≤ nI r) := fun q => by rw [nle (by omega) (by omega)] at q; omega
            have g2 : ¬ (nI r = nI 12) := fun q => h12 ((neq (by omega) (by omega)).mp q)
            have e1 : m_X5_readClause (tx D (nI a) s 0 p) d = m_X5_readRoad (tx D (nI (a + 1)) s 0 p) d := by
              simp only [m_X5_readClause_41, m_X5_readClause_35, m_X5_readClause_30, m_X5_readClause_25, m_X5_readClause_18, m_X5_readClause, m_X5_faultOfWord, tx4, txL, hl, txo hd1, hd0, if_neg e0, c3, if_neg w5, if_neg w6, if_true, ht3, if_neg g1, if_pos n0e, n1, st_tx4]
            have e2 : m_X8_readsClause (rx E (nI a) w v u) (D 2 a) = m_X8_readsRoad (rx E (nI (a + 1)) w v u) := by
              simp only [m_X8_readsClause_390, m_X8_readsClause_372, m_X8_readsClause_358, m_X8_readsClause_338, m_X8_readsClause_326, m_X8_readsClause_316, m_X8_readsClause_301, m_X8_readsClause_291, m_X8_readsClause_280, m_X8_readsClause_262, m_X8_readsClause_250, m_X8_readsClause_240, m_X8_readsClause_225, m_X8_readsClause_215, m_X8_readsClause_193, m_X8_readsClause_181, m_X8_readsClause_167, m_X8_readsClause_140, m_X8_readsClause_126, m_X8_readsClause_114, m_X8_readsClause_100, m_X8_readsClause_85, m_X8_readsClause_71, m_X8_readsClause_60, m_X8_readsClause_30, m_X8_readsClause, rxD, r0, r3, if_neg e0, c3, if_neg w5, if_neg w6, if_true, he3, if_neg g2, rx14, n1, st_rx14, fst_snd]
            rw [e1, e2]
            exact road_E h hd hR (by omega) (by omega) s p w v u
        · refine bad (nI 1) n1ne ?_ ?_
          · simp only [m_X5_readClause_41, m_X5_readClause_35, m_X5_readClause_30, m_X5_readClause_25, m_X5_readClause_18, m_X5_readClause, m_X5_faultOfWord, tx4, txL, hl, txo hd1, hd0, if_neg e0, if_neg c1, if_neg c2, if_neg c3, if_neg n1ne, blame0]
          · simp only [m_X8_readsClause_390, m_X8_readsClause_372, m_X8_readsClause_358, m_X8_readsClause_338, m_X8_readsClause_326, m_X8_readsClause_316, m_X8_readsClause_301, m_X8_readsClause_291, m_X8_readsClause_280, m_X8_readsClause_262, m_X8_readsClause_250, m_X8_readsClause_240, m_X8_readsClause_225, m_X8_readsClause_215, m_X8_readsClause_193, m_X8_readsClause_181, m_X8_readsClause_167, m_X8_readsClause_140, m_X8_readsClause_126, m_X8_readsClause_114, m_X8_readsClause_100, m_X8_readsClause_85, m_X8_readsClause_71, m_X8_readsClause_60, m_X8_readsClause_30, m_X8_readsClause, rxD, r0, if_neg e0, if_neg c1, if_neg c2, if_neg c3, rx14, wrongE]
def FRES (D E : SS) (d : Nat) (p w : Int32) (C : SS) (R : Int32 × SS) : Prop :=
  (∃ D' E' xa xs xb xv xu t r, C = tx (st D' 1 1 (nI 0)) xa xs 0 p ∧ R = (nI 1, rx E' xb w xv xu) ∧ DR D' E' d 61 t r ∧ frD D D' d ∧ frE E E') ∨
  (∃ D' E' xa xs f q xv xu, f ≠ 0 ∧ C = tx (st D' 1 1 (nI 0)) xa xs f (nI q) ∧ R = (nI 0, rx E' (nI q) f xv xu) ∧ frD D D' d ∧ frE E E')
theorem FRES.tr {D1 E1 : SS} {p w : Int32} {C : SS} {R : Int32 × SS} (h1 : frD D D1 d) (h2 : frE E E1) (h : FRES D1 E1 d p w C R) : FRES D E d p w C R := by
  rcases h with ⟨D', E', xa, xs, xb, xv, xu, t, r, q1, q2, q3, q4, q5⟩ | ⟨D', E', xa, xs, f, q, xv, xu, q1, q2, q3, q4, q5⟩
  · exact Or.inl ⟨D', E', xa, xs, xb, xv, xu, t, r, q1, q2, q3, h1.tr q4, h2.tr q5⟩
  · exact Or.inr ⟨D', E', xa, xs, f, q, xv, xu, q1, q2, q3, h1.tr q4, h2.tr q5⟩
theorem into_F {m : Nat} {a s f p i : Int32} (hf : f ≠ 0) : m_X5_readInto_L21_16 (m + 1) (tx D a s f p) i d = tx (st D 1 1 (nI 0)) a s f p := by
  rw [show m_X5_readInto_L21_16 (m + 1) = m_X5_readInto_L21_16_b (m_X5_readInto_L21_16 m) from rfl]
  unfold m_X5_readInto_L21_16_b
  rw [tx2, if_neg hf]
  simp only [m_X5_readInto_53, m_X5_readInto_47, m_X5_readInto_42, m_X5_readInto_32, m_X5_readInto_22, m_X5_readInto_L21_16_b, m_X5_readInto_13, m_X5_readInto_10, m_X5_readInto_7, m_X5_readInto_3, m_X5_readInto, st_tx1, ite_self]
theorem reads_L (hd : d = 46 ∨ d = 52) (p w x : Int32) (k0 : SS → Int32 → Int32 × SS) : ∀ (m : Nat) (D E : SS) (a i t r : Nat) (s v u : Int32), TT D E n → (∀ k, k < n → ¬ D 2 k < 0) → DR D E d 61 t r → i ≤ a → a ≤ n → n - a < m → FRES D E d p w (m_X5_readInto_L21_16 m (tx D (nI a) s 0 p) (nI i) d) (m_X8_reads_L31_13 k0 m (rx E (nI a) w v u) x) := by
  intro m
  induction m with
  | zero => intro D E a i t r s v u _ _ _ _ _ h0; exact absurd h0 (Nat.not_lt_zero _)
  | succ m ih =>
    intro D E a i t r s v u h hp hR hi ha hm
    rw [show m_X5_readInto_L21_16 (m + 1) = m_X5_readInto_L21_16_b (m_X5_readInto_L21_16 m) from rfl, show m_X8_reads_L31_13 k0 (m + 1) = m_X8_reads_L31_13_b k0 (m_X8_reads_L31_13 k0 m) from rfl]
    have hn := h.1
    obtain ⟨a1, q1, q2, q3⟩ := skip_E h s 0 p w v u a ha
    have m1 : (-1 : Int32) < 0 := by decide +kernel
    by_cases h240 : 240 ≤ i
    · rcases q3 with ⟨q3, q4, q5, q6⟩ | ⟨q3, q5, q6⟩
      · omega
      · refine Or.inl ⟨D, E, nI a, s, nI a1, v, u, t, r, ?_, ?_, hR, frD.rf, frE.rf⟩
        · simp only [m_X5_readInto_53, m_X5_readInto_47, m_X5_readInto_42, m_X5_readInto_32, m_X5_readInto_22, m_X5_readInto_L21_16_b, m_X5_readInto_13, m_X5_readInto_10, m_X5_readInto_7, m_X5_readInto_3, m_X5_readInto, if_pos (show nI 240 ≤ nI i from (nle (by omega) (by omega)).mpr h240), st_tx1]
        · simp only [m_X8_reads_56, m_X8_reads_43, m_X8_reads_35, m_X8_reads_23, m_X8_reads_L31_13_b, m_X8_reads_11, m_X8_reads_8, m_X8_reads_L2_2_b, m_X8_reads, q6, if_pos m1]
    · have g1 : ¬ (nI 240 ≤ nI i) := fun q => h240 ((nle (by omega) (by omega)).mp q)
      rcases q3 with ⟨q3, q4, q5, q6⟩ | ⟨q3, q5, q6⟩
      · have e1 : m_X5_readInto_L21_16_b (m_X5_readInto_L21_16 m) (tx D (nI a) s 0 p) (nI i) d = m_X5_readInto_L21_16 m (m_X5_readClause (tx D (nI a1) s 0 p) d) (nI (i + 1)) d := by
          simp only [m_X5_readInto_53, m_X5_readInto_47, m_X5_readInto_42, m_X5_readInto_32, m_X5_readInto_22, m_X5_readInto_L21_16_b, m_X5_readInto_13, m_X5_readInto_10, m_X5_readInto_7, m_X5_readInto_3, m_X5_readInto, if_neg g1, tx2, if_true, q5, if_neg n1ne, oI1, n1]
        have e2 : m_X8_reads_L31_13_b k0 (m_X8_reads_L31_13 k0 m) (rx E (nI a) w v u) x = if (m_X8_readsClause (rx E (nI a1) w v u) (D 2 a1)).1 = 0 then (nI 0, (m_X8_readsClause (rx E (nI a1) w v u) (D 2 a1)).2) else m_X8_reads_L31_13 k0 m (m_X8_readsClause (rx E (nI a1) w v u) (D 2 a1)).2 x := by
          simp only [m_X8_reads_56, m_X8_reads_43, m_X8_reads_35, m_X8_reads_23, m_X8_reads_L31_13_b, m_X8_reads_11, m_X8_reads_8, m_X8_reads_L2_2_b, m_X8_reads, q6, if_neg (hp a1 q3), let_same h w v u q3 q4]
        rw [e1, e2]
        rcases clause_E h hd hR q3 s p w v u with ⟨D', E', a', s', v', u', t', r', l1, l2, z1, z2, z3, z4, z5⟩ | ⟨D', E', xa, xs, f, q, xv, xu, hf, z1, z2, z4, z5⟩
        · rw [z1, z2, if_neg n1ne]
          exact FRES.tr z4 z5 (ih D' E' a' (i + 1) t' r' s' v' u' (TT_fr hd h z4 z5) (fun k hk => by rw [z4 2 k (by omega)]; exact hp k hk) z3 (by omega) l2 (by omega))
        · rw [z1, z2, if_pos n0e]
          obtain ⟨m', rfl⟩ : ∃ m', m = m' + 1 := ⟨m - 1, by omega⟩
          rw [into_F hf]
          exact Or.inr ⟨D', E', xa, xs, f, q, xv, xu, hf, rfl, rfl, z4, z5⟩
      · refine Or.inl ⟨D, E, nI a1, s, nI a1, v, u, t, r, ?_, ?_, hR, frD.rf, frE.rf⟩
        · simp only [m_X5_readInto_53, m_X5_readInto_47, m_X5_readInto_42, m_X5_readInto_32, m_X5_readInto_22, m_X5_readInto_L21_16_b, m_X5_readInto_13, m_X5_readInto_10, m_X5_readInto_7, m_X5_readInto_3, m_X5_readInto, if_neg g1, tx2, if_true, q5, if_pos n0e, st_tx1]
        · simp only [m_X8_reads_56, m_X8_reads_43, m_X8_reads_35, m_X8_reads_23, m_X8_reads_L31_13_b, m_X8_reads_11, m_X8_reads_8, m_X8_reads_L2_2_b, m_X8_reads, q6, if_pos m1]
end RD
theorem tx_eta (σ : SS) : σ = tx σ (σ 1 4) (σ 1 5) (σ 1 2) (σ 1 3) := by
  funext i k; unfold tx
  by_cases h1 : i = 1
  · subst h1
    by_cases h4 : k = 4
    · subst h4; rfl
    · by_cases h5 : k = 5
      · subst h5; rfl
      · by_cases h2 : k = 2
        · subst h2; rfl
        · by_cases h3 : k = 3
          · subst h3; rfl
          · simp [h4, h5, h2, h3]
  · simp [h1]
theorem rx_eta (σ : SS) : σ = rx σ (σ 58 14) (σ 58 15) (σ 58 17) (σ 58 18) := by
  funext i k; unfold rx
  by_cases h1 : i = 58
  · subst h1
    by_cases h4 : k = 14
    · subst h4; rfl
    · by_cases h5 : k = 15
      · subst h5; rfl
      · by_cases h2 : k = 17
        · subst h2; rfl
        · by_cases h3 : k = 18
          · subst h3; rfl
          · simp [h4, h5, h2, h3]
  · simp [h1]
def clD (σ : SS) (d : Nat) : SS := st (st (st (st (st σ d 0 (nI 0)) d 1 (nI 0)) d 2 (nI 0)) d 3 (nI 0)) d 4 (nI 0)
theorem into_E {σ : SS} {d : Nat} (hd : d = 46 ∨ d = 52) : m_X5_readInto σ d = m_X5_readInto_L21_16 2000 (tx (clD σ d) (nI 0) (σ 1 5) 0 (-1)) (nI 0) d := by
  have hd1 : d ≠ 1 := by omega
  have e : m_X0_clear σ d = tx (clD σ d) (σ 1 4) (σ 1 5) (σ 1 2) (σ 1 3) := by
    have e1 : m_X0_clear σ d = clD σ d := by simp only [m_X0_clear_15, m_X0_clear_12, m_X0_clear_9, m_X0_clear_6, m_X0_clear_3, m_X0_clear, clD]
    have c : ∀ k, clD σ d 1 k = σ 1 k := fun k => by unfold clD; rw [st_ni (by omega), st_ni (by omega), st_ni (by omega), st_ni (by omega), st_ni (by omega)]
    have e2 := tx_eta (clD σ d)
    rw [c, c, c, c] at e2
    rw [e1]; exact e2
  simp only [m_X5_readInto_53, m_X5_readInto_47, m_X5_readInto_42, m_X5_readInto_32, m_X5_readInto_22, m_X5_readInto_L21_16_b, m_X5_readInto_13, m_X5_readInto_10, m_X5_readInto_7, m_X5_readInto_3, m_X5_readInto, e, st_tx4, st_tx2, st_tx3]
  rw [n0e]
def zr (τ : SS) : SS := fun i k => if i = 61 ∧ k < 52 then nI 0 else τ i k
theorem zr_st {τ : SS} {k : Nat} (hk : k < 52) : zr (st τ 61 k (nI 0)) = zr τ := by
  funext i j; unfold zr st
  by_cases h1 : i = 61 ∧ j < 52
  · rw [if_pos h1, if_pos h1]
  · rw [if_neg h1, if_neg h1, if_neg (fun q => h1 ⟨q.1, by omega⟩)]
theorem zr_id {τ : SS} (h : ∀ j, j < 52 → τ 61 j = nI 0) : zr τ = τ := by
  funext i j; unfold zr
  by_cases h1 : i = 61 ∧ j < 52
  · rw [if_pos h1, h1.1]; exact (h j h1.2).symm
  · rw [if_neg h1]
theorem zero_L : ∀ (m k : Nat) (τ : SS), k ≤ 52 → 52 - k < m → (∀ j, j < k → τ 61 j = nI 0) → ∃ k0 x, m_X8_reads_L2_2 m τ (nI k) = m_X8_reads_L31_13 k0 2000 (rx (zr τ) (nI 0) (nI 0) (τ 58 17) (τ 58 18)) x := by
  intro m
  induction m with
  | zero => intro k τ _ h0; exact absurd h0 (Nat.not_lt_zero _)
  | succ m ih =>
    intro k τ hk hm hz
    rw [show m_X8_reads_L2_2 (m + 1) = m_X8_reads_L2_2_b (m_X8_reads_L2_2 m) from rfl]
    by_cases h1 : 52 ≤ k
    · refine ⟨m_X8_reads_L2_2 m, nI k, ?_⟩
      have e : k = 52 := by omega
      subst e
      rw [zr_id hz]
      have e2 : st (st τ 58 15 (nI 0)) 58 14 (nI 0) = rx τ (nI 0) (nI 0) (τ 58 17) (τ 58 18) := by
        have := rx_eta τ
        calc st (st τ 58 15 (nI 0)) 58 14 (nI 0) = st (st (rx τ (τ 58 14) (τ 58 15) (τ 58 17) (τ 58 18)) 58 15 (nI 0)) 58 14 (nI 0) := by rw [← this]
          _ = rx τ (nI 0) (nI 0) (τ 58 17) (τ 58 18) := by rw [st_rx15, st_rx14]
      simp only [m_X8_reads_56, m_X8_reads_43, m_X8_reads_35, m_X8_reads_23, m_X8_reads_L31_13_b, m_X8_reads_11, m_X8_reads_8, m_X8_reads_L2_2_b, m_X8_reads, if_pos (show nI 52 ≤ nI 52 from (nle (by omega) (by omega)).mpr (by omega)), e2]
    · have g1 : ¬ (nI 52 ≤ nI k) := fun q => h1 ((nle (by omega) (by omega)).mp q)
      obtain ⟨k0, x, hx⟩ := ih (k + 1) (st τ 61 k (nI 0)) (by omega) (by omega) (fun j hj => by
        by_cases q : j = k
        · subst q; exact st_eq
        · rw [st_nk q]; exact hz j (by omega))
      refine ⟨k0, x, ?_⟩
      rw [zr_st (by omega), st_ni (by decide), st_ni (by decide)] at hx
      simp only [m_X8_reads_56, m_X8_reads_43, m_X8_reads_35, m_X8_reads_23, m_X8_reads_L31_13_b, m_X8_reads_11, m_X8_reads_8, m_X8_reads_L2_2_b, m_X8_reads, if_neg g1, rlN (show k < 2147483648 by omega), oI1, n1]
      exact hx
theorem read_E {σ τ : SS} {d n : Nat} (hd : d = 46 ∨ d = 52) (h : TT σ τ n) (hp : ∀ k, k < n → ¬ σ 2 k < 0) : FRES (clD σ d) (zr τ) d (-1) (nI 0) (m_X5_readInto σ d) (m_X8_reads τ) := by
  obtain ⟨k0, x, hx⟩ := zero_L 2000 0 τ (by omega) (by omega) (fun j hj => absurd hj (Nat.not_lt_zero _))
  have e : m_X8_reads τ = m_X8_reads_L31_13 k0 2000 (rx (zr τ) (nI 0) (nI 0) (τ 58 17) (τ 58 18)) x := hx
  rw [into_E hd, e]
  have c : ∀ i k, i ≠ d → clD σ d i k = σ i k := fun i k hi => by unfold clD; rw [st_ni hi, st_ni hi, st_ni hi, st_ni hi, st_ni hi]
  have z : ∀ i k, i ≠ 61 → zr τ i k = τ i k := fun i k hi => if_neg (fun q => hi q.1)
  have z61 : ∀ k, k < 52 → zr τ 61 k = nI 0 := fun k hk => if_pos ⟨rfl, hk⟩
  refine reads_L hd (-1) (nI 0) x k0 2000 (clD σ d) (zr τ) 0 0 0 0 (σ 1 5) (τ 58 17) (τ 58 18) ⟨h.1, ?_, ?_, fun k hk => ?_⟩ (fun k hk => ?_) ⟨?_, ?_, ?_, ?_, by omega, ?_, ?_, by omega, fun k hk => absurd hk (Nat.not_lt_zero _), fun k hk => absurd hk (Nat.not_lt_zero _), fun k => ?_, fun k _ hk => z61 (12 + k) (by omega)⟩ (by omega) (by omega) (by have := h.1; omega)
  · rw [c _ _ (by omega)]; exact h.2.1
  · rw [z _ _ (by decide)]; exact h.2.2.1
  · rw [c _ _ (by omega), z _ _ (by decide)]; exact h.2.2.2 k hk
  · rw [c _ _ (by omega)]; exact hp k hk
  · rw [z61 0 (by omega)]; unfold clD; rw [st_nk (by omega), st_nk (by omega), st_nk (by omega), st_nk (by omega), st_eq]
  · rw [z61 1 (by omega)]; unfold clD; rw [st_nk (by omega), st_nk (by omega), st_nk (by omega), st_eq]
  · unfold clD; rw [st_nk (by omega), st_nk (by omega), st_eq]
  · exact z61 2 (by omega)
  · unfold clD; rw [st_nk (by omega), st_eq]
  · exact z61 3 (by omega)
  · unfold clD; rw [st_eq, b_n0, decide_eq_false (show ¬ k < 0 by omega), Bool.false_and]
