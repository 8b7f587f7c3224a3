/-! told seals: fits, bought -/
section FW
variable {C E : SS}
theorem fits_E (h : RR C E) (hlim : ∃ R, R ≤ 4 ∧ E 60 0 = nI R) (w : Nat → Int64) : (m_X7_fits C).1 = (m_X8_fits (E, w)).1 := by
  have q := (some_E h hlim (-1) w).1
  unfold m_X7_fits m_X8_fits m_X7_fits_7 m_X8_fits_5
  rw [q]
  by_cases z : (m_X8_fitsBut (E, w) (-1)).1 = 0
  · rw [if_pos z, if_pos z]
  · rw [if_neg z, if_neg z]
theorem bg_s (m : Nat) : m_X8_bought_L4_3 (m + 1) = m_X8_bought_L4_3_b (m_X8_bought_L4_3 m) := rfl
theorem bg_L (hlim : ∃ R, R ≤ 4 ∧ E 60 0 = nI R) (hz : ∀ w, (m_X8_fitsBut (E, w) (-1)).1 = 0) (hs : ∀ but w, ∃ w', (m_X8_fitsBut (E, w) but).2 = (E, w')) {q : Nat} (e0 : E 58 11 = nI q) {c : Nat} : ∀ (m : Nat) (u set : Int32) (C' : SS) (w : Nat → Int64), RR C' E → C' 33 0 = nI q → rl (C' 0 11) = c → (m_X6_boughtSeals_L15_11 m C' u set c).1 = (m_X8_bought_L4_3 m (E, w) u set).1 := by
  intro m
  induction m with
  | zero => intro u set C' w _ _ _; rfl
  | succ m ih =>
    intro u set C' w h h1 h2
    rw [show m_X6_boughtSeals_L15_11 (m + 1) = m_X6_boughtSeals_L15_11_b (m_X6_boughtSeals_L15_11 m) from rfl, bg_s]
    unfold m_X6_boughtSeals_L15_11_b m_X8_bought_L4_3_b
    rw [h1, show (E, w).1 58 11 = nI q from e0]
    by_cases g : nI q ≤ u
    · rw [if_pos g, if_pos g]
    · rw [if_neg g, if_neg g]
      obtain ⟨w1, ew1⟩ := hs (-1) w
      obtain ⟨w2, ew2⟩ := hs u w1
      obtain ⟨s1, s2, s3, s4, _⟩ := some_E h hlim u w1
      rw [h2] at s1 s2 s3 s4
      unfold m_X8_bought_14
      rw [if_pos (hz w), ew1, ew2]
      unfold m_X6_boughtSeals_22 m_X8_bought_24
      rw [s1]
      by_cases z : (m_X8_fitsBut (E, w1) u).1 = 0
      · rw [if_pos z, if_pos z, or_nz]; exact ih _ _ _ _ s2 ((s4 0).trans h1) (by rw [s3 11]; exact h2)
      · rw [if_neg z, if_neg z]; exact ih _ _ _ _ s2 ((s4 0).trans h1) (by rw [s3 11]; exact h2)
theorem bought_E (h : RR C E) (hlim : ∃ R, R ≤ 4 ∧ E 60 0 = nI R) (w : Nat → Int64) : (m_X7_bought C).1 = (m_X8_bought (E, w)).1 := by
  obtain ⟨q, a1, a2, a3, a4⟩ := h.2.2.1.1
  obtain ⟨c, T, r, hc, e0, D⟩ := h.2.1.get
  have hA := fun but w => fitsBut_A (E := E) D.2.2.2.2.1 D.2.2.2.1 but w
  have s := some_E h hlim (-1) w
  unfold m_X7_bought m_X8_bought m_X7_bought_6 m_X6_boughtSeals m_X6_boughtSeals_5
  rw [s.1]
  by_cases z : (m_X8_fitsBut (E, w) (-1)).1 = 0
  · rw [if_pos z]
    refine bg_L hlim (fun w' => ?_) (fun but w' => ⟨_, by rw [hA]⟩) a3 2000 (nI 0) (nI 0) _ w s.2.1 ((s.2.2.2.1 0).trans a2) (by rw [s.2.2.1 11])
    rw [hA] at z ⊢; exact z
  · rw [if_neg z, show (2000 : Nat) = 1999 + 1 from rfl, bg_s]
    unfold m_X8_bought_L4_3_b
    by_cases g : (E, w).1 58 11 ≤ nI 0
    · rw [if_pos g]
    · rw [if_neg g]; unfold m_X8_bought_14; rw [if_neg z]
end FW
