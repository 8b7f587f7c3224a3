/-! months: stays, walks, wars, home, undone -/
section MO
variable {C C' E E' : SS}
theorem RR.J (h : RR C E) (hC : ∀ i k, i ≠ 3 → C' i k = C i k) (hE : ∀ i k, i ≠ 62 → E' i k = E i k) (hJ : RJ C' E') : RR C' E' := by
  obtain ⟨a1, a2, a3, a4, a5, a6, a7, a8⟩ := h
  have cF : ∀ i, i ≠ 3 → C' i = C i := fun i hi => funext (fun k => hC i k hi)
  have eF : ∀ i, i ≠ 62 → E' i = E i := fun i hi => funext (fun k => hE i k hi)
  exact ⟨a1.cg (hC _ _ (by decide)) (hC _ _ (by decide)) (cF _ (by decide)) (hE _ _ (by decide)) (hE _ _ (by decide)) (eF _ (by decide)), a2.cg (hC _ _ (by decide)) (hC _ _ (by decide)) (fun i p1 p2 => cF i (by omega)) (eF _ (by decide)), a3.cg (hC _ _ (by decide)) (cF _ (by decide)) (cF _ (by decide)) (hC _ _ (by decide)) (cF _ (by decide)) (hE _ _ (by decide)) (hE _ _ (by decide)) (eF _ (by decide)) (eF _ (by decide)) (hE _ _ (by decide)), a4.cg (cF _ (by decide)) (eF _ (by decide)), hJ, a6.cg (hC _ _ (by decide)) (hE _ _ (by decide)), a7.cg (hC _ _ (by decide)) (cF _ (by decide)) (fun i p1 p2 => cF i (by omega)) (hE _ _ (by decide)) (eF _ (by decide)), a8.cg (cF _ (by decide)) (cF _ (by decide)) (cF _ (by decide)) (cF _ (by decide)) (eF _ (by decide))⟩
theorem RR.here (h : RR C E) {x : Nat} (hx : E 62 0 = nI x) : C 3 0 = nI x := (h.2.2.2.2.1 0 (by omega)).trans hx
theorem stays_E (h : RR C E) {x : Nat} (hx : x < 8) (he : E 62 0 = nI x) : (m_X1_stayMonth C 3 (rl (C 0 11))).1 = (m_X8_stays E).1 ∧ RR (m_X1_stayMonth C 3 (rl (C 0 11))).2 (m_X8_stays E).2 ∧ (m_X8_stays E).2 62 0 = nI x := by
  obtain ⟨c, t, r, hc, e0, D⟩ := h.2.1.get
  have hJ := h.2.2.2.2.1
  have j0 : C 3 0 = nI x := h.here he
  have j1 := hJ 1 (by omega)
  have j2 := hJ 2 (by omega)
  have j3 := hJ 3 (by omega)
  have j4 := hJ 4 (by omega)
  have j5 := hJ 5 (by omega)
  have j6 := hJ 6 (by omega)
  have hc3 : c ≠ 3 := by omega
  obtain ⟨w1, w2⟩ := work_E D hx (E 62 1)
  have k1 : nI 20 + nI x = nI (20 + x) := nI_add _ _
  rw [e0]
  rcases w2 with p | ⟨p, q⟩
  · have g := gain_C D hx (E 62 1)
    rw [p, if_pos n0e] at g
    have e1 : m_X1_stayMonth C 3 c = (nI 0, st (st (st C 3 3 (E 62 3)) 3 2 (E 62 2 + nI 1)) 3 1 (E 62 1 + nI 1)) := by
      simp only [m_X1_stayMonth_60, m_X1_stayMonth_54, m_X1_stayMonth_48, m_X1_stayMonth_42, m_X1_stayMonth_31, m_X1_stayMonth_25, m_X1_stayMonth_19, m_X1_stayMonth, j0, j1, w1, p, if_pos n0e, g, j3, add_nz, st_nk (show 2 ≠ 3 by decide), st_nk (show 1 ≠ 3 by decide), st_nk (show 1 ≠ 2 by decide), j2]
    have e2 : m_X8_stays E = (nI 0, st (st (st (st E 62 3 (E 62 3)) 62 4 (E 62 4)) 62 2 (E 62 2 + nI 1)) 62 1 (E 62 1 + nI 1)) := by
      simp only [m_X8_stays_118, m_X8_stays_108, m_X8_stays_97, m_X8_stays_80, m_X8_stays_65, m_X8_stays_55, m_X8_stays_44, m_X8_stays_29, m_X8_stays, r0, r1, r2, r3, r4, he, p, if_pos n0e, add_nz, st_nk (show 4 ≠ 3 by decide), or_nz, st_nk (show 2 ≠ 4 by decide), st_nk (show 2 ≠ 3 by decide), st_nk (show 1 ≠ 2 by decide), st_nk (show 1 ≠ 4 by decide), st_nk (show 1 ≠ 3 by decide)]
    rw [e1, e2]
    refine ⟨rfl, h.J (fun i k hi => ?_) (fun i k hi => ?_) (fun k hk => ?_), ?_⟩
    · show st (st (st C 3 3 (E 62 3)) 3 2 (E 62 2 + nI 1)) 3 1 (E 62 1 + nI 1) i k = C i k
      rw [st_ni hi, st_ni hi, st_ni hi]
    · show st (st (st (st E 62 3 (E 62 3)) 62 4 (E 62 4)) 62 2 (E 62 2 + nI 1)) 62 1 (E 62 1 + nI 1) i k = E i k
      rw [st_ni hi, st_ni hi, st_ni hi, st_ni hi]
    · rcases (show k = 0 ∨ k = 1 ∨ k = 2 ∨ k = 3 ∨ k = 4 ∨ k = 5 ∨ k = 6 by omega) with rfl | rfl | rfl | rfl | rfl | rfl | rfl <;> simp [st, j0, he, j4, j5, j6]
    · show st (st (st (st E 62 3 (E 62 3)) 62 4 (E 62 4)) 62 2 (E 62 2 + nI 1)) 62 1 (E 62 1 + nI 1) 62 0 = nI x
      rw [st_nk (by decide), st_nk (by decide), st_nk (by decide), st_nk (by decide)]; exact he
  · have g := gain_C D hx (E 62 1)
    rw [p, if_neg n1ne] at g
    have e1 : m_X1_stayMonth C 3 c = (E 60 (20 + x), st (st (st (st C 3 4 (E 62 4 ||| nI 1 <<< (nI x &&& 31))) 3 3 (E 62 3 + E 60 (20 + x))) 3 2 (E 62 2 + nI 1)) 3 1 (E 62 1 + nI 1)) := by
      simp only [m_X1_stayMonth_60, m_X1_stayMonth_54, m_X1_stayMonth_48, m_X1_stayMonth_42, m_X1_stayMonth_31, m_X1_stayMonth_25, m_X1_stayMonth_19, m_X1_stayMonth, j0, j1, w1, p, if_neg n1ne, g, j4, st_nk (show 3 ≠ 4 by decide), j3, st_nk (show 2 ≠ 3 by decide), st_nk (show 2 ≠ 4 by decide), st_nk (show 1 ≠ 3 by decide), st_nk (show 1 ≠ 2 by decide), st_nk (show 1 ≠ 4 by decide), j2]
    have e2 : m_X8_stays E = (E 60 (20 + x), st (st (st (st E 62 3 (E 62 3 + E 60 (20 + x))) 62 4 (E 62 4 ||| nI 1 <<< (nI x &&& 31))) 62 2 (E 62 2 + nI 1)) 62 1 (E 62 1 + nI 1)) := by
      simp only [m_X8_stays_118, m_X8_stays_108, m_X8_stays_97, m_X8_stays_80, m_X8_stays_65, m_X8_stays_55, m_X8_stays_44, m_X8_stays_29, m_X8_stays, r0, r1, r2, r3, r4, he, p, if_neg n1ne, k1, rlN (show 20 + x < 2147483648 by omega), st_nk (show 4 ≠ 3 by decide), st_nk (show 2 ≠ 4 by decide), st_nk (show 2 ≠ 3 by decide), st_nk (show 1 ≠ 2 by decide), st_nk (show 1 ≠ 4 by decide), st_nk (show 1 ≠ 3 by decide), st_ni (show (60 : Nat) ≠ 62 by decide)]
    rw [e1, e2]
    refine ⟨rfl, h.J (fun i k hi => ?_) (fun i k hi => ?_) (fun k hk => ?_), ?_⟩
    · show st (st (st (st C 3 4 (E 62 4 ||| nI 1 <<< (nI x &&& 31))) 3 3 (E 62 3 + E 60 (20 + x))) 3 2 (E 62 2 + nI 1)) 3 1 (E 62 1 + nI 1) i k = C i k
      rw [st_ni hi, st_ni hi, st_ni hi, st_ni hi]
    · show st (st (st (st E 62 3 (E 62 3 + E 60 (20 + x))) 62 4 (E 62 4 ||| nI 1 <<< (nI x &&& 31))) 62 2 (E 62 2 + nI 1)) 62 1 (E 62 1 + nI 1) i k = E i k
      rw [st_ni hi, st_ni hi, st_ni hi, st_ni hi]
    · rcases (show k = 0 ∨ k = 1 ∨ k = 2 ∨ k = 3 ∨ k = 4 ∨ k = 5 ∨ k = 6 by omega) with rfl | rfl | rfl | rfl | rfl | rfl | rfl <;> simp [st, j0, he, j4, j5, j6]
    · show st (st (st (st E 62 3 (E 62 3 + E 60 (20 + x))) 62 4 (E 62 4 ||| nI 1 <<< (nI x &&& 31))) 62 2 (E 62 2 + nI 1)) 62 1 (E 62 1 + nI 1) 62 0 = nI x
      rw [st_nk (by decide), st_nk (by decide), st_nk (by decide), st_nk (by decide)]; exact he
theorem goes_E (h : RR C E) (a : Int32) : RR (m_X1_walkMonth C 3 a) (m_X8_goesTo E a) ∧ m_X8_goesTo E a 62 0 = a := by
  have hJ := h.2.2.2.2.1
  have j1 := hJ 1 (by omega)
  have j3 := hJ 3 (by omega)
  have j4 := hJ 4 (by omega)
  have j5 := hJ 5 (by omega)
  have j6 := hJ 6 (by omega)
  have e1 : m_X1_walkMonth C 3 a = st (st (st C 3 0 a) 3 2 (nI 0)) 3 1 (E 62 1 + nI 1) := by
    simp only [m_X1_walkMonth_12, m_X1_walkMonth_6, m_X1_walkMonth_3, m_X1_walkMonth, st_nk (show 1 ≠ 2 by decide), st_nk (show 1 ≠ 0 by decide), j1]
  have e2 : m_X8_goesTo E a = st (st (st E 62 0 a) 62 2 (nI 0)) 62 1 (E 62 1 + nI 1) := by
    simp only [m_X8_goesTo_17, m_X8_goesTo_8, m_X8_goesTo_4, m_X8_goesTo, r0, r1, r2, st_nk (show 1 ≠ 2 by decide), st_nk (show 1 ≠ 0 by decide)]
  rw [e1, e2]
  refine ⟨h.J (fun i k hi => ?_) (fun i k hi => ?_) (fun k hk => ?_), ?_⟩
  · rw [st_ni hi, st_ni hi, st_ni hi]
  · rw [st_ni hi, st_ni hi, st_ni hi]
  · rcases (show k = 0 ∨ k = 1 ∨ k = 2 ∨ k = 3 ∨ k = 4 ∨ k = 5 ∨ k = 6 by omega) with rfl | rfl | rfl | rfl | rfl | rfl | rfl <;> simp [st, j3, j4, j5, j6]
  · rw [st_nk (by decide), st_nk (by decide), st_eq]
theorem goOn_E (h : RR C E) : m_X7_cannotGoOn C = 0 ↔ ¬ (m_X8_goesOn E = 0) := by
  obtain ⟨c, t, r, hc, e0, D⟩ := h.2.1.get
  have t8 := D.2.2.2.2.1
  unfold m_X7_cannotGoOn m_X8_goesOn
  rw [e0, D.2.2.1, r2, r6, D.2.2.2.1, h.2.2.2.2.1 6 (by omega)]
  by_cases q : t = 0
  · subst q
    rw [if_pos n0e, if_pos (show nI 0 ≤ 0 by decide +kernel)]
    exact ⟨fun p => absurd p n1ne, fun p => absurd n0e p⟩
  · rw [if_neg (show ¬ (nI t = 0) from nI_ne0 (by omega) (by omega)), if_neg (show ¬ (nI t ≤ 0) from nI_nle (by omega) (by omega))]
    by_cases p : E 62 6 = 0
    · rw [if_pos p, if_pos p]; exact ⟨fun _ => n1ne, fun _ => n0e⟩
    · rw [if_neg p, if_neg p]; exact ⟨fun p => absurd p n1ne, fun p => absurd n0e p⟩
theorem mayS_E (h : RR C E) : m_X1_mayStay C 3 (rl (C 0 11)) = m_X8_mayStay E := by
  obtain ⟨c, t, r, hc, e0, D⟩ := h.2.1.get
  unfold m_X1_mayStay m_X8_mayStay
  rw [e0, D.1, r0, r2, h.2.2.2.2.1 2 (by omega)]
theorem keeps62 (h : RR C E) (k : Nat) : m_X8_keeps E 62 k = E 62 k := by
  obtain ⟨q, p1, p2, p3, _⟩ := h.2.2.2.2.2.2.1
  exact keeps_o p1 p3 (by decide) (Or.inl (by decide))
theorem push3 (h : RR C E) {k : Nat} (hk : k < 7) : m_X2_push C 3 3 k = E 62 k := ((push_E h).2.2.2.2.1 k hk).trans (keeps62 h k)
theorem stay_E' (h : RR C E) {x : Nat} (hx : x < 8) (he : E 62 0 = nI x) : (m_X7_stay C).1 = (m_X8_stay E).1 ∧ RR (m_X7_stay C).2 (m_X8_stay E).2 := by
  have hJ := h.2.2.2.2.1
  by_cases g : m_X8_goesOn E = 0
  · have e1 : m_X7_stay C = ((-1000000003 : Int32), C) := by unfold m_X7_stay; rw [if_neg (fun q => (goOn_E h).mp q g)]
    have e2 : m_X8_stay E = ((-1000000003 : Int32), E) := by unfold m_X8_stay; rw [if_pos g]
    rw [e1, e2]; exact ⟨rfl, h⟩
  · by_cases m : m_X8_mayStay E = 0
    · have e1 : m_X7_stay C = ((-1000000003 : Int32), C) := by unfold m_X7_stay; rw [if_pos ((goOn_E h).mpr g), mayS_E h, if_pos m]
      have e2 : m_X8_stay E = ((-1000000003 : Int32), E) := by unfold m_X8_stay; rw [if_neg g, if_pos m]
      rw [e1, e2]; exact ⟨rfl, h⟩
    · by_cases l : E 62 1 ≤ nI 9000
      · obtain ⟨s1, s2, s3⟩ := stays_E (push_E h) hx ((keeps62 h 0).trans he)
        have e1 : m_X7_stay C = m_X1_stayMonth (m_X2_push C 3) 3 (rl (m_X2_push C 3 0 11)) := by
          simp only [m_X7_stay_28, m_X7_stay_21, m_X7_stay, if_pos ((goOn_E h).mpr g), mayS_E h, if_neg m, hJ 1 (by omega), if_pos l, fst_snd]
        have e2 : m_X8_stay E = m_X8_stays (m_X8_keeps E) := by
          simp only [m_X8_stay_40, m_X8_stay_32, m_X8_stay, if_neg g, if_neg m, r1, if_pos l, fst_snd]
        rw [e1, e2]; exact ⟨s1, s2⟩
      · have e1 : m_X7_stay C = ((-1000000004 : Int32), C) := by unfold m_X7_stay; rw [if_pos ((goOn_E h).mpr g), mayS_E h, if_neg m, hJ 1 (by omega), if_neg l]
        have e2 : m_X8_stay E = ((-1000000004 : Int32), E) := by unfold m_X8_stay; rw [if_neg g, if_neg m, r1, if_neg l]
        rw [e1, e2]; exact ⟨rfl, h⟩
theorem walksJ (h : RR C E) {x : Nat} (hx : x < 8) (he : E 62 0 = nI x) : m_X1_walks C 3 (rl (C 0 11)) = m_X8_walks E (nI x) (E 62 5) := by
  obtain ⟨c, t, r, hc, e0, D⟩ := h.2.1.get
  unfold m_X1_walks
  rw [e0, h.here he, h.2.2.2.2.1 5 (by omega)]
  exact walks_E D hx _
theorem walk_E (h : RR C E) {x : Nat} (hx : x < 8) (he : E 62 0 = nI x) (a : Int32) : (m_X7_walk C a).1 = (m_X8_walk E a).1 ∧ RR (m_X7_walk C a).2 (m_X8_walk E a).2 := by
  have hJ := h.2.2.2.2.1
  obtain ⟨c, t, r, hc, e0, D⟩ := h.2.1.get
  have t8 := D.2.2.2.2.1
  by_cases h1 : a.toInt < 0 ∨ (t : Int) ≤ a.toInt
  · have e1 : m_X7_walk C a = ((-1000000001 : Int32), C) := by unfold m_X7_walk; rw [e0, if_pos ((townC D.2.2.1 t8).mpr h1)]
    have e2 : m_X8_walk E a = ((-1000000001 : Int32), E) := by unfold m_X8_walk; rw [if_pos ((townE D.2.2.2.1 t8).mpr h1)]
    rw [e1, e2]; exact ⟨rfl, h⟩
  · have g1 : ¬ (m_X0_hasTown C c a = 0) := fun q => h1 ((townC D.2.2.1 t8).mp q)
    have g2 : ¬ (m_X8_isTown E a = 0) := fun q => h1 ((townE D.2.2.2.1 t8).mp q)
    obtain ⟨y, hy, rfl⟩ := ti_nat h1
    by_cases g : E 62 6 = 0
    · have gg : ¬ (m_X8_goesOn E = 0) := by
        unfold m_X8_goesOn; rw [r2, r6, D.2.2.2.1, if_neg (show ¬ (nI t ≤ 0) from nI_nle (by omega) (by omega)), if_pos g]; exact n1ne
      by_cases w : (m_X8_walks E (nI x) (E 62 5) >>> (nI y &&& 31)) &&& nI 1 = 0
      · have e1 : m_X7_walk C (nI y) = ((-1000000003 : Int32), C) := by unfold m_X7_walk; rw [walksJ h hx he, e0, if_neg g1, hJ 6 (by omega), if_pos g, if_pos w]
        have e2 : m_X8_walk E (nI y) = ((-1000000003 : Int32), E) := by unfold m_X8_walk; rw [if_neg g2, if_neg gg, r0, r5, he, if_pos w]
        rw [e1, e2]; exact ⟨rfl, h⟩
      · by_cases l : E 62 1 ≤ nI 9000
        · obtain ⟨s1, s2⟩ := goes_E (push_E h) (nI y)
          have e1 : m_X7_walk C (nI y) = (m_X1_walkMonth (m_X2_push C 3) 3 (nI y) 3 1, m_X1_walkMonth (m_X2_push C 3) 3 (nI y)) := by
            have wj := walksJ h hx he
            rw [e0] at wj
            simp only [m_X7_walk_34, m_X7_walk_29, m_X7_walk, e0, wj, if_neg g1, hJ 6 (by omega), if_pos g, if_neg w, hJ 1 (by omega), if_pos l]
          have e2 : m_X8_walk E (nI y) = (m_X8_goesTo (m_X8_keeps E) (nI y) 62 1, m_X8_goesTo (m_X8_keeps E) (nI y)) := by
            simp only [m_X8_walk_46, m_X8_walk_43, m_X8_walk, if_neg g2, if_neg gg, r0, r5, he, if_neg w, r1, if_pos l]
          rw [e1, e2]; exact ⟨s1.2.2.2.2.1 1 (by omega), s1⟩
        · have e1 : m_X7_walk C (nI y) = ((-1000000004 : Int32), C) := by unfold m_X7_walk; rw [walksJ h hx he, e0, if_neg g1, hJ 6 (by omega), if_pos g, if_neg w, hJ 1 (by omega), if_neg l]
          have e2 : m_X8_walk E (nI y) = ((-1000000004 : Int32), E) := by unfold m_X8_walk; rw [if_neg g2, if_neg gg, r0, r5, he, if_neg w, r1, if_neg l]
          rw [e1, e2]; exact ⟨rfl, h⟩
    · have gg : m_X8_goesOn E = 0 := by
        unfold m_X8_goesOn; rw [r2, r6, D.2.2.2.1, if_neg (show ¬ (nI t ≤ 0) from nI_nle (by omega) (by omega)), if_neg g]; exact n0e
      have e1 : m_X7_walk C (nI y) = ((-1000000003 : Int32), C) := by unfold m_X7_walk; rw [e0, if_neg g1, hJ 6 (by omega), if_neg g]
      have e2 : m_X8_walk E (nI y) = ((-1000000003 : Int32), E) := by unfold m_X8_walk; rw [if_neg g2, if_pos gg]
      rw [e1, e2]; exact ⟨rfl, h⟩
theorem setJ (h : RR C E) {k : Nat} (hk : k < 7) (v : Int32) : RR (st C 3 k v) (st E 62 k v) := by
  refine h.J (fun i k hi => st_ni hi) (fun i k hi => st_ni hi) (fun j hj => ?_)
  by_cases q : j = k
  · subst q; rw [st_eq, st_eq]
  · rw [st_nk q, st_nk q]; exact h.2.2.2.2.1 j hj
theorem war_E (h : RR C E) (a b : Int32) : (m_X7_war C a b).1 = (m_X8_war E a b).1 ∧ RR (m_X7_war C a b).2 (m_X8_war E a b).2 := by
  have hJ := h.2.2.2.2.1
  obtain ⟨c, t, r, hc, e0, D⟩ := h.2.1.get
  have r12 := D.2.2.2.2.2.2.2.1
  by_cases h1 : a.toInt < 0 ∨ (r : Int) ≤ a.toInt
  · have e1 : m_X7_war C a b = ((-1000000001 : Int32), C) := by unfold m_X7_war; rw [e0, if_pos ((roadC D.2.2.2.2.2.1 r12).mpr h1)]
    have e2 : m_X8_war E a b = ((-1000000001 : Int32), E) := by unfold m_X8_war; rw [if_pos ((roadE D.2.2.2.2.2.2.1 r12).mpr h1)]
    rw [e1, e2]; exact ⟨rfl, h⟩
  · have g1 : ¬ (m_X0_hasRoad C c a = 0) := fun q => h1 ((roadC D.2.2.2.2.2.1 r12).mp q)
    have g2 : ¬ (m_X8_isRoad E a = 0) := fun q => h1 ((roadE D.2.2.2.2.2.2.1 r12).mp q)
    by_cases w : b = 0
    · have e1 : m_X7_war C a b = (E 62 5 >>> (a &&& 31) &&& nI 1, st (m_X2_push C 3) 3 5 (E 62 5 &&& ((nI 1 <<< (a &&& 31)) ^^^ (-1)))) := by
        simp only [m_X7_war_43, m_X7_war_32, m_X7_war_18, m_X7_war, e0, if_neg g1, hJ 5 (by omega), if_pos w, push3 h (show 5 < 7 by omega)]
      have e2 : m_X8_war E a b = (E 62 5 >>> (a &&& 31) &&& nI 1, st (m_X8_keeps E) 62 5 (E 62 5 &&& ((nI 1 <<< (a &&& 31)) ^^^ (-1)))) := by
        simp only [m_X8_war_50, m_X8_war_36, m_X8_war_13, m_X8_war, if_neg g2, if_pos w, r5, keeps62 h]
      rw [e1, e2]; exact ⟨rfl, setJ (push_E h) (by omega) _⟩
    · have e1 : m_X7_war C a b = (E 62 5 >>> (a &&& 31) &&& nI 1, st (m_X2_push C 3) 3 5 (E 62 5 ||| (nI 1 <<< (a &&& 31)))) := by
        simp only [m_X7_war_43, m_X7_war_32, m_X7_war_18, m_X7_war, e0, if_neg g1, hJ 5 (by omega), if_neg w, push3 h (show 5 < 7 by omega)]
      have e2 : m_X8_war E a b = (E 62 5 >>> (a &&& 31) &&& nI 1, st (m_X8_keeps E) 62 5 (E 62 5 ||| (nI 1 <<< (a &&& 31)))) := by
        simp only [m_X8_war_50, m_X8_war_36, m_X8_war_13, m_X8_war, if_neg g2, if_neg w, r5, keeps62 h]
      rw [e1, e2]; exact ⟨rfl, setJ (push_E h) (by omega) _⟩
theorem home_E (h : RR C E) : (m_X7_home C).1 = (m_X8_home E).1 ∧ RR (m_X7_home C).2 (m_X8_home E).2 := by
  have hJ := h.2.2.2.2.1
  by_cases g : m_X8_goesOn E = 0
  · have e1 : m_X7_home C = ((-1000000003 : Int32), C) := by unfold m_X7_home; rw [if_neg (fun q => (goOn_E h).mp q g)]
    have e2 : m_X8_home E = ((-1000000003 : Int32), E) := by unfold m_X8_home; rw [if_pos g]
    rw [e1, e2]; exact ⟨rfl, h⟩
  · by_cases l : nI 36 ≤ E 62 1
    · have e1 : m_X7_home C = (E 62 3, st (m_X2_push C 3) 3 6 (nI 1)) := by
        simp only [m_X7_home_20, m_X7_home_15, m_X7_home, if_pos ((goOn_E h).mpr g), hJ 1 (by omega), if_pos l, st_nk (show 3 ≠ 6 by decide), push3 h (show 3 < 7 by omega)]
      have e2 : m_X8_home E = (E 62 3, st (m_X8_keeps E) 62 6 (nI 1)) := by
        simp only [m_X8_home_26, m_X8_home_22, m_X8_home, if_neg g, r1, if_pos l, r6, r3, st_nk (show 3 ≠ 6 by decide), keeps62 h]
      rw [e1, e2]; exact ⟨rfl, setJ (push_E h) (by omega) _⟩
    · have e1 : m_X7_home C = ((-1000000003 : Int32), C) := by unfold m_X7_home; rw [if_pos ((goOn_E h).mpr g), hJ 1 (by omega), if_neg l]
      have e2 : m_X8_home E = ((-1000000003 : Int32), E) := by unfold m_X8_home; rw [if_neg g, r1, if_neg l]
      rw [e1, e2]; exact ⟨rfl, h⟩
def udN (E : SS) (q n : Nat) : SS := fun i' k' => if i' = 62 ∧ k' < n then E 63 (7 * q + k') else E i' k'
theorem udN_s {E : SS} {q n : Nat} : st (udN E q n) 62 n (E 63 (7 * q + n)) = udN E q (n + 1) := by
  funext i' k'; unfold st udN
  by_cases h1 : i' = 62
  · subst h1
    by_cases h2 : k' = n
    · rw [if_pos ⟨rfl, h2⟩, if_pos ⟨rfl, by omega⟩, h2]
    · rw [if_neg (fun q => h2 q.2)]
      by_cases h3 : k' < n
      · rw [if_pos ⟨rfl, h3⟩, if_pos ⟨rfl, by omega⟩]
      · rw [if_neg (fun q => h3 q.2), if_neg (fun q => by omega)]
  · rw [if_neg (fun q => h1 q.1), if_neg (fun q => h1 q.1), if_neg (fun q => h1 q.1)]
theorem ud_L {q : Nat} (hq : q < 20) (hE : E 58 6 = nI q) : ∀ (m k : Nat), k ≤ 7 → 7 - k < m → m_X8_undo_L22_13 m (udN E q k) (nI k) = (nI q, udN E q 7) := by
  intro m
  induction m with
  | zero => intro k _ h0; exact absurd h0 (Nat.not_lt_zero _)
  | succ m ih =>
    intro k hk hm
    have e6 : udN E q k 58 6 = nI q := by unfold udN; rw [if_neg (fun q => by omega)]; exact hE
    have e2 : udN E q k 63 (7 * q + k) = E 63 (7 * q + k) := by unfold udN; rw [if_neg (fun q => by omega)]
    have k2 : nI 7 * nI q + nI k = nI (7 * q + k) := by rw [pk_mul, nI_add]
    rw [show m_X8_undo_L22_13 (m + 1) = m_X8_undo_L22_13_b (m_X8_undo_L22_13 m) from rfl]
    by_cases h1 : 7 ≤ k
    · have e : k = 7 := by omega
      subst e
      simp only [m_X8_undo_35, m_X8_undo_L22_13_b, m_X8_undo_10, m_X8_undo, if_pos (show nI 7 ≤ nI 7 from (nle (by omega) (by omega)).mpr (by omega)), e6]
    · have g1 : ¬ (nI 7 ≤ nI k) := fun q => h1 ((nle (by omega) (by omega)).mp q)
      simp only [m_X8_undo_35, m_X8_undo_L22_13_b, m_X8_undo_10, m_X8_undo, if_neg g1, e6, k2, rlN (show 7 * q + k < 2147483648 by omega), rlN (show k < 2147483648 by omega), oI1, n1, e2, udN_s]
      exact ih (k + 1) (by omega) (by omega)
theorem undo_E (h : RR C E) : (m_X7_undo C).1 = (m_X8_undo E).1 ∧ RR (m_X7_undo C).2 (m_X8_undo E).2 := by
  have hh := h
  obtain ⟨a1, a2, a3, a4, a5, a6, a7, a8⟩ := h
  obtain ⟨q, p1, p2, p3, p4, p5, p6⟩ := a7
  by_cases hq : q = 0
  · subst hq
    have e1 : m_X7_undo C = ((-1000000003 : Int32), C) := by unfold m_X7_undo; rw [p2, if_pos n0e]
    have e2 : m_X8_undo E = ((-1000000003 : Int32), E) := by unfold m_X8_undo; rw [p3, if_pos n0e]
    rw [e1, e2]; exact ⟨rfl, hh⟩
  · obtain ⟨w, rfl⟩ : ∃ w, q = w + 1 := ⟨q - 1, by omega⟩
    have g0 : ¬ (nI (w + 1) = 0) := nI_ne0 (by omega) (by omega)
    have g1 : ¬ (nI (w + 1) ≤ 0) := nI_nle (by omega) (by omega)
    have k1 : nI (w + 1) - nI 1 = nI w := pk_sub (by omega)
    obtain ⟨j, j1, j2, j3⟩ := p4 w (by omega)
    have hj : rl (C 5 w) = j := by rw [j3]; exact rlN (by omega)
    have e1 : m_X7_undo C = (nI w, m_X1_copy (st C 4 1 (nI w)) 3 j) := by
      simp only [m_X7_undo_7, m_X7_undo, m_X2_pop_19, m_X2_pop_11, m_X2_pop, p2, if_neg g0, if_neg g1, k1, st_eq, rlN (show w < 2147483648 by omega), st_ni (show (5 : Nat) ≠ 4 by decide), hj]
      rw [cpJ _ (by omega), if_neg (fun q => by omega), st_eq]
    have e2 : m_X8_undo E = (nI w, udN (st E 58 6 (nI w)) w 7) := by
      have hx := ud_L (E := st E 58 6 (nI w)) (q := w) (by omega) st_eq 2000 0 (by omega) (by omega)
      rw [show udN (st E 58 6 (nI w)) w 0 = st E 58 6 (nI w) by funext i' k'; unfold udN; rw [if_neg (fun q => by omega)]] at hx
      simp only [m_X8_undo_35, m_X8_undo_L22_13_b, m_X8_undo_10, m_X8_undo, p3, if_neg g0, k1]
      exact hx
    have cO : ∀ i k, i ≠ 3 → (i ≠ 4 ∨ k ≠ 1) → m_X1_copy (st C 4 1 (nI w)) 3 j i k = C i k := fun i k h1 h2 => by
      rw [cpJ _ (by omega), if_neg (fun q => h1 q.1)]; exact if_neg (fun q => by omega)
    have cF : ∀ i, i ≠ 3 → i ≠ 4 → m_X1_copy (st C 4 1 (nI w)) 3 j i = C i := fun i h1 h2 => funext (fun k => cO i k h1 (Or.inl h2))
    have eO : ∀ i k, i ≠ 62 → (i ≠ 58 ∨ k ≠ 6) → udN (st E 58 6 (nI w)) w 7 i k = E i k := fun i k h1 h2 => by
      unfold udN; rw [if_neg (fun q => h1 q.1)]; exact if_neg (fun q => by omega)
    have eF : ∀ i, i ≠ 62 → i ≠ 58 → udN (st E 58 6 (nI w)) w 7 i = E i := fun i h1 h2 => funext (fun k => eO i k h1 (Or.inl h2))
    rw [e1, e2]
    show nI w = nI w ∧ RR (m_X1_copy (st C 4 1 (nI w)) 3 j) (udN (st E 58 6 (nI w)) w 7)
    refine ⟨rfl, a1.cg (cO _ _ (by omega) (by omega)) (cO _ _ (by omega) (by omega)) (cF _ (by omega) (by omega)) (eO _ _ (by decide) (by omega)) (eO _ _ (by decide) (by omega)) (eF _ (by decide) (by decide)), a2.cg (cO _ _ (by omega) (by omega)) (cO _ _ (by omega) (by omega)) (fun i b1 b2 => cF i (by omega) (by omega)) (eF _ (by decide) (by decide)), a3.cg (cO _ _ (by omega) (by omega)) (cF _ (by omega) (by omega)) (cF _ (by omega) (by omega)) (cO _ _ (by omega) (by omega)) (cF _ (by omega) (by omega)) (eO _ _ (by decide) (by omega)) (eO _ _ (by decide) (by omega)) (eF _ (by decide) (by decide)) (eF _ (by decide) (by decide)) (eO _ _ (by decide) (by omega)), a4.cg (cF _ (by omega) (by omega)) (eF _ (by decide) (by decide)), fun k hk => ?_, a6.cg (cO _ _ (by omega) (by omega)) (eO _ _ (by decide) (by omega)), ⟨w, by omega, ?_, ?_, fun i hi => ?_, fun i i' b1 b2 => ?_, fun i hi k hk => ?_⟩, a8.cg (cF _ (by omega) (by omega)) (cF _ (by omega) (by omega)) (cF _ (by omega) (by omega)) (cF _ (by omega) (by omega)) (eF _ (by decide) (by decide))⟩
    · show m_X1_copy (st C 4 1 (nI w)) 3 j 3 k = udN (st E 58 6 (nI w)) w 7 62 k
      rw [cpJ _ (by omega), if_pos ⟨rfl, hk⟩, st_ni (by omega)]
      unfold udN; rw [if_pos ⟨rfl, hk⟩, st_ni (by decide)]
      have := p6 w (by omega) k hk
      rw [hj] at this; exact this
    · show m_X1_copy (st C 4 1 (nI w)) 3 j 4 1 = nI w
      rw [cpJ _ (by omega), if_neg (fun q => by omega), st_eq]
    · show udN (st E 58 6 (nI w)) w 7 58 6 = nI w
      unfold udN; rw [if_neg (fun q => by omega), st_eq]
    · show ∃ j', 6 ≤ j' ∧ j' < 26 ∧ m_X1_copy (st C 4 1 (nI w)) 3 j 5 i = nI j'
      rw [cO 5 i (by decide) (by omega)]; exact p4 i hi
    · show m_X1_copy (st C 4 1 (nI w)) 3 j 5 i = m_X1_copy (st C 4 1 (nI w)) 3 j 5 i' → i = i'
      rw [cO 5 i (by decide) (by omega), cO 5 i' (by decide) (by omega)]; exact p5 i i' b1 b2
    · show m_X1_copy (st C 4 1 (nI w)) 3 j (rl (m_X1_copy (st C 4 1 (nI w)) 3 j 5 i)) k = udN (st E 58 6 (nI w)) w 7 63 (7 * i + k)
      obtain ⟨j', u1, u2, u3⟩ := p4 i (by omega)
      have hj' : rl (C 5 i) = j' := by rw [u3]; exact rlN (by omega)
      rw [cO 5 i (by decide) (by omega), hj', cO j' k (by omega) (by omega), eO 63 _ (by decide) (by omega)]
      have := p6 i (by omega) k hk
      rw [hj'] at this; exact this
end MO
