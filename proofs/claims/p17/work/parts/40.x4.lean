/-! here below the towns, stayed up to the limit: now, in the past, in the images -/
section XE
variable {C E E' : SS}
def SQ (E : SS) : Prop := okv E (E 62 0) (E 62 2) ∧ (∀ j, j < rl (E 58 6) → okv E (E 63 (7 * j)) (E 63 (7 * j + 2))) ∧ ∀ i, i < 2 → E 65 i ≠ 0 → okv E (E 64 (8 * i)) (E 64 (8 * i + 2))
def sqc (i k : Nat) : Prop := (i = 60 ∧ (k = 0 ∨ k = 2)) ∨ (i = 62 ∧ (k = 0 ∨ k = 2)) ∨ (i = 58 ∧ k = 6) ∨ i = 63 ∨ i = 64 ∨ i = 65
theorem okv.cg {a b : Int32} (h : okv E a b) (h0 : E' 60 0 = E 60 0) (h2 : E' 60 2 = E 60 2) : okv E' a b := by
  unfold okv; rw [h0, h2]; exact h
theorem SQ.now (h : SQ E) (hE : ∀ i k, sqc i k → i ≠ 62 → E' i k = E i k) (hv : okv E (E' 62 0) (E' 62 2)) : SQ E' := by
  have e0 := hE 60 0 (by unfold sqc; omega) (by decide)
  have e2 := hE 60 2 (by unfold sqc; omega) (by decide)
  refine ⟨hv.cg e0 e2, fun j hj => ?_, fun i hi hk => ?_⟩
  · rw [hE 58 6 (by unfold sqc; omega) (by decide)] at hj
    rw [hE 63 (7 * j) (by unfold sqc; omega) (by decide), hE 63 (7 * j + 2) (by unfold sqc; omega) (by decide)]
    exact (h.2.1 j hj).cg e0 e2
  · rw [hE 65 i (by unfold sqc; omega) (by decide)] at hk
    rw [hE 64 (8 * i) (by unfold sqc; omega) (by decide), hE 64 (8 * i + 2) (by unfold sqc; omega) (by decide)]
    exact (h.2.2 i hi hk).cg e0 e2
theorem SQ.fr (h : SQ E) (hE : ∀ i k, sqc i k → E' i k = E i k) : SQ E' :=
  h.now (fun i k p _ => hE i k p) (by rw [hE 62 0 (by unfold sqc; omega), hE 62 2 (by unfold sqc; omega)]; exact h.1)
theorem SQ.keeps (h : SQ E) {q : Nat} (hq : q ≤ 20) (h6 : E 58 6 = nI q) : SQ (m_X8_keeps E) := by
  have o : ∀ i k, i ≠ 63 → i ≠ 58 → m_X8_keeps E i k = E i k := fun i k h1 h2 => keeps_o hq h6 h1 (Or.inl h2)
  have e0 := o 60 0 (by decide) (by decide)
  have e2 := o 60 2 (by decide) (by decide)
  obtain ⟨a1, a2, a3⟩ := h
  rw [h6, rlN (show q < 2147483648 by omega)] at a2
  refine ⟨by rw [o 62 0 (by decide) (by decide), o 62 2 (by decide) (by decide)]; exact a1.cg e0 e2, ?_, fun i hi hk => ?_⟩
  · by_cases q20 : q = 20
    · subst q20
      have e63 : ∀ k, m_X8_keeps E 63 k = if 133 ≤ k ∧ k < 140 then E 62 (k - 133) else if k < 133 then E 63 (k + 7) else E 63 k := fun k => by
        rw [keeps_b h6, st_ni (by decide)]
        unfold pkN
        by_cases p : 133 ≤ k ∧ k < 140
        · rw [if_pos ⟨rfl, by omega, by omega⟩, if_pos p, st_ni (by decide)]
          unfold shN; rw [if_neg (fun q => by omega)]
        · rw [if_neg (fun q => by omega), if_neg p, st_ni (by decide)]
          unfold shN
          by_cases p2 : k < 133
          · rw [if_pos ⟨rfl, p2⟩, if_pos p2]
          · rw [if_neg (fun q => p2 q.2), if_neg p2]
      intro j hj
      rw [keeps_b h6, st_eq, rlN (by omega)] at hj
      rw [e63, e63]
      by_cases p : j = 19
      · subst p
        rw [if_pos (by omega), if_pos (by omega)]; exact a1.cg e0 e2
      · rw [if_neg (by omega), if_pos (by omega), if_neg (by omega), if_pos (by omega)]
        have := (a2 (j + 1) (by omega)).cg e0 e2
        rw [show 7 * (j + 1) = 7 * j + 7 by omega, show 7 * j + 7 + 2 = 7 * j + 2 + 7 by omega] at this; exact this
    · have e63 : ∀ k, m_X8_keeps E 63 k = if 7 * q ≤ k ∧ k < 7 * q + 7 then E 62 (k - 7 * q) else E 63 k := fun k => by
        rw [keeps_a (by omega) h6, st_ni (by decide)]
        unfold pkN
        by_cases p : 7 * q ≤ k ∧ k < 7 * q + 7
        · rw [if_pos ⟨rfl, p⟩, if_pos p]
        · rw [if_neg (fun z => p z.2), if_neg p]
      intro j hj
      rw [keeps_a (by omega) h6, st_eq, rlN (by omega)] at hj
      rw [e63, e63]
      by_cases p : j = q
      · subst p
        rw [if_pos (by omega), if_pos (by omega), Nat.sub_self, Nat.add_sub_cancel_left]; exact a1.cg e0 e2
      · rw [if_neg (by omega), if_neg (by omega)]; exact (a2 j (by omega)).cg e0 e2
  · rw [o 65 i (by decide) (by decide)] at hk
    rw [o 64 _ (by decide) (by decide), o 64 _ (by decide) (by decide)]
    exact (a3 i hi hk).cg e0 e2
theorem SQ.keepsR (h : SQ E) (hr : RR C E) : SQ (m_X8_keeps E) := by
  obtain ⟨q, p1, p2, p3, _⟩ := hr.2.2.2.2.2.2.1
  exact h.keeps p1 p3
theorem keepsO (hr : RR C E) {i k : Nat} (h1 : i ≠ 63) (h2 : i ≠ 58) : m_X8_keeps E i k = E i k := by
  obtain ⟨q, p1, p2, p3, _⟩ := hr.2.2.2.2.2.2.1
  exact keeps_o p1 p3 h1 (Or.inl h2)
theorem feed_Q (h : SQ E) (a : Int32) : SQ (m_X8_feed E a).2 := by
  by_cases g0 : m_X8_in E a (nI 0) (nI 255) = 0
  · have e : m_X8_feed E a = ((-1000000002 : Int32), E) := by unfold m_X8_feed; rw [if_pos g0]
    rw [e]; exact h
  · skip
    by_cases g1 : E 58 1 = nI 240
    · have e : m_X8_feed E a = ((-1000000004 : Int32), E) := by unfold m_X8_feed; rw [if_neg g0, if_pos g1]
      rw [e]; exact h
    · skip
      refine h.fr (fun i k p => ?_)
      unfold sqc at p
      simp only [m_X8_feed_24, m_X8_feed_17, m_X8_feed, if_neg g0, if_neg g1, st]
      rw [if_neg (fun q => by omega), if_neg (fun q => by omega)]
theorem seal_Q (h : SQ E) (a : Int32) (b : Int32) : SQ (m_X8_seal E a b).2 := by
  by_cases g0 : m_X8_isTown E a = 0
  · have e : m_X8_seal E a b = ((-1000000001 : Int32), E) := by unfold m_X8_seal; rw [if_pos g0]
    rw [e]; exact h
  · skip
    by_cases g1 : m_X8_in E b (nI 0) (nI 47) = 0
    · have e : m_X8_seal E a b = ((-1000000002 : Int32), E) := by unfold m_X8_seal; rw [if_neg g0, if_pos g1]
      rw [e]; exact h
    · skip
      by_cases g2 : E 58 11 = nI 8
      · have e : m_X8_seal E a b = ((-1000000004 : Int32), E) := by unfold m_X8_seal; rw [if_neg g0, if_neg g1, if_pos g2]
        rw [e]; exact h
      · skip
        refine h.fr (fun i k p => ?_)
        unfold sqc at p
        simp only [m_X8_seal_35, m_X8_seal_28, m_X8_seal, if_neg g0, if_neg g1, if_neg g2, st]
        rw [if_neg (fun q => by omega), if_neg (fun q => by omega)]
theorem write_Q (h : SQ E) (a : Int32) : SQ (m_X8_write E a).2 := by
  by_cases g0 : m_X8_in E a (nI 0) (nI 9999) = 0
  · have e : m_X8_write E a = ((-1000000002 : Int32), E) := by unfold m_X8_write; rw [if_pos g0]
    rw [e]; exact h
  · skip
    by_cases g1 : E 58 13 = nI 15
    · have e : m_X8_write E a = ((-1000000004 : Int32), E) := by unfold m_X8_write; rw [if_neg g0, if_pos g1]
      rw [e]; exact h
    · skip
      refine h.fr (fun i k p => ?_)
      unfold sqc at p
      simp only [m_X8_write_24, m_X8_write_17, m_X8_write, if_neg g0, if_neg g1, st]
      rw [if_neg (fun q => by omega), if_neg (fun q => by omega)]
theorem tear_Q (h : SQ E) : SQ (m_X8_tear E).2 := by
  refine h.fr (fun i k p => ?_)
  unfold sqc at p
  simp only [m_X8_tear_12, m_X8_tear_9, m_X8_tear, st]
  repeat' split
  all_goals first | rfl | (exfalso; omega)
theorem seed_Q (h : SQ E) (a : Int32) : SQ (m_X8_seed E a).2 := by
  by_cases g0 : (0 : Int32) ≤ a
  · refine h.fr (fun i k p => ?_)
    unfold sqc at p
    simp only [m_X8_seed_8, m_X8_seed, if_pos g0, st]
    rw [if_neg (fun q => by omega)]
  · have e : m_X8_seed E a = ((-1000000002 : Int32), E) := by unfold m_X8_seed; rw [if_neg g0]
    rw [e]; exact h
theorem SQ.set (h : SQ E) {k : Nat} (v : Int32) (h0 : k ≠ 0) (h2 : k ≠ 2) : SQ (st E 62 k v) :=
  h.fr (fun i j p => by unfold sqc at p; exact if_neg (fun q => by omega))
theorem war_Q (hr : RR C E) (h : SQ E) (a b : Int32) : SQ (m_X8_war E a b).2 := by
  by_cases g : m_X8_isRoad E a = 0
  · have e : m_X8_war E a b = ((-1000000001 : Int32), E) := by unfold m_X8_war; rw [if_pos g]
    rw [e]; exact h
  · by_cases w : b = 0
    · have e : m_X8_war E a b = (E 62 5 >>> (a &&& 31) &&& nI 1, st (m_X8_keeps E) 62 5 (E 62 5 &&& ((nI 1 <<< (a &&& 31)) ^^^ (-1)))) := by
        simp only [m_X8_war_50, m_X8_war_36, m_X8_war_13, m_X8_war, if_neg g, if_pos w, r5, keeps62 hr]
      rw [e]; exact (h.keepsR hr).set _ (by decide) (by decide)
    · have e : m_X8_war E a b = (E 62 5 >>> (a &&& 31) &&& nI 1, st (m_X8_keeps E) 62 5 (E 62 5 ||| (nI 1 <<< (a &&& 31)))) := by
        simp only [m_X8_war_50, m_X8_war_36, m_X8_war_13, m_X8_war, if_neg g, if_neg w, r5, keeps62 hr]
      rw [e]; exact (h.keepsR hr).set _ (by decide) (by decide)
theorem home_Q (hr : RR C E) (h : SQ E) : SQ (m_X8_home E).2 := by
  by_cases g : m_X8_goesOn E = 0
  · have e : m_X8_home E = ((-1000000003 : Int32), E) := by unfold m_X8_home; rw [if_pos g]
    rw [e]; exact h
  · by_cases l : nI 36 ≤ E 62 1
    · have e : m_X8_home E = (E 62 3, st (m_X8_keeps E) 62 6 (nI 1)) := by
        simp only [m_X8_home_26, m_X8_home_22, m_X8_home, if_neg g, r1, if_pos l, r6, r3, st_nk (show 3 ≠ 6 by decide), keeps62 hr]
      rw [e]; exact (h.keepsR hr).set _ (by decide) (by decide)
    · have e : m_X8_home E = ((-1000000003 : Int32), E) := by unfold m_X8_home; rw [if_neg g, r1, if_neg l]
      rw [e]; exact h
theorem stays_q (E : SS) : (∀ i k, i ≠ 62 → (m_X8_stays E).2 i k = E i k) ∧ (m_X8_stays E).2 62 0 = E 62 0 ∧ (m_X8_stays E).2 62 2 = E 62 2 + nI 1 := by
  simp only [m_X8_stays_118, m_X8_stays_108, m_X8_stays_97, m_X8_stays_80, m_X8_stays_65, m_X8_stays_55, m_X8_stays_44, m_X8_stays_29, m_X8_stays, r0, r1, r2, r3, r4]
  by_cases p : m_X8_hasWork E (E 62 0) (E 62 1) = 0
  · simp only [if_pos p]
    refine ⟨fun i k hi => ?_, ?_, ?_⟩
    · rw [st_ni hi, st_ni hi, st_ni hi, st_ni hi]
    · simp [st]
    · simp [st]
  · simp only [if_neg p]
    refine ⟨fun i k hi => ?_, ?_, ?_⟩
    · rw [st_ni hi, st_ni hi, st_ni hi, st_ni hi]
    · simp [st]
    · simp [st]
theorem goes_q (E : SS) (a : Int32) : (∀ i k, i ≠ 62 → m_X8_goesTo E a i k = E i k) ∧ m_X8_goesTo E a 62 0 = a ∧ m_X8_goesTo E a 62 2 = nI 0 := by
  simp only [m_X8_goesTo_17, m_X8_goesTo_8, m_X8_goesTo_4, m_X8_goesTo, r0, r1, r2]
  refine ⟨fun i k hi => ?_, ?_, ?_⟩
  · rw [st_ni hi, st_ni hi, st_ni hi]
  · simp [st]
  · simp [st]
theorem SQ.stays (h : SQ E) (hy : ∃ x, x ≤ 4 ∧ E 62 2 = nI x) (hl : ∃ x, x ≤ 4 ∧ E 60 0 = nI x) (m : ¬ (m_X8_mayStay E = 0)) : SQ (m_X8_stays E).2 ∧ ∃ x, x ≤ 4 ∧ (m_X8_stays E).2 62 2 = nI x := by
  obtain ⟨q1, q2, q3⟩ := stays_q E
  obtain ⟨s, s4, es⟩ := hy
  obtain ⟨R, R4, eR⟩ := hl
  have lt : s < R := by
    refine Nat.lt_of_not_le (fun z => m ?_)
    unfold m_X8_mayStay
    rw [r0, r2, es, eR, if_pos ((nle (by omega) (by omega)).mpr z)]; exact n0e
  rw [es, n1] at q3
  refine ⟨h.now (fun i k _ hi => q1 i k hi) ?_, s + 1, by omega, q3⟩
  refine ⟨by rw [q2]; exact h.1.1, ?_⟩
  rw [q3, eR, rlN (by omega), rlN (by omega)]; omega
theorem SQ.goes (h : SQ E) {T y : Nat} (hT : T ≤ 8) (h2 : E 60 2 = nI T) (hy : y < T) : SQ (m_X8_goesTo E (nI y)) ∧ m_X8_goesTo E (nI y) 62 2 = nI 0 := by
  obtain ⟨q1, q2, q3⟩ := goes_q E (nI y)
  refine ⟨h.now (fun i k _ hi => q1 i k hi) ⟨?_, ?_⟩, q3⟩
  · rw [q2, h2, rlN (by omega), rlN (by omega)]; exact Or.inr hy
  · rw [q3, r0]; exact Nat.zero_le _
theorem stay_Q (hr : RR C E) (h : SQ E) (hy : ∃ x, x ≤ 4 ∧ E 62 2 = nI x) (hl : ∃ x, x ≤ 4 ∧ E 60 0 = nI x) : SQ (m_X8_stay E).2 := by
  by_cases g : m_X8_goesOn E = 0
  · have e : m_X8_stay E = ((-1000000003 : Int32), E) := by unfold m_X8_stay; rw [if_pos g]
    rw [e]; exact h
  · by_cases m : m_X8_mayStay E = 0
    · have e : m_X8_stay E = ((-1000000003 : Int32), E) := by unfold m_X8_stay; rw [if_neg g, if_pos m]
      rw [e]; exact h
    · by_cases l : E 62 1 ≤ nI 9000
      · have e : m_X8_stay E = m_X8_stays (m_X8_keeps E) := by
          simp only [m_X8_stay_40, m_X8_stay_32, m_X8_stay, if_neg g, if_neg m, r1, if_pos l, fst_snd]
        rw [e]
        have o : ∀ i k, i ≠ 63 → i ≠ 58 → m_X8_keeps E i k = E i k := fun i k h1 h2 => keepsO hr h1 h2
        refine ((h.keepsR hr).stays (by rw [o 62 2 (by decide) (by decide)]; exact hy) (by rw [o 60 0 (by decide) (by decide)]; exact hl) ?_).1
        unfold m_X8_mayStay at m ⊢
        rw [r0, r2] at m ⊢
        rw [o 60 0 (by decide) (by decide), o 62 2 (by decide) (by decide)]; exact m
      · have e : m_X8_stay E = ((-1000000004 : Int32), E) := by unfold m_X8_stay; rw [if_neg g, if_neg m, r1, if_neg l]
        rw [e]; exact h
theorem walk_Q (hr : RR C E) (h : SQ E) (a : Int32) : SQ (m_X8_walk E a).2 := by
  obtain ⟨c, t, r, hc, e0, D⟩ := hr.2.1.get
  have t8 := D.2.2.2.2.1
  by_cases h1 : a.toInt < 0 ∨ (t : Int) ≤ a.toInt
  · have e2 : m_X8_walk E a = ((-1000000001 : Int32), E) := by unfold m_X8_walk; rw [if_pos ((townE D.2.2.2.1 t8).mpr h1)]
    rw [e2]; exact h
  · have g2 : ¬ (m_X8_isTown E a = 0) := fun q => h1 ((townE D.2.2.2.1 t8).mp q)
    obtain ⟨y, hy, rfl⟩ := ti_nat h1
    by_cases g : m_X8_goesOn E = 0
    · have e2 : m_X8_walk E (nI y) = ((-1000000003 : Int32), E) := by unfold m_X8_walk; rw [if_neg g2, if_pos g]
      rw [e2]; exact h
    · by_cases w : (m_X8_walks E (E 62 0) (E 62 5) >>> (nI y &&& 31)) &&& nI 1 = 0
      · have e2 : m_X8_walk E (nI y) = ((-1000000003 : Int32), E) := by unfold m_X8_walk; rw [if_neg g2, if_neg g, r0, r5, if_pos w]
        rw [e2]; exact h
      · by_cases l : E 62 1 ≤ nI 9000
        · have e2 : m_X8_walk E (nI y) = (m_X8_goesTo (m_X8_keeps E) (nI y) 62 1, m_X8_goesTo (m_X8_keeps E) (nI y)) := by
            simp only [m_X8_walk_46, m_X8_walk_43, m_X8_walk, if_neg g2, if_neg g, r0, r5, if_neg w, r1, if_pos l]
          rw [e2]
          exact ((h.keepsR hr).goes t8 ((keepsO hr (by decide) (by decide)).trans D.2.2.2.1) hy).1
        · have e2 : m_X8_walk E (nI y) = ((-1000000004 : Int32), E) := by unfold m_X8_walk; rw [if_neg g2, if_neg g, r0, r5, if_neg w, r1, if_neg l]
          rw [e2]; exact h
theorem fin_Q (hr : RR C E) (h : SQ E) {x : Nat} (hx : x < 8) (he : E 62 0 = nI x) (hy : ∃ x, x ≤ 4 ∧ E 62 2 = nI x) (hl : ∃ x, x ≤ 4 ∧ E 60 0 = nI x) (v : Int32) : SQ (finE' E v) ∧ (∃ x, x ≤ 4 ∧ finE' E v 62 2 = nI x) ∧ finE' E v 60 0 = E 60 0 := by
  obtain ⟨c, t, r, hc, e0, D⟩ := hr.2.1.get
  have t8 := D.2.2.2.2.1
  have go : SQ (if lst (m_X8_walks E (E 62 0) (E 62 5)) 8 (-1) = -1 then E else m_X8_goesTo E (lst (m_X8_walks E (E 62 0) (E 62 5)) 8 (-1))) ∧ (∃ x, x ≤ 4 ∧ (if lst (m_X8_walks E (E 62 0) (E 62 5)) 8 (-1) = -1 then E else m_X8_goesTo E (lst (m_X8_walks E (E 62 0) (E 62 5)) 8 (-1))) 62 2 = nI x) ∧ (if lst (m_X8_walks E (E 62 0) (E 62 5)) 8 (-1) = -1 then E else m_X8_goesTo E (lst (m_X8_walks E (E 62 0) (E 62 5)) 8 (-1))) 60 0 = E 60 0 := by
    rw [he]
    rcases lst_lt (fun k hk => walks_lt D hx (E 62 5) hk) 8 (-1) (Or.inl rfl) with q | ⟨u, hu, q⟩
    · rw [q, if_pos rfl]; exact ⟨h, hy, rfl⟩
    · rw [q, if_neg (nI_nm (by omega))]
      obtain ⟨s1, s2⟩ := h.goes t8 D.2.2.2.1 hu
      exact ⟨s1, ⟨0, by omega, s2⟩, (goes_q E (nI u)).1 60 0 (by decide)⟩
  unfold finE'
  by_cases q : v = 0
  · rw [if_pos q]
    by_cases p : m_X8_mayStay E = 0
    · rw [if_pos p]; exact go
    · rw [if_neg p]
      obtain ⟨s1, s2⟩ := h.stays hy hl p
      exact ⟨s1, s2, (stays_q E).1 60 0 (by decide)⟩
  · rw [if_neg q]; exact go
theorem month_Q (h : RR C E) (hs : SQ E) {x : Nat} (hx : x < 8) (he : E 62 0 = nI x) (hy : ∃ x, x ≤ 4 ∧ E 62 2 = nI x) (hl : ∃ x, x ≤ 4 ∧ E 60 0 = nI x) : SQ (m_X8_drifts E) ∧ (∃ x, x ≤ 4 ∧ m_X8_drifts E 62 2 = nI x) ∧ m_X8_drifts E 60 0 = E 60 0 := by
  obtain ⟨w1, C1, E1, b1, b2, b3, b4, b5, b6⟩ := drawR h (n := 4) (by omega) (by omega)
  have he1 : E1 62 0 = nI x := (b6 62 0 (by omega)).trans he
  have hq1 : SQ E1 := hs.fr (fun i k p => b6 i k (by unfold sqc at p; omega))
  obtain ⟨c, t, r, hc, e0, D⟩ := b4.2.1.get
  have r12 := D.2.2.2.2.2.2.2.1
  obtain ⟨w2, C2, E2, d1, d2, d3, d4, d5, d6⟩ := drawR b4 (n := 2) (by omega) (by omega)
  have he2 : E2 62 0 = nI x := (d6 62 0 (by omega)).trans he1
  have hq2 : SQ E2 := hq1.fr (fun i k p => d6 i k (by unfold sqc at p; omega))
  have f2 : ∀ i k, i ≠ 58 → E2 i k = E i k := fun i k hi => (d6 i k (by omega)).trans (b6 i k (by omega))
  have c2 : ∀ v, SQ (finE' E2 v) ∧ (∃ x, x ≤ 4 ∧ finE' E2 v 62 2 = nI x) ∧ finE' E2 v 60 0 = E 60 0 := fun v => by
    have := fin_Q d4 hq2 hx he2 (by rw [f2 62 2 (by decide)]; exact hy) (by rw [f2 60 0 (by decide)]; exact hl) v
    rw [f2 60 0 (by decide)] at this; exact this
  by_cases q : w1 = 0
  · have hq : nI w1 = 0 := by rw [q]; exact n0e
    by_cases p : r = 0
    · have g2 : E1 60 3 ≤ 0 := by rw [D.2.2.2.2.2.2.1, p]; decide +kernel
      have e2 : m_X8_drifts E = finE' E2 (nI w2) := by
        simp only [m_X8_drifts, m_X8_drifts_9, m_X8_drifts_239, m_X8_drifts_247, b3, if_pos hq, r3, if_pos g2, d3]
        exact (finE_a _ _).2.1
      rw [e2]; exact c2 _
    · have g2 : ¬ (E1 60 3 ≤ 0) := by rw [D.2.2.2.2.2.2.1]; exact nI_nle (by omega) (by omega)
      obtain ⟨w3, C3, E3, f1, f2', f3, f4, f5, f6⟩ := drawR b4 (n := r) (by omega) (by omega)
      have hS := setJ f4 (k := 5) (by omega) (E1 62 5 ^^^ nI 1 <<< (nI w3 &&& 31))
      obtain ⟨w4, C4, E4, m1, m2, m3, m4, m5, m6⟩ := drawR hS (n := 2) (by omega) (by omega)
      have he4 : E4 62 0 = nI x := by rw [m6 62 0 (by omega), st_nk (by decide), f6 62 0 (by omega)]; exact he1
      have f4' : ∀ i k, i ≠ 58 → (i ≠ 62 ∨ k ≠ 5) → E4 i k = E i k := fun i k hi hk => by
        rw [m6 i k (by omega), show st E3 62 5 (E1 62 5 ^^^ nI 1 <<< (nI w3 &&& 31)) i k = E3 i k from if_neg (fun q => by omega), f6 i k (by omega)]; exact b6 i k (by omega)
      have hq4 : SQ E4 := hq1.fr (fun i k p => by
        unfold sqc at p
        rw [m6 i k (by omega), show st E3 62 5 (E1 62 5 ^^^ nI 1 <<< (nI w3 &&& 31)) i k = E3 i k from if_neg (fun q => by omega)]
        exact f6 i k (by omega))
      have e2 : m_X8_drifts E = finE' E4 (nI w4) := by
        simp only [m_X8_drifts, m_X8_drifts_9, m_X8_drifts_239, m_X8_drifts_247, b3, if_pos hq, r3, if_neg g2]
        rw [D.2.2.2.2.2.2.1]
        simp only [f3, r5, m3]
        exact (finE_a _ _).2.2
      have := fin_Q m4 hq4 hx he4 (by rw [f4' 62 2 (by decide) (by decide)]; exact hy) (by rw [f4' 60 0 (by decide) (by decide)]; exact hl) (nI w4)
      rw [f4' 60 0 (by decide) (by decide)] at this
      rw [e2]; exact this
  · have hq : ¬ (nI w1 = 0) := nI_ne0 (by omega) (by omega)
    have e2 : m_X8_drifts E = finE' E2 (nI w2) := by
      simp only [m_X8_drifts, m_X8_drifts_9, m_X8_drifts_239, m_X8_drifts_247, b3, if_neg hq, d3]
      exact (finE_a _ _).1
    rw [e2]; exact c2 _
theorem drift_QL {n : Nat} (hn : n ≤ 40) : ∀ (m k : Nat) (C E : SS) (x : Nat), RR C E → SQ E → x < 8 → E 62 0 = nI x → (∃ x, x ≤ 4 ∧ E 62 2 = nI x) → (∃ x, x ≤ 4 ∧ E 60 0 = nI x) → k ≤ n → n - k < m → SQ (m_X8_drift_L44_31 m E (nI k) (nI n)).2 := by
  intro m
  induction m with
  | zero => intro k C E x _ _ _ _ _ _ _ h0; exact absurd h0 (Nat.not_lt_zero _)
  | succ m ih =>
    intro k C E x h hs hx he hy hl hk hm
    rw [show m_X8_drift_L44_31 (m + 1) = m_X8_drift_L44_31_b (m_X8_drift_L44_31 m) from rfl]
    by_cases h1 : n ≤ k
    · have g := (nle (a := n) (b := k) (by omega) (by omega)).mpr h1
      simp only [m_X8_drift_49, m_X8_drift_L44_31_b, m_X8_drift_28, m_X8_drift, if_pos g]
      exact hs
    · have g : ¬ (nI n ≤ nI k) := fun q => h1 ((nle (by omega) (by omega)).mp q)
      obtain ⟨s1, x', s2, s3⟩ := month_E h hx he
      obtain ⟨t1, t2, t3⟩ := month_Q h hs hx he hy hl
      simp only [m_X8_drift_49, m_X8_drift_L44_31_b, m_X8_drift_28, m_X8_drift, if_neg g, oI1, n1]
      exact ih (k + 1) _ _ x' s1 t1 s2 s3 t2 (by rw [t3]; exact hl) (by omega) (by omega)
theorem drift_Q (h : RR C E) (hs : SQ E) {x : Nat} (hx : x < 8) (he : E 62 0 = nI x) (hy : ∃ x, x ≤ 4 ∧ E 62 2 = nI x) (hl : ∃ x, x ≤ 4 ∧ E 60 0 = nI x) (a : Int32) : SQ (m_X8_drift E a).2 := by
  by_cases h1 : a.toInt < 1 ∨ 40 < a.toInt
  · have e2 : m_X8_drift E a = ((-1000000002 : Int32), E) := by
      unfold m_X8_drift; rw [if_pos (in0.mpr (by rw [nI_toInt (by omega), nI_toInt (by omega)]; omega))]
    rw [e2]; exact hs
  · obtain ⟨n, hn, rfl⟩ := nI_of_le (x := a) (B := 40) (by omega) (by omega)
    have hn1 : 1 ≤ n := by rw [nI_toInt (by omega)] at h1; omega
    have g5 : ¬ (m_X8_in E (nI n) (nI 1) (nI 40) = 0) := fun q => by rw [in0, nI_toInt (by omega), nI_toInt (by omega), nI_toInt (by omega)] at q; omega
    by_cases g : m_X8_goesOn E = 0
    · have e2 : m_X8_drift E (nI n) = ((-1000000003 : Int32), E) := by unfold m_X8_drift; rw [if_neg g5, if_pos g]
      rw [e2]; exact hs
    · by_cases l : E 62 1 ≤ nI 9000
      · have e2 : m_X8_drift E (nI n) = m_X8_drift_L44_31 2000 (m_X8_keeps E) (nI 0) (nI n) := by
          simp only [m_X8_drift_49, m_X8_drift_L44_31_b, m_X8_drift_28, m_X8_drift, if_neg g5, if_neg g, r1, if_pos l]
        rw [e2]
        exact drift_QL hn 2000 0 _ _ x (push_E h) (hs.keepsR h) hx ((keeps62 h 0).trans he) (by rw [keeps62 h]; exact hy) (by rw [keepsO h (show (60 : Nat) ≠ 63 by decide) (by decide)]; exact hl) (by omega) (by omega)
      · have e2 : m_X8_drift E (nI n) = ((-1000000004 : Int32), E) := by unfold m_X8_drift; rw [if_neg g5, if_neg g, r1, if_neg l]
        rw [e2]; exact hs
theorem undo_Q (h : RR C E) (hs : SQ E) : SQ (m_X8_undo E).2 := by
  obtain ⟨q, p1, p2, p3, _⟩ := h.2.2.2.2.2.2.1
  by_cases hq : q = 0
  · subst hq
    have e2 : m_X8_undo E = ((-1000000003 : Int32), E) := by unfold m_X8_undo; rw [p3, if_pos n0e]
    rw [e2]; exact hs
  · obtain ⟨w, rfl⟩ : ∃ w, q = w + 1 := ⟨q - 1, by omega⟩
    have g0 : ¬ (nI (w + 1) = 0) := nI_ne0 (by omega) (by omega)
    have k1 : nI (w + 1) - nI 1 = nI w := pk_sub (by omega)
    have e2 : m_X8_undo E = (nI w, udN (st E 58 6 (nI w)) w 7) := by
      have hx := ud_L (E := st E 58 6 (nI w)) (q := w) (by omega) st_eq 2000 0 (by omega) (by omega)
      rw [show udN (st E 58 6 (nI w)) w 0 = st E 58 6 (nI w) by funext i' k'; unfold udN; rw [if_neg (fun q => by omega)]] at hx
      simp only [m_X8_undo_35, m_X8_undo_L22_13_b, m_X8_undo_10, m_X8_undo, p3, if_neg g0, k1]
      exact hx
    rw [e2]
    show SQ (udN (st E 58 6 (nI w)) w 7)
    have eo : ∀ i k, i ≠ 62 → (i ≠ 58 ∨ k ≠ 6) → udN (st E 58 6 (nI w)) w 7 i k = E i k := fun i k h1 h2 => by
      unfold udN; rw [if_neg (fun q => h1 q.1)]; exact if_neg (fun q => by omega)
    have e62 : ∀ k, k < 7 → udN (st E 58 6 (nI w)) w 7 62 k = E 63 (7 * w + k) := fun k hk => by
      unfold udN; rw [if_pos ⟨rfl, hk⟩, st_ni (by decide)]
    have a2 := hs.2.1
    rw [p3, rlN (by omega)] at a2
    have e0 := eo 60 0 (by decide) (by decide)
    have e2' := eo 60 2 (by decide) (by decide)
    refine ⟨?_, fun j hj => ?_, fun i hi hk => ?_⟩
    · rw [e62 0 (by omega), e62 2 (by omega)]; exact (a2 w (by omega)).cg e0 e2'
    · rw [show udN (st E 58 6 (nI w)) w 7 58 6 = nI w by unfold udN; rw [if_neg (fun q => by omega), st_eq], rlN (by omega)] at hj
      rw [eo 63 _ (by decide) (Or.inl (by decide)), eo 63 _ (by decide) (Or.inl (by decide))]; exact (a2 j (by omega)).cg e0 e2'
    · rw [eo 65 i (by decide) (Or.inl (by decide))] at hk
      rw [eo 64 _ (by decide) (Or.inl (by decide)), eo 64 _ (by decide) (Or.inl (by decide))]; exact (hs.2.2 i hi hk).cg e0 e2'
theorem keep_Q (hs : SQ E) (a : Int32) : SQ (m_X8_keep E a).2 := by
  by_cases h1 : a.toInt < 0 ∨ ((2 : Nat) : Int) ≤ a.toInt
  · have e2 : m_X8_keep E a = ((-1000000001 : Int32), E) := by
      unfold m_X8_keep; rw [if_pos (in0.mpr (by rw [nI_toInt (by omega), nI_toInt (by omega)]; omega))]
    rw [e2]; exact hs
  · obtain ⟨i, hi, rfl⟩ := ti_nat h1
    have g5 : ¬ (m_X8_in E (nI i) (nI 0) (nI 1) = 0) := fun q => by rw [in0, nI_toInt (by omega), nI_toInt (by omega), nI_toInt (by omega)] at q; omega
    have e2 : m_X8_keep E (nI i) = (nI 1, st (st (st (kpN E i 7) 64 (8 * i + 7) (E 58 9)) 65 i tb) 58 6 (nI 0)) := by
      unfold m_X8_keep
      rw [if_neg g5]
      have e : kpN E i 0 = E := by funext i' k'; unfold kpN; rw [if_neg (fun q => by omega)]
      have := kp_L (E := E) hi 2000 0 (by omega) (by omega)
      rw [e] at this; exact this
    rw [e2]
    show SQ (st (st (st (kpN E i 7) 64 (8 * i + 7) (E 58 9)) 65 i tb) 58 6 (nI 0))
    have eo : ∀ j k, j ≠ 64 → j ≠ 65 → j ≠ 58 → st (st (st (kpN E i 7) 64 (8 * i + 7) (E 58 9)) 65 i tb) 58 6 (nI 0) j k = E j k := fun j k q1 q2 q3 => by
      rw [st_ni q3, st_ni q2, st_ni q1]; unfold kpN; rw [if_neg (fun q => q1 q.1)]
    have e0 := eo 60 0 (by decide) (by decide) (by decide)
    have e2' := eo 60 2 (by decide) (by decide) (by decide)
    refine ⟨by rw [eo 62 0 (by decide) (by decide) (by decide), eo 62 2 (by decide) (by decide) (by decide)]; exact hs.1.cg e0 e2', fun j hj => ?_, fun j hj hk => ?_⟩
    · rw [st_eq, r0] at hj; omega
    · have e64 : ∀ k, k ≠ 8 * i + 7 → st (st (st (kpN E i 7) 64 (8 * i + 7) (E 58 9)) 65 i tb) 58 6 (nI 0) 64 k = if 8 * i ≤ k ∧ k < 8 * i + 7 then E 62 (k - 8 * i) else E 64 k := fun k hk => by
        rw [st_ni (by decide), st_ni (by decide), st_nk hk]
        unfold kpN
        by_cases p : 8 * i ≤ k ∧ k < 8 * i + 7
        · rw [if_pos ⟨rfl, p⟩, if_pos p]
        · rw [if_neg (fun z => p z.2), if_neg p]
      rw [e64 (8 * j) (by omega), e64 (8 * j + 2) (by omega)]
      by_cases p : j = i
      · subst p
        rw [if_pos (by omega), if_pos (by omega), Nat.sub_self, Nat.add_sub_cancel_left]; exact hs.1.cg e0 e2'
      · rw [if_neg (by omega), if_neg (by omega)]
        refine (hs.2.2 j hj ?_).cg e0 e2'
        rw [st_ni (by decide), st_nk p, st_ni (by decide)] at hk
        unfold kpN at hk
        rw [if_neg (fun q => by omega)] at hk; exact hk
theorem goBack_Q (hs : SQ E) (a : Int32) : SQ (m_X8_goBack E a).2 := by
  by_cases h1 : a.toInt < 0 ∨ ((2 : Nat) : Int) ≤ a.toInt
  · have e2 : m_X8_goBack E a = ((-1000000001 : Int32), E) := by
      unfold m_X8_goBack; rw [if_pos (in0.mpr (by rw [nI_toInt (by omega), nI_toInt (by omega)]; omega))]
    rw [e2]; exact hs
  · obtain ⟨i, hi, rfl⟩ := ti_nat h1
    have g5 : ¬ (m_X8_in E (nI i) (nI 0) (nI 1) = 0) := fun q => by rw [in0, nI_toInt (by omega), nI_toInt (by omega), nI_toInt (by omega)] at q; omega
    have rI0 : rl (nI i) = i := rlN (by omega)
    by_cases hk0 : E 65 i = 0
    · have e2 : m_X8_goBack E (nI i) = ((-1000000003 : Int32), E) := by
        unfold m_X8_goBack; rw [if_neg g5, rI0, if_pos hk0]
      rw [e2]; exact hs
    · have e2 : m_X8_goBack E (nI i) = (nI 1, st (st (gbN E i 7) 58 9 (E 64 (8 * i + 7))) 58 6 (nI 0)) := by
        unfold m_X8_goBack
        rw [if_neg g5, rI0, if_neg hk0]
        have e : gbN E i 0 = E := by funext i' k'; unfold gbN; rw [if_neg (fun q => by omega)]
        have := gb_L (E := E) hi 2000 0 (by omega) (by omega)
        rw [e] at this; exact this
      rw [e2]
      show SQ (st (st (gbN E i 7) 58 9 (E 64 (8 * i + 7))) 58 6 (nI 0))
      have eo : ∀ j k, j ≠ 62 → j ≠ 58 → st (st (gbN E i 7) 58 9 (E 64 (8 * i + 7))) 58 6 (nI 0) j k = E j k := fun j k q1 q2 => by
        rw [st_ni q2, st_ni q2]; unfold gbN; rw [if_neg (fun q => q1 q.1)]
      have e62 : ∀ k, k < 7 → st (st (gbN E i 7) 58 9 (E 64 (8 * i + 7))) 58 6 (nI 0) 62 k = E 64 (8 * i + k) := fun k hk => by
        rw [st_ni (by decide), st_ni (by decide)]; unfold gbN; rw [if_pos ⟨rfl, hk⟩]
      have e0 := eo 60 0 (by decide) (by decide)
      have e2' := eo 60 2 (by decide) (by decide)
      refine ⟨by rw [e62 0 (by omega), e62 2 (by omega)]; exact (hs.2.2 i hi hk0).cg e0 e2', fun j hj => ?_, fun j hj hk => ?_⟩
      · rw [st_eq, r0] at hj; omega
      · rw [eo 65 j (by decide) (by decide)] at hk
        rw [eo 64 _ (by decide) (by decide), eo 64 _ (by decide) (by decide)]; exact (hs.2.2 j hj hk).cg e0 e2'
theorem fb0 : fb = 0 := by decide +kernel
theorem land_Q (h : RR C E) (hs : SQ E) : SQ (m_X8_land E).2 := by
  obtain ⟨a1, a2, a3, a4, a5, a6, a7, a8⟩ := h
  obtain ⟨⟨n, q1, q2⟩, q3⟩ := a1
  obtain ⟨c, d, t0, r0', p1, p2, p3, p4⟩ := a2
  have hd : d = 46 ∨ d = 52 := by omega
  have hZ : ∀ i k, i ≠ 61 → zr E i k = E i k := fun i k hi => if_neg (fun q => hi q.1)
  rcases read_E (d := d) hd q1 q2 with ⟨D', E', xa, xs, xb, xv, xu, t, r, z1, z2, z3, z4, z5⟩ | ⟨D', E', xa, xs, f, q, xv, xu, hf, z1, z2, z4, z5⟩
  · obtain ⟨k0, ek⟩ := cp_L (nI 1) 2000 0 (st (st (rx E' xb (nI 0) xv xu) 58 1 (nI 0)) 58 16 (-1)) (by omega) (by omega) (fun j hj => absurd hj (Nat.not_lt_zero _))
    generalize hτ : st (st (rx E' xb (nI 0) xv xu) 58 1 (nI 0)) 58 16 (-1) = τ at ek
    have e2 : (m_X8_land E).2 = lE (zS (cpT τ)) := by
      have hx : m_X8_land E = m_X8_land_L40_32 2000 τ (nI 0) (nI 1) := by
        simp only [m_X8_land_90, m_X8_land_74, m_X8_land_61, m_X8_land_56, m_X8_land_52, m_X8_land_49, m_X8_land_46, m_X8_land_L66_39_b, m_X8_land_L40_32_b, m_X8_land_27, m_X8_land_16, m_X8_land_10, m_X8_land_5, m_X8_land, z2, if_neg n1ne, hτ]
      rw [hx, ek, zs_L (nI 1) k0 2000 0 (cpT τ) (by omega) (by omega) (fun j hj => absurd hj (Nat.not_lt_zero _))]
    rw [e2]
    have e62 : ∀ k, k < 7 → lE (zS (cpT τ)) 62 k = nI 0 := fun k hk => by
      unfold lE; rw [st_ni (by decide), st_ni (by decide), st_ni (by decide), st_ni (by decide), st_ni (by decide)]; unfold zS; rw [if_pos ⟨rfl, hk⟩]
    refine ⟨?_, fun j hj => ?_, fun i hi hk => ?_⟩
    · rw [e62 0 (by omega), e62 2 (by omega)]
      unfold okv; rw [r0]
      exact ⟨Nat.eq_zero_or_pos _, Nat.zero_le _⟩
    · rw [show lE (zS (cpT τ)) 58 6 = nI 0 by unfold lE; rw [st_ni (by decide), st_ni (by decide), st_nk (by decide), st_nk (by decide), st_eq], r0] at hj; omega
    · exfalso
      rcases (show i = 0 ∨ i = 1 by omega) with rfl | rfl
      · exact hk (by unfold lE; rw [st_nk (by decide), st_eq, fb0])
      · exact hk (by unfold lE; rw [st_eq, fb0])
  · have e2 : m_X8_land E = ((-10 : Int32) - f, st (st (rx E' (nI q) f xv xu) 58 1 (nI 0)) 58 16 (nI q)) := by
      simp only [m_X8_land_90, m_X8_land_74, m_X8_land_61, m_X8_land_56, m_X8_land_52, m_X8_land_49, m_X8_land_46, m_X8_land_L66_39_b, m_X8_land_L40_32_b, m_X8_land_27, m_X8_land_16, m_X8_land_10, m_X8_land_5, m_X8_land, z2, if_pos n0e, st_nk (show 15 ≠ 16 by decide), st_nk (show 15 ≠ 1 by decide), st_nk (show 14 ≠ 1 by decide), rx14, rx15]
    rw [e2]
    refine hs.fr (fun i k p => ?_)
    unfold sqc at p
    show st (st (rx E' (nI q) f xv xu) 58 1 (nI 0)) 58 16 (nI q) i k = E i k
    rw [show st (st (rx E' (nI q) f xv xu) 58 1 (nI 0)) 58 16 (nI q) i k = st (rx E' (nI q) f xv xu) 58 1 (nI 0) i k from if_neg (fun q => by omega), show st (rx E' (nI q) f xv xu) 58 1 (nI 0) i k = rx E' (nI q) f xv xu i k from if_neg (fun q => by omega)]
    by_cases i58 : i = 58
    · have k6 : k = 6 := by omega
      subst i58; subst k6
      show E' 58 6 = E 58 6
      rw [z5 58 6 (by decide), hZ 58 6 (by decide)]
    · rw [rxo i58, z5 i k (by omega), hZ i k (by omega)]
end XE
/-! at the law's loop -/
section XF
variable {ad : Nat → Nat} {F F1 : Nat → va_E} {wr : List Nat}
theorem SQ.refF (h : SQ (AB ad F)) (hF : rFr wr F F1) (hw : (wr.all fun i => !inEb i) = true) : SQ (AB ad F1) :=
  h.fr (fun i k p => by
    have e : ∀ j, inEb j = true → AB ad F1 j = AB ad F j := fun j hj => AB_fr hF (nin_of hw hj)
    unfold sqc at p
    rcases p with ⟨rfl, _⟩ | ⟨rfl, _⟩ | ⟨rfl, _⟩ | rfl | rfl | rfl
    · exact congrFun (e 60 rfl) k
    · exact congrFun (e 62 rfl) k
    · exact congrFun (e 58 rfl) k
    · exact congrFun (e 63 rfl) k
    · exact congrFun (e 64 rfl) k
    · exact congrFun (e 65 rfl) k)
theorem S30.fr (h : S30 (AB ad F)) (hF : rFr wr F F1) (hw : 30 ∉ wr) : S30 (AB ad F1) := by
  unfold S30; rw [AB_fr hF hw]; exact h
theorem sealB {cA : Nat → Nat} (hW : WT cA ad F) : ∃ x, x ≤ 255 ∧ AB ad F 62 4 = nI x := by
  obtain ⟨g, hF, hg⟩ := wt_I hW (show (62, 7) ∈ rLI by decide)
  obtain ⟨a, ha, e⟩ := (pr_S (hg 4 (by decide))).2.2 rfl
  exact ⟨a, ha, (AB_g hF).trans e⟩
end XF
