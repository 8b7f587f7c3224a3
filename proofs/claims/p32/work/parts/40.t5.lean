/-! the relation between the class's roles and the reference's, over two states -/
def RT (C E : SS) : Prop := (∃ n, TT C E n ∧ ∀ k, k < n → ¬ C 2 k < 0) ∧ C 1 3 = E 58 16
def RC (C E : SS) : Prop := ∃ c d t r, ((c = 46 ∧ d = 52) ∨ (c = 52 ∧ d = 46)) ∧ C 0 11 = nI c ∧ C 0 12 = nI d ∧ DR C E c 60 t r
def RN (C E : SS) : Prop := (∃ q, q ≤ 8 ∧ C 33 0 = nI q ∧ E 58 11 = nI q ∧ ∀ j, j < q → ∃ t m, t < rl (E 60 2) ∧ m < 48 ∧ C 34 j = nI t ∧ C 35 j = nI m ∧ E 66 j = nI (48 * t + m)) ∧ (∃ q, q ≤ 15 ∧ C 0 13 = nI q ∧ E 58 13 = nI q ∧ ∀ j, j < q → C 44 j = E 67 j)
def RK (C E : SS) : Prop := C 43 0 = E 65 0 ∧ C 43 1 = E 65 1
def RJ (C E : SS) : Prop := ∀ k, k < 7 → C 3 k = E 62 k
def RS (C E : SS) : Prop := ∃ s, s < 2147483648 ∧ C 0 14 = nI s ∧ E 58 9 = nI s
def RP (C E : SS) : Prop := ∃ q, q ≤ 20 ∧ C 4 1 = nI q ∧ E 58 6 = nI q ∧ (∀ i, i < 20 → ∃ j, 6 ≤ j ∧ j < 26 ∧ C 5 i = nI j) ∧ (∀ i i', i < 20 → i' < 20 → C 5 i = C 5 i' → i = i') ∧ ∀ i, i < q → ∀ k, k < 7 → C (rl (C 5 i)) k = E 63 (7 * i + k)
def RI (C E : SS) : Prop := C 39 0 = nI 40 ∧ C 39 1 = nI 41 ∧ ∀ i, i < 2 → (∀ k, k < 7 → C (40 + i) k = E 64 (8 * i + k)) ∧ ∃ s, s < 2147483648 ∧ C 42 i = nI s ∧ E 64 (8 * i + 7) = nI s
def RR (C E : SS) : Prop := RT C E ∧ RC C E ∧ RN C E ∧ RK C E ∧ RJ C E ∧ RS C E ∧ RP C E ∧ RI C E
section CG
variable {C C' E E' : SS}
theorem TT.cg {n : Nat} (h : TT C E n) (h1 : C' 1 1 = C 1 1) (h2 : C' 2 = C 2) (h3 : E' 58 1 = E 58 1) (h4 : E' 59 = E 59) : TT C' E' n := ⟨h.1, h1.trans h.2.1, h3.trans h.2.2.1, fun k hk => by rw [h2, h4]; exact h.2.2.2 k hk⟩
theorem RT.cg (h : RT C E) (h1 : C' 1 1 = C 1 1) (h1' : C' 1 3 = C 1 3) (h2 : C' 2 = C 2) (h3 : E' 58 1 = E 58 1) (h4 : E' 58 16 = E 58 16) (h5 : E' 59 = E 59) : RT C' E' := by
  obtain ⟨⟨n, q1, q2⟩, q3⟩ := h
  exact ⟨⟨n, q1.cg h1 h2 h3 h5, fun k hk => by rw [h2]; exact q2 k hk⟩, by rw [h1', h4]; exact q3⟩
theorem DR.cg {c t r : Nat} (hc : c = 46 ∨ c = 52) (h : DR C E c 60 t r) (h1 : ∀ i, c ≤ i → i ≤ c + 5 → C' i = C i) (h2 : E' 60 = E 60) : DR C' E' c 60 t r := by
  have e : ∀ j, j ≤ 5 → C' (c + j) = C (c + j) := fun j hj => h1 _ (by omega) (by omega)
  have e0 := e 0 (by omega)
  rw [Nat.add_zero] at e0
  unfold DR
  rw [h2, e0, e 1 (by omega), e 2 (by omega), e 3 (by omega), e 4 (by omega), e 5 (by omega)]
  exact h
theorem RC.cg (h : RC C E) (h1 : C' 0 11 = C 0 11) (h2 : C' 0 12 = C 0 12) (h3 : ∀ i, 46 ≤ i → i ≤ 57 → C' i = C i) (h4 : E' 60 = E 60) : RC C' E' := by
  obtain ⟨c, d, t, r, q1, q2, q3, q4⟩ := h
  exact ⟨c, d, t, r, q1, h1.trans q2, h2.trans q3, q4.cg (by omega) (fun i a b => h3 i (by omega) (by omega)) h4⟩
theorem RN.cg (h : RN C E) (h1 : C' 33 0 = C 33 0) (h2 : C' 34 = C 34) (h3 : C' 35 = C 35) (h4 : C' 0 13 = C 0 13) (h5 : C' 44 = C 44) (h6 : E' 58 11 = E 58 11) (h7 : E' 58 13 = E 58 13) (h8 : E' 66 = E 66) (h9 : E' 67 = E 67) (h10 : E' 60 2 = E 60 2) : RN C' E' := by
  unfold RN
  rw [h1, h2, h3, h4, h5, h6, h7, h8, h9, h10]; exact h
theorem RK.cg (h : RK C E) (h1 : C' 43 = C 43) (h2 : E' 65 = E 65) : RK C' E' := by unfold RK; rw [h1, h2]; exact h
theorem RJ.cg (h : RJ C E) (h1 : C' 3 = C 3) (h2 : E' 62 = E 62) : RJ C' E' := by unfold RJ; rw [h1, h2]; exact h
theorem RS.cg (h : RS C E) (h1 : C' 0 14 = C 0 14) (h2 : E' 58 9 = E 58 9) : RS C' E' := by unfold RS; rw [h1, h2]; exact h
theorem RP.cg (h : RP C E) (h1 : C' 4 1 = C 4 1) (h2 : C' 5 = C 5) (h3 : ∀ i, 6 ≤ i → i < 26 → C' i = C i) (h4 : E' 58 6 = E 58 6) (h5 : E' 63 = E 63) : RP C' E' := by
  obtain ⟨q, p1, p2, p3, p4, p5, p6⟩ := h
  refine ⟨q, p1, h1.trans p2, h4.trans p3, fun i hi => by rw [h2]; exact p4 i hi, fun i i' a b => by rw [h2]; exact p5 i i' a b, fun i hi => ?_⟩
  obtain ⟨j, j1, j2, j3⟩ := p4 i (by omega)
  rw [h2, h5, h3 (rl (C 5 i)) (by rw [j3, rlN (by omega)]; omega) (by rw [j3, rlN (by omega)]; omega)]
  exact p6 i hi
theorem RI.cg (h : RI C E) (h1 : C' 39 = C 39) (h2 : C' 40 = C 40) (h3 : C' 41 = C 41) (h4 : C' 42 = C 42) (h5 : E' 64 = E 64) : RI C' E' := by
  have e : ∀ i, i < 2 → C' (40 + i) = C (40 + i) := fun i hi => by
    rcases (show i = 0 ∨ i = 1 by omega) with rfl | rfl
    · exact h2
    · exact h3
  refine ⟨by rw [h1]; exact h.1, by rw [h1]; exact h.2.1, fun i hi => ?_⟩
  rw [e i hi, h4, h5]; exact h.2.2 i hi
/-- the class's roles alone, the reference's alone -/
theorem RR.cg (h : RR C E) (h1 : ∀ i, i < 58 → C' i = C i) (h2 : ∀ i, 58 ≤ i → E' i = E i) : RR C' E' := by
  obtain ⟨a1, a2, a3, a4, a5, a6, a7, a8⟩ := h
  have c : ∀ i k, i < 58 → C' i k = C i k := fun i k hi => congrFun (h1 i hi) k
  have e : ∀ i k, 58 ≤ i → E' i k = E i k := fun i k hi => congrFun (h2 i hi) k
  exact ⟨a1.cg (c _ _ (by omega)) (c _ _ (by omega)) (h1 _ (by omega)) (e _ _ (by omega)) (e _ _ (by omega)) (h2 _ (by omega)), a2.cg (c _ _ (by omega)) (c _ _ (by omega)) (fun i _ _ => h1 i (by omega)) (h2 _ (by omega)), a3.cg (c _ _ (by omega)) (h1 _ (by omega)) (h1 _ (by omega)) (c _ _ (by omega)) (h1 _ (by omega)) (e _ _ (by omega)) (e _ _ (by omega)) (h2 _ (by omega)) (h2 _ (by omega)) (e _ _ (by omega)), a4.cg (h1 _ (by omega)) (h2 _ (by omega)), a5.cg (h1 _ (by omega)) (h2 _ (by omega)), a6.cg (c _ _ (by omega)) (e _ _ (by omega)), a7.cg (c _ _ (by omega)) (h1 _ (by omega)) (fun i _ _ => h1 i (by omega)) (e _ _ (by omega)) (h2 _ (by omega)), a8.cg (h1 _ (by omega)) (h1 _ (by omega)) (h1 _ (by omega)) (h1 _ (by omega)) (h2 _ (by omega))⟩
end CG
theorem char_id {j : Nat} (h : j ≤ 255) : vp_nar .char (i2c (nI j)) = nI j := by
  have e : i2c (nI j) = nI j := by
    unfold i2c
    rw [pk_char, pk_tn (by omega), Nat.mod_eq_of_lt (by omega)]
  rw [e]
  unfold vp_nar
  rw [(pk_charN (show j < 65536 by omega)).1]
theorem in0 {σ : SS} {x a b : Int32} : m_X8_in σ x a b = 0 ↔ (x.toInt < a.toInt ∨ b.toInt < x.toInt) := by
  unfold m_X8_in
  by_cases h1 : x < a
  · rw [if_pos h1]; exact ⟨fun _ => Or.inl (Int32.lt_iff_toInt_lt.mp h1), fun _ => n0e⟩
  · rw [if_neg h1]
    by_cases h2 : b < x
    · rw [if_pos h2]; exact ⟨fun _ => Or.inr (Int32.lt_iff_toInt_lt.mp h2), fun _ => n0e⟩
    · rw [if_neg h2]
      refine ⟨fun q => absurd q n1ne, fun q => ?_⟩
      rcases q with q | q
      · exact absurd (Int32.lt_iff_toInt_lt.mpr q) h1
      · exact absurd (Int32.lt_iff_toInt_lt.mpr q) h2
theorem lt0 {x : Int32} : x < 0 ↔ x.toInt < 0 := by rw [Int32.lt_iff_toInt_lt, z_ti]
theorem leK {x : Int32} {n : Nat} (h : n < 2147483648) : x ≤ nI n ↔ x.toInt ≤ n := by rw [Int32.le_iff_toInt_le, nI_toInt h]
theorem ltK {x : Int32} {n : Nat} (h : n < 2147483648) : x < nI n ↔ x.toInt < n := by rw [Int32.lt_iff_toInt_lt, nI_toInt h]
theorem geK {x : Int32} {n : Nat} (h : n < 2147483648) : nI n ≤ x ↔ (n : Int) ≤ x.toInt := by rw [Int32.le_iff_toInt_le, nI_toInt h]
theorem feed_E {C E : SS} (h : RR C E) (a : Int32) : (m_X7_feed C a).1 = (m_X8_feed E a).1 ∧ RR (m_X7_feed C a).2 (m_X8_feed E a).2 := by
  obtain ⟨a1, a2, a3, a4, a5, a6, a7, a8⟩ := h
  by_cases h0 : a.toInt < 0 ∨ 255 < a.toInt
  · have e1 : m_X7_feed C a = ((-1000000002 : Int32), C) := by
      unfold m_X7_feed
      by_cases q : a < 0
      · rw [if_pos q]
      · rw [if_neg q, if_neg (fun q2 => by rw [lt0] at q; rw [leK (by omega)] at q2; omega)]
    have e2 : m_X8_feed E a = ((-1000000002 : Int32), E) := by
      unfold m_X8_feed
      rw [if_pos (in0.mpr (by rw [nI_toInt (by omega), nI_toInt (by omega)]; omega))]
    rw [e1, e2]; exact ⟨rfl, a1, a2, a3, a4, a5, a6, a7, a8⟩
  · obtain ⟨j, hj, rfl⟩ := nI_of_le (x := a) (B := 255) (by omega) (by omega)
    obtain ⟨⟨n, q1, q2⟩, q3⟩ := a1
    have g1 : ¬ (nI j < 0) := fun q => by rw [lt0] at q; omega
    have g2 : nI j ≤ nI 255 := (nle (by omega) (by omega)).mpr hj
    have g3 : ¬ (m_X8_in E (nI j) (nI 0) (nI 255) = 0) := fun q => by rw [in0, nI_toInt (by omega), nI_toInt (by omega), nI_toInt (by omega)] at q; omega
    by_cases hn : n = 240
    · have e1 : m_X7_feed C (nI j) = ((-1000000004 : Int32), C) := by
        unfold m_X7_feed
        rw [if_neg g1, if_pos g2, q1.2.1, if_neg (fun q => by rw [nlt (by omega) (by omega)] at q; omega)]
      have e2 : m_X8_feed E (nI j) = ((-1000000004 : Int32), E) := by
        unfold m_X8_feed
        rw [if_neg g3, q1.2.2.1, if_pos (by rw [hn])]
      rw [e1, e2]; exact ⟨rfl, ⟨⟨n, q1, q2⟩, q3⟩, a2, a3, a4, a5, a6, a7, a8⟩
    · have hn' := q1.1
      have e1 : m_X7_feed C (nI j) = (nI (n + 1), st (st C 2 n (nI j)) 1 1 (nI (n + 1))) := by
        simp only [m_X7_feed_27, m_X7_feed_19, m_X7_feed, if_neg g1, if_pos g2, q1.2.1, if_pos (show nI n < nI 240 from (nlt (by omega) (by omega)).mpr (by omega)), rlN (show n < 2147483648 by omega), char_id hj, st_ni (show (1 : Nat) ≠ 2 by decide), n1, st_eq]
      have e2 : m_X8_feed E (nI j) = (nI (n + 1), st (st E 59 n (nI j)) 58 1 (nI (n + 1))) := by
        simp only [m_X8_feed_24, m_X8_feed_17, m_X8_feed, if_neg g3, q1.2.2.1, if_neg (show ¬ (nI n = nI 240) from fun q => hn ((neq (by omega) (by omega)).mp q)), rlN (show n < 2147483648 by omega), st_ni (show (58 : Nat) ≠ 59 by decide), n1, st_eq]
      rw [e1, e2]
      show nI (n + 1) = nI (n + 1) ∧ RR (st (st C 2 n (nI j)) 1 1 (nI (n + 1))) (st (st E 59 n (nI j)) 58 1 (nI (n + 1)))
      refine ⟨rfl, ⟨⟨n + 1, ⟨by omega, st_eq, st_eq, fun k hk => ?_⟩, fun k hk => ?_⟩, ?_⟩, a2.cg rfl rfl (fun i p1 p2 => ?_) rfl, a3.cg rfl rfl rfl rfl rfl rfl rfl rfl rfl rfl, a4.cg rfl rfl, a5.cg rfl rfl, a6.cg rfl rfl, a7.cg rfl rfl (fun i p1 p2 => ?_) rfl rfl, a8.cg rfl rfl rfl rfl rfl⟩
      · show st (st C 2 n (nI j)) 1 1 (nI (n + 1)) 2 k = st (st E 59 n (nI j)) 58 1 (nI (n + 1)) 59 k
        rw [st_ni (show (2 : Nat) ≠ 1 by decide), st_ni (show (59 : Nat) ≠ 58 by decide)]
        by_cases q : k = n
        · subst q; rw [st_eq, st_eq]
        · rw [st_nk q, st_nk q]; exact q1.2.2.2 k (by omega)
      · show ¬ st (st C 2 n (nI j)) 1 1 (nI (n + 1)) 2 k < 0
        rw [st_ni (show (2 : Nat) ≠ 1 by decide)]
        by_cases q : k = n
        · subst q; rw [st_eq]; exact g1
        · rw [st_nk q]; exact q2 k (by omega)
      · exact q3
      · funext k; rw [st_ni (by omega), st_ni (by omega)]
      · funext k; rw [st_ni (by omega), st_ni (by omega)]
