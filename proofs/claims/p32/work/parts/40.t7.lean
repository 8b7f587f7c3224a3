/-! seals told, the book, the seed, images -/
section TB
variable {C E : SS} {c t r : Nat}
theorem townC (h : C c 2 = nI t) (ht : t ≤ 8) {x : Int32} : m_X0_hasTown C c x = 0 ↔ (x.toInt < 0 ∨ (t : Int) ≤ x.toInt) := by
  unfold m_X0_hasTown
  by_cases h1 : x < 0
  · rw [if_pos h1]; exact ⟨fun _ => Or.inl (lt0.mp h1), fun _ => n0e⟩
  · rw [if_neg h1, h]
    by_cases h2 : nI t ≤ x
    · rw [if_pos h2]; exact ⟨fun _ => Or.inr ((geK (by omega)).mp h2), fun _ => n0e⟩
    · rw [if_neg h2]
      refine ⟨fun q => absurd q n1ne, fun q => ?_⟩
      rcases q with q | q
      · exact absurd (lt0.mpr q) h1
      · exact absurd ((geK (by omega)).mpr q) h2
theorem roadC (h : C c 3 = nI r) (hr : r ≤ 12) {x : Int32} : m_X0_hasRoad C c x = 0 ↔ (x.toInt < 0 ∨ (r : Int) ≤ x.toInt) := by
  unfold m_X0_hasRoad
  by_cases h1 : x < 0
  · rw [if_pos h1]; exact ⟨fun _ => Or.inl (lt0.mp h1), fun _ => n0e⟩
  · rw [if_neg h1, h]
    by_cases h2 : nI r ≤ x
    · rw [if_pos h2]; exact ⟨fun _ => Or.inr ((geK (by omega)).mp h2), fun _ => n0e⟩
    · rw [if_neg h2]
      refine ⟨fun q => absurd q n1ne, fun q => ?_⟩
      rcases q with q | q
      · exact absurd (lt0.mpr q) h1
      · exact absurd ((geK (by omega)).mpr q) h2
theorem townE (h : E 60 2 = nI t) (ht : t ≤ 8) {x : Int32} : m_X8_isTown E x = 0 ↔ (x.toInt < 0 ∨ (t : Int) ≤ x.toInt) := by
  unfold m_X8_isTown
  rw [in0, r2, h, nI_toInt (by omega), pk_sub_toInt (by omega) (by omega)]
  omega
theorem roadE (h : E 60 3 = nI r) (hr : r ≤ 12) {x : Int32} : m_X8_isRoad E x = 0 ↔ (x.toInt < 0 ∨ (r : Int) ≤ x.toInt) := by
  unfold m_X8_isRoad
  rw [in0, r3, h, nI_toInt (by omega), pk_sub_toInt (by omega) (by omega)]
  omega
theorem ti_nat {x : Int32} {n : Nat} (h : ¬ (x.toInt < 0 ∨ (n : Int) ≤ x.toInt)) : ∃ j, j < n ∧ x = nI j := ⟨x.toInt.toNat, by omega, nI_of_toInt (by omega)⟩
/-- the land that is so: its role, how many towns and roads -/
theorem RC.get (h : RC C E) : ∃ c t r, (c = 46 ∨ c = 52) ∧ rl (C 0 11) = c ∧ DR C E c 60 t r := by
  obtain ⟨c, d, t, r, q1, q2, q3, q4⟩ := h
  exact ⟨c, t, r, by omega, by rw [q2]; exact rlN (by omega), q4⟩
theorem seal_E (h : RR C E) (a b : Int32) : (m_X7_seal C a b).1 = (m_X8_seal E a b).1 ∧ RR (m_X7_seal C a b).2 (m_X8_seal E a b).2 := by
  have hh := h
  obtain ⟨a1, a2, a3, a4, a5, a6, a7, a8⟩ := h
  obtain ⟨c, t, r, hc, e0, D⟩ := a2.get
  have t8 := D.2.2.2.2.1
  by_cases h1 : a.toInt < 0 ∨ (t : Int) ≤ a.toInt
  · have e1 : m_X7_seal C a b = ((-1000000001 : Int32), C) := by unfold m_X7_seal; rw [e0, if_pos ((townC D.2.2.1 t8).mpr h1)]
    have e2 : m_X8_seal E a b = ((-1000000001 : Int32), E) := by unfold m_X8_seal; rw [if_pos ((townE D.2.2.2.1 t8).mpr h1)]
    rw [e1, e2]; exact ⟨rfl, hh⟩
  · have g1 : ¬ (m_X0_hasTown C c a = 0) := fun q => h1 ((townC D.2.2.1 t8).mp q)
    have g2 : ¬ (m_X8_isTown E a = 0) := fun q => h1 ((townE D.2.2.2.1 t8).mp q)
    obtain ⟨x, hx, rfl⟩ := ti_nat h1
    by_cases h2 : b.toInt < 0 ∨ ((48 : Nat) : Int) ≤ b.toInt
    · have e1 : m_X7_seal C (nI x) b = ((-1000000002 : Int32), C) := by
        unfold m_X7_seal; rw [e0, if_neg g1]
        by_cases q : b < 0
        · rw [if_pos q]
        · rw [if_neg q, if_neg (fun q2 => by rw [lt0] at q; rw [ltK (by omega)] at q2; omega)]
      have e2 : m_X8_seal E (nI x) b = ((-1000000002 : Int32), E) := by
        unfold m_X8_seal; rw [if_neg g2, if_pos (in0.mpr (by rw [nI_toInt (by omega), nI_toInt (by omega)]; omega))]
      rw [e1, e2]; exact ⟨rfl, hh⟩
    · obtain ⟨y, hy, rfl⟩ := ti_nat h2
      have g3 : ¬ (nI y < 0) := fun q => by rw [lt0] at q; omega
      have g4 : nI y < nI 48 := (nlt (by omega) (by omega)).mpr hy
      have g5 : ¬ (m_X8_in E (nI y) (nI 0) (nI 47) = 0) := fun q => by rw [in0, nI_toInt (by omega), nI_toInt (by omega), nI_toInt (by omega)] at q; omega
      obtain ⟨⟨q, b1, b2, b3, b4⟩, b5⟩ := a3
      by_cases h8 : q = 8
      · have e1 : m_X7_seal C (nI x) (nI y) = ((-1000000004 : Int32), C) := by
          unfold m_X7_seal; rw [e0, if_neg g1, if_neg g3, if_pos g4, b2, if_neg (fun p => by rw [nlt (by omega) (by omega)] at p; omega)]
        have e2 : m_X8_seal E (nI x) (nI y) = ((-1000000004 : Int32), E) := by
          unfold m_X8_seal; rw [if_neg g2, if_neg g5, b3, if_pos (by rw [h8])]
        rw [e1, e2]; exact ⟨rfl, hh⟩
      · have e1 : m_X7_seal C (nI x) (nI y) = (nI (q + 1), st (st (st C 34 q (nI x)) 35 q (nI y)) 33 0 (nI (q + 1))) := by
          simp only [m_X7_seal_20, m_X7_seal, m_X6_add_23, m_X6_add_16, m_X6_add_10, m_X6_add, e0, if_neg g1, if_neg g3, if_pos g4, b2, if_pos (show nI q < nI 8 from (nlt (by omega) (by omega)).mpr (by omega)), if_neg (show ¬ (nI 8 ≤ nI q) from fun p => by rw [nle (by omega) (by omega)] at p; omega), rlN (show q < 2147483648 by omega), st_ni (show (33 : Nat) ≠ 34 by decide), st_ni (show (33 : Nat) ≠ 35 by decide), n1, st_eq]
        have k1 : nI 48 * nI x + nI y = nI (48 * x + y) := by rw [pk_mul, nI_add]
        have e2 : m_X8_seal E (nI x) (nI y) = (nI (q + 1), st (st E 66 q (nI (48 * x + y))) 58 11 (nI (q + 1))) := by
          simp only [m_X8_seal_35, m_X8_seal_28, m_X8_seal, if_neg g2, if_neg g5, b3, if_neg (show ¬ (nI q = nI 8) from fun p => h8 ((neq (by omega) (by omega)).mp p)), rlN (show q < 2147483648 by omega), st_ni (show (58 : Nat) ≠ 66 by decide), n1, st_eq, k1]
        rw [e1, e2]
        show nI (q + 1) = nI (q + 1) ∧ RR (st (st (st C 34 q (nI x)) 35 q (nI y)) 33 0 (nI (q + 1))) (st (st E 66 q (nI (48 * x + y))) 58 11 (nI (q + 1)))
        refine ⟨rfl, a1.cg rfl rfl rfl rfl rfl rfl, a2.cg rfl rfl (fun i p1 p2 => ?_) rfl, ⟨⟨q + 1, by omega, st_eq, st_eq, fun j hj => ?_⟩, b5⟩, a4.cg rfl rfl, a5.cg rfl rfl, a6.cg rfl rfl, a7.cg rfl rfl (fun i p1 p2 => ?_) rfl rfl, a8.cg rfl rfl rfl rfl rfl⟩
        · funext k; rw [st_ni (by omega), st_ni (by omega), st_ni (by omega)]
        · have e60 : st (st E 66 q (nI (48 * x + y))) 58 11 (nI (q + 1)) 60 2 = nI t := D.2.2.2.1
          rw [e60, rlN (by omega)]
          have z1 : ∀ k, st (st (st C 34 q (nI x)) 35 q (nI y)) 33 0 (nI (q + 1)) 34 k = st C 34 q (nI x) 34 k := fun k => by rw [st_ni (show (34 : Nat) ≠ 33 by decide), st_ni (show (34 : Nat) ≠ 35 by decide)]
          have z2 : ∀ k, st (st (st C 34 q (nI x)) 35 q (nI y)) 33 0 (nI (q + 1)) 35 k = st (st C 34 q (nI x)) 35 q (nI y) 35 k := fun k => by rw [st_ni (show (35 : Nat) ≠ 33 by decide)]
          have z3 : ∀ k, st (st E 66 q (nI (48 * x + y))) 58 11 (nI (q + 1)) 66 k = st E 66 q (nI (48 * x + y)) 66 k := fun k => by rw [st_ni (show (66 : Nat) ≠ 58 by decide)]
          rw [z1, z2, z3]
          by_cases p : j = q
          · subst p; exact ⟨x, y, hx, hy, st_eq, st_eq, st_eq⟩
          · obtain ⟨t', m', u1, u2, u3, u4, u5⟩ := b4 j (by omega)
            rw [D.2.2.2.1, rlN (by omega)] at u1
            refine ⟨t', m', u1, u2, ?_, ?_, ?_⟩
            · rw [st_nk p]; exact u3
            · rw [st_nk p, st_ni (show (35 : Nat) ≠ 34 by decide)]; exact u4
            · rw [st_nk p]; exact u5
        · funext k; rw [st_ni (by omega), st_ni (by omega), st_ni (by omega)]
theorem write_E (h : RR C E) (a : Int32) : (m_X7_write C a).1 = (m_X8_write E a).1 ∧ RR (m_X7_write C a).2 (m_X8_write E a).2 := by
  have hh := h
  obtain ⟨a1, a2, a3, a4, a5, a6, a7, a8⟩ := h
  by_cases h1 : a.toInt < 0 ∨ ((10000 : Nat) : Int) ≤ a.toInt
  · have e1 : m_X7_write C a = ((-1000000002 : Int32), C) := by
      unfold m_X7_write
      by_cases q : a < 0
      · rw [if_pos q]
      · rw [if_neg q, if_neg (fun q2 => by rw [lt0] at q; rw [leK (by omega)] at q2; omega)]
    have e2 : m_X8_write E a = ((-1000000002 : Int32), E) := by
      unfold m_X8_write; rw [if_pos (in0.mpr (by rw [nI_toInt (by omega), nI_toInt (by omega)]; omega))]
    rw [e1, e2]; exact ⟨rfl, hh⟩
  · obtain ⟨y, hy, rfl⟩ := ti_nat h1
    have g3 : ¬ (nI y < 0) := fun q => by rw [lt0] at q; omega
    have g4 : nI y ≤ nI 9999 := (nle (by omega) (by omega)).mpr (by omega)
    have g5 : ¬ (m_X8_in E (nI y) (nI 0) (nI 9999) = 0) := fun q => by rw [in0, nI_toInt (by omega), nI_toInt (by omega), nI_toInt (by omega)] at q; omega
    obtain ⟨b5, q, b1, b2, b3, b4⟩ := a3
    by_cases h8 : q = 15
    · have e1 : m_X7_write C (nI y) = ((-1000000004 : Int32), C) := by
        unfold m_X7_write; rw [if_neg g3, if_pos g4, b2, if_neg (fun p => by rw [nlt (by omega) (by omega)] at p; omega)]
      have e2 : m_X8_write E (nI y) = ((-1000000004 : Int32), E) := by
        unfold m_X8_write; rw [if_neg g5, b3, if_pos (by rw [h8])]
      rw [e1, e2]; exact ⟨rfl, hh⟩
    · have e1 : m_X7_write C (nI y) = (nI (q + 1), st (st C 44 q (nI y)) 0 13 (nI (q + 1))) := by
        simp only [m_X7_write_21, m_X7_write_14, m_X7_write, if_neg g3, if_pos g4, b2, if_pos (show nI q < nI 15 from (nlt (by omega) (by omega)).mpr (by omega)), rlN (show q < 2147483648 by omega), st_ni (show (0 : Nat) ≠ 44 by decide), n1, st_eq]
      have e2 : m_X8_write E (nI y) = (nI (q + 1), st (st E 67 q (nI y)) 58 13 (nI (q + 1))) := by
        simp only [m_X8_write_24, m_X8_write_17, m_X8_write, if_neg g5, b3, if_neg (show ¬ (nI q = nI 15) from fun p => h8 ((neq (by omega) (by omega)).mp p)), rlN (show q < 2147483648 by omega), st_ni (show (58 : Nat) ≠ 67 by decide), n1, st_eq]
      rw [e1, e2]
      show nI (q + 1) = nI (q + 1) ∧ RR (st (st C 44 q (nI y)) 0 13 (nI (q + 1))) (st (st E 67 q (nI y)) 58 13 (nI (q + 1)))
      refine ⟨rfl, a1.cg rfl rfl rfl rfl rfl rfl, a2.cg rfl rfl (fun i p1 p2 => ?_) rfl, ⟨b5, ⟨q + 1, by omega, st_eq, st_eq, fun j hj => ?_⟩⟩, a4.cg rfl rfl, a5.cg rfl rfl, a6.cg rfl rfl, a7.cg rfl rfl (fun i p1 p2 => ?_) rfl rfl, a8.cg rfl rfl rfl rfl rfl⟩
      · funext k; rw [st_ni (by omega), st_ni (by omega)]
      · rw [st_ni (show (44 : Nat) ≠ 0 by decide), st_ni (show (67 : Nat) ≠ 58 by decide)]
        by_cases p : j = q
        · subst p; rw [st_eq, st_eq]
        · rw [st_nk p, st_nk p]; exact b4 j (by omega)
      · funext k; rw [st_ni (by omega), st_ni (by omega)]
theorem tear_E (h : RR C E) : (m_X7_tear C).1 = (m_X8_tear E).1 ∧ RR (m_X7_tear C).2 (m_X8_tear E).2 := by
  obtain ⟨a1, a2, a3, a4, a5, a6, a7, a8⟩ := h
  obtain ⟨⟨q, b1, b2, b3, b4⟩, q', d1, d2, d3, d4⟩ := a3
  have e1 : m_X7_tear C = (nI q + nI q', st (st C 33 0 (nI 0)) 0 13 (nI 0)) := by simp only [m_X7_tear_13, m_X7_tear_9, m_X7_tear, b2, d2]
  have e2 : m_X8_tear E = (nI q + nI q', st (st E 58 11 (nI 0)) 58 13 (nI 0)) := by simp only [m_X8_tear_12, m_X8_tear_9, m_X8_tear, b3, d3]
  rw [e1, e2]
  show nI q + nI q' = nI q + nI q' ∧ RR (st (st C 33 0 (nI 0)) 0 13 (nI 0)) (st (st E 58 11 (nI 0)) 58 13 (nI 0))
  refine ⟨rfl, a1.cg rfl rfl rfl rfl rfl rfl, a2.cg rfl rfl (fun i p1 p2 => ?_) rfl, ⟨⟨0, by omega, rfl, rfl, fun j hj => absurd hj (Nat.not_lt_zero _)⟩, ⟨0, by omega, rfl, rfl, fun j hj => absurd hj (Nat.not_lt_zero _)⟩⟩, a4.cg rfl rfl, a5.cg rfl rfl, a6.cg rfl rfl, a7.cg rfl rfl (fun i p1 p2 => ?_) rfl rfl, a8.cg rfl rfl rfl rfl rfl⟩
  · funext k; rw [st_ni (by omega), st_ni (by omega)]
  · funext k; rw [st_ni (by omega), st_ni (by omega)]
theorem ge0 {x : Int32} : (0 : Int32) ≤ x ↔ 0 ≤ x.toInt := by rw [Int32.le_iff_toInt_le, z_ti]
theorem seed_E (h : RR C E) (a : Int32) : (m_X7_seed C a).1 = (m_X8_seed E a).1 ∧ RR (m_X7_seed C a).2 (m_X8_seed E a).2 := by
  have hh := h
  obtain ⟨a1, a2, a3, a4, a5, a6, a7, a8⟩ := h
  by_cases h1 : (0 : Int32) ≤ a
  · obtain ⟨s, b1, b2, b3⟩ := a6
    have e1 : m_X7_seed C a = (nI s, st C 0 14 a) := by simp only [m_X7_seed_7, m_X7_seed, if_pos h1, b2]
    have e2 : m_X8_seed E a = (nI s, st E 58 9 a) := by simp only [m_X8_seed_8, m_X8_seed, if_pos h1, b3]
    rw [e1, e2]
    have hx := ge0.mp h1
    have hy := Int32.toInt_lt a
    show nI s = nI s ∧ RR (st C 0 14 a) (st E 58 9 a)
    refine ⟨rfl, a1.cg rfl rfl rfl rfl rfl rfl, a2.cg rfl rfl (fun i p1 p2 => ?_) rfl, a3.cg rfl rfl rfl rfl rfl rfl rfl rfl rfl rfl, a4.cg rfl rfl, a5.cg rfl rfl, ⟨a.toInt.toNat, by omega, ?_, ?_⟩, a7.cg rfl rfl (fun i p1 p2 => ?_) rfl rfl, a8.cg rfl rfl rfl rfl rfl⟩
    · funext k; rw [st_ni (by omega)]
    · rw [st_eq]; exact nI_of_toInt (by omega)
    · rw [st_eq]; exact nI_of_toInt (by omega)
    · funext k; rw [st_ni (by omega)]
  · have e1 : m_X7_seed C a = ((-1000000002 : Int32), C) := by unfold m_X7_seed; rw [if_neg h1]
    have e2 : m_X8_seed E a = ((-1000000002 : Int32), E) := by unfold m_X8_seed; rw [if_neg h1]
    rw [e1, e2]; exact ⟨rfl, hh⟩
theorem cpJ (σ : SS) {a b : Nat} (hab : a ≠ b) (i k : Nat) : m_X1_copy σ a b i k = if i = a ∧ k < 7 then σ b k else σ i k := by
  have hb : ∀ (τ : SS) (k v), st τ a k v b = τ b := fun τ k v => by funext j; exact st_ni (Ne.symm hab)
  simp only [m_X1_copy_35, m_X1_copy_30, m_X1_copy_25, m_X1_copy_20, m_X1_copy_15, m_X1_copy_10, m_X1_copy_5, m_X1_copy, hb]
  by_cases h3 : i = a
  · subst h3
    by_cases h7 : k < 7
    · rw [if_pos (show i = i ∧ k < 7 from ⟨rfl, h7⟩)]
      rcases (show k = 0 ∨ k = 1 ∨ k = 2 ∨ k = 3 ∨ k = 4 ∨ k = 5 ∨ k = 6 by omega) with rfl | rfl | rfl | rfl | rfl | rfl | rfl <;> simp [st]
    · rw [if_neg (show ¬ (i = i ∧ k < 7) from fun q => h7 q.2)]
      simp [st, show k ≠ 0 by omega, show k ≠ 1 by omega, show k ≠ 2 by omega, show k ≠ 3 by omega, show k ≠ 4 by omega, show k ≠ 5 by omega, show k ≠ 6 by omega]
  · rw [if_neg (show ¬ (i = a ∧ k < 7) from fun q => h3 q.1)]; simp [st, h3]
def tb : Int32 := vp_nar .boolean (nI 1)
def kpN (E : SS) (i n : Nat) : SS := fun i' k' => if i' = 64 ∧ 8 * i ≤ k' ∧ k' < 8 * i + n then E 62 (k' - 8 * i) else E i' k'
theorem kpN_s {E : SS} {i n : Nat} : st (kpN E i n) 64 (8 * i + n) (E 62 n) = kpN E i (n + 1) := by
  funext i' k'; unfold st kpN
  by_cases h1 : i' = 64
  · subst h1
    by_cases h2 : k' = 8 * i + n
    · rw [if_pos ⟨rfl, h2⟩, if_pos ⟨rfl, by omega, by omega⟩, h2, Nat.add_sub_cancel_left]
    · rw [if_neg (fun q => h2 q.2)]
      by_cases h3 : 8 * i ≤ k' ∧ k' < 8 * i + n
      · rw [if_pos ⟨rfl, h3⟩, if_pos ⟨rfl, by omega, by omega⟩]
      · rw [if_neg (fun q => h3 q.2), if_neg (fun q => by omega)]
  · rw [if_neg (fun q => h1 q.1), if_neg (fun q => h1 q.1), if_neg (fun q => h1 q.1)]
theorem kp_L {i : Nat} (hi : i < 2) : ∀ (m k : Nat), k ≤ 7 → 7 - k < m → m_X8_keep_L14_13 m (kpN E i k) (nI k) (nI i) = (nI 1, st (st (st (kpN E i 7) 64 (8 * i + 7) (E 58 9)) 65 i tb) 58 6 (nI 0)) := by
  intro m
  induction m with
  | zero => intro k _ h0; exact absurd h0 (Nat.not_lt_zero _)
  | succ m ih =>
    intro k hk hm
    have k1 : nI 8 * nI i + nI 7 = nI (8 * i + 7) := by rw [pk_mul, nI_add]
    have k2 : nI 8 * nI i + nI k = nI (8 * i + k) := by rw [pk_mul, nI_add]
    rw [show m_X8_keep_L14_13 (m + 1) = m_X8_keep_L14_13_b (m_X8_keep_L14_13 m) from rfl]
    by_cases h1 : 7 ≤ k
    · have e : k = 7 := by omega
      subst e
      simp only [m_X8_keep_50, m_X8_keep_35, m_X8_keep_31, m_X8_keep_26, m_X8_keep_L14_13_b, m_X8_keep, if_pos (show nI 7 ≤ nI 7 from (nle (by omega) (by omega)).mpr (by omega)), k1, rlN (show 8 * i + 7 < 2147483648 by omega), rlN (show i < 2147483648 by omega), tb]
      rfl
    · have g1 : ¬ (nI 7 ≤ nI k) := fun q => h1 ((nle (by omega) (by omega)).mp q)
      simp only [m_X8_keep_50, m_X8_keep_35, m_X8_keep_31, m_X8_keep_26, m_X8_keep_L14_13_b, m_X8_keep, if_neg g1, k2, rlN (show 8 * i + k < 2147483648 by omega), rlN (show k < 2147483648 by omega), oI1, n1]
      have e : kpN E i k 62 k = E 62 k := by unfold kpN; rw [if_neg (fun q => by omega)]
      rw [e, kpN_s]
      exact ih (k + 1) (by omega) (by omega)
theorem keep_E (h : RR C E) (a : Int32) : (m_X7_keep C a).1 = (m_X8_keep E a).1 ∧ RR (m_X7_keep C a).2 (m_X8_keep E a).2 := by
  have hh := h
  obtain ⟨a1, a2, a3, a4, a5, a6, a7, a8⟩ := h
  by_cases h1 : a.toInt < 0 ∨ ((2 : Nat) : Int) ≤ a.toInt
  · have e1 : m_X7_keep C a = ((-1000000001 : Int32), C) := by
      unfold m_X7_keep
      by_cases q : a < 0
      · rw [if_pos q]
      · rw [if_neg q, if_neg (fun q2 => by rw [lt0] at q; rw [ltK (by omega)] at q2; omega)]
    have e2 : m_X8_keep E a = ((-1000000001 : Int32), E) := by
      unfold m_X8_keep; rw [if_pos (in0.mpr (by rw [nI_toInt (by omega), nI_toInt (by omega)]; omega))]
    rw [e1, e2]; exact ⟨rfl, hh⟩
  · obtain ⟨i, hi, rfl⟩ := ti_nat h1
    have g3 : ¬ (nI i < 0) := fun q => by rw [lt0] at q; omega
    have g4 : nI i < nI 2 := (nlt (by omega) (by omega)).mpr (by omega)
    have g5 : ¬ (m_X8_in E (nI i) (nI 0) (nI 1) = 0) := fun q => by rw [in0, nI_toInt (by omega), nI_toInt (by omega), nI_toInt (by omega)] at q; omega
    have rI0 : rl (nI i) = i := rlN (by omega)
    have c39 : rl (C 39 i) = 40 + i := by
      rcases (show i = 0 ∨ i = 1 by omega) with rfl | rfl
      · rw [a8.1]; exact rlN (by omega)
      · rw [a8.2.1]; exact rlN (by omega)
    have e1 : m_X7_keep C (nI i) = (nI 1, st (st (st (m_X1_copy C (40 + i) 3) 42 i (C 0 14)) 43 i tb) 4 1 (nI 0)) := by
      simp only [m_X7_keep_30, m_X7_keep_25, m_X7_keep_20, m_X7_keep_14, m_X7_keep, if_neg g3, if_pos g4, rI0, c39, tb]
      rw [cpJ C (by omega), if_neg (fun q => by omega)]
    have e2 : m_X8_keep E (nI i) = (nI 1, st (st (st (kpN E i 7) 64 (8 * i + 7) (E 58 9)) 65 i tb) 58 6 (nI 0)) := by
      unfold m_X8_keep
      rw [if_neg g5]
      have e : kpN E i 0 = E := by funext i' k'; unfold kpN; rw [if_neg (fun q => by omega)]
      have := kp_L (E := E) hi 2000 0 (by omega) (by omega)
      rw [e] at this; exact this
    have cO : ∀ j k, j ≠ 40 + i → j ≠ 42 → j ≠ 43 → j ≠ 4 → st (st (st (m_X1_copy C (40 + i) 3) 42 i (C 0 14)) 43 i tb) 4 1 (nI 0) j k = C j k := fun j k p1 p2 p3 p4 => by
      rw [st_ni p4, st_ni p3, st_ni p2, cpJ C (by omega), if_neg (fun q => p1 q.1)]
    have cF : ∀ j, j ≠ 40 + i → j ≠ 42 → j ≠ 43 → j ≠ 4 → st (st (st (m_X1_copy C (40 + i) 3) 42 i (C 0 14)) 43 i tb) 4 1 (nI 0) j = C j := fun j p1 p2 p3 p4 => funext (fun k => cO j k p1 p2 p3 p4)
    have eO : ∀ j k, j ≠ 64 → j ≠ 65 → (j ≠ 58 ∨ k ≠ 6) → st (st (st (kpN E i 7) 64 (8 * i + 7) (E 58 9)) 65 i tb) 58 6 (nI 0) j k = E j k := fun j k p1 p2 p3 => by
      rw [show st (st (st (kpN E i 7) 64 (8 * i + 7) (E 58 9)) 65 i tb) 58 6 (nI 0) j k = st (st (kpN E i 7) 64 (8 * i + 7) (E 58 9)) 65 i tb j k from if_neg (fun q => by omega), st_ni p2, st_ni p1]
      unfold kpN; rw [if_neg (fun q => p1 q.1)]
    have eF : ∀ j, j ≠ 64 → j ≠ 65 → j ≠ 58 → st (st (st (kpN E i 7) 64 (8 * i + 7) (E 58 9)) 65 i tb) 58 6 (nI 0) j = E j := fun j p1 p2 p3 => funext (fun k => eO j k p1 p2 (Or.inl p3))
    obtain ⟨s, s1, s2, s3⟩ := a6
    rw [e1, e2]
    show nI 1 = nI 1 ∧ RR (st (st (st (m_X1_copy C (40 + i) 3) 42 i (C 0 14)) 43 i tb) 4 1 (nI 0)) (st (st (st (kpN E i 7) 64 (8 * i + 7) (E 58 9)) 65 i tb) 58 6 (nI 0))
    refine ⟨rfl, a1.cg (cO _ _ (by omega) (by omega) (by omega) (by omega)) (cO _ _ (by omega) (by omega) (by omega) (by omega)) (cF _ (by omega) (by omega) (by omega) (by omega)) (eO _ _ (by decide) (by decide) (by omega)) (eO _ _ (by decide) (by decide) (by omega)) (eF _ (by decide) (by decide) (by decide)), a2.cg (cO _ _ (by omega) (by omega) (by omega) (by omega)) (cO _ _ (by omega) (by omega) (by omega) (by omega)) (fun j p1 p2 => cF j (by omega) (by omega) (by omega) (by omega)) (eF _ (by decide) (by decide) (by decide)), a3.cg (cO _ _ (by omega) (by omega) (by omega) (by omega)) (cF _ (by omega) (by omega) (by omega) (by omega)) (cF _ (by omega) (by omega) (by omega) (by omega)) (cO _ _ (by omega) (by omega) (by omega) (by omega)) (cF _ (by omega) (by omega) (by omega) (by omega)) (eO _ _ (by decide) (by decide) (by omega)) (eO _ _ (by decide) (by decide) (by omega)) (eF _ (by decide) (by decide) (by decide)) (eF _ (by decide) (by decide) (by decide)) (eO _ _ (by decide) (by decide) (by omega)), ?_, a5.cg (cF _ (by omega) (by omega) (by omega) (by omega)) (eF _ (by decide) (by decide) (by decide)), ⟨s, s1, (cO _ _ (by omega) (by omega) (by omega) (by omega)).trans s2, (eO _ _ (by decide) (by decide) (by omega)).trans s3⟩, ?_, ?_⟩
    · have k1 : ∀ j, st (st (st (m_X1_copy C (40 + i) 3) 42 i (C 0 14)) 43 i tb) 4 1 (nI 0) 43 j = if j = i then tb else C 43 j := fun j => by
        rw [st_ni (by decide)]
        by_cases q : j = i
        · subst q; rw [st_eq, if_pos rfl]
        · rw [st_nk q, st_ni (by decide), cpJ C (by omega), if_neg (fun p => by omega), if_neg q]
      have k2 : ∀ j, st (st (st (kpN E i 7) 64 (8 * i + 7) (E 58 9)) 65 i tb) 58 6 (nI 0) 65 j = if j = i then tb else E 65 j := fun j => by
        rw [st_ni (by decide)]
        by_cases q : j = i
        · subst q; rw [st_eq, if_pos rfl]
        · rw [st_nk q, st_ni (by decide), if_neg q]; unfold kpN; rw [if_neg (fun p => by omega)]
      unfold RK
      rw [k1, k1, k2, k2, a4.1, a4.2]; exact ⟨rfl, rfl⟩
    · obtain ⟨q', _, _, _, u4, u5, _⟩ := a7
      have c5 := cF 5 (by omega) (by omega) (by omega) (by omega)
      exact ⟨0, by omega, st_eq, st_eq, fun i hi => by rw [c5]; exact u4 i hi, fun i i' b1 b2 => by rw [c5]; exact u5 i i' b1 b2, fun i hi => absurd hi (Nat.not_lt_zero _)⟩
    · have c39' := cF 39 (by omega) (by omega) (by omega) (by omega)
      refine ⟨by rw [c39']; exact a8.1, by rw [c39']; exact a8.2.1, fun j hj => ?_⟩
      have m42 : ∀ j, st (st (st (m_X1_copy C (40 + i) 3) 42 i (C 0 14)) 43 i tb) 4 1 (nI 0) 42 j = if j = i then C 0 14 else C 42 j := fun j => by
        rw [st_ni (by decide), st_ni (by decide)]
        by_cases q : j = i
        · subst q; rw [st_eq, if_pos rfl]
        · rw [st_nk q, cpJ C (by omega), if_neg (fun p => by omega), if_neg q]
      have m64 : ∀ k, st (st (st (kpN E i 7) 64 (8 * i + 7) (E 58 9)) 65 i tb) 58 6 (nI 0) 64 k = if k = 8 * i + 7 then E 58 9 else if 8 * i ≤ k ∧ k < 8 * i + 7 then E 62 (k - 8 * i) else E 64 k := fun k => by
        rw [st_ni (by decide), st_ni (by decide)]
        by_cases q : k = 8 * i + 7
        · subst q; rw [st_eq, if_pos rfl]
        · rw [st_nk q, if_neg q]; unfold kpN
          by_cases q2 : 8 * i ≤ k ∧ k < 8 * i + 7
          · rw [if_pos ⟨rfl, q2⟩, if_pos q2]
          · rw [if_neg (fun p => q2 p.2), if_neg q2]
      rw [m42, m64]
      by_cases q : j = i
      · subst q
        refine ⟨fun k hk => ?_, s, s1, ?_, ?_⟩
        · rw [st_ni (by omega), st_ni (by omega), st_ni (by omega), cpJ C (by omega), if_pos ⟨rfl, hk⟩, m64, if_neg (by omega), if_pos (by omega), Nat.add_sub_cancel_left]
          exact a5 k hk
        · rw [if_pos rfl]; exact s2
        · rw [if_pos rfl]; exact s3
      · obtain ⟨v1, s', v2, v3, v4⟩ := a8.2.2 j hj
        refine ⟨fun k hk => ?_, s', v2, ?_, ?_⟩
        · rw [cO _ _ (by omega) (by omega) (by omega) (by omega), m64, if_neg (by omega), if_neg (by omega)]
          exact v1 k hk
        · rw [if_neg q]; exact v3
        · rw [if_neg (by omega), if_neg (by omega)]; exact v4
def gbN (E : SS) (i n : Nat) : SS := fun i' k' => if i' = 62 ∧ k' < n then E 64 (8 * i + k') else E i' k'
theorem gbN_s {E : SS} {i n : Nat} : st (gbN E i n) 62 n (E 64 (8 * i + n)) = gbN E i (n + 1) := by
  funext i' k'; unfold st gbN
  by_cases h1 : i' = 62
  · subst h1
    by_cases h2 : k' = n
    · rw [if_pos ⟨rfl, h2⟩, if_pos ⟨rfl, by omega⟩, h2]
    · rw [if_neg (fun q => h2 q.2)]
      by_cases h3 : k' < n
      · rw [if_pos ⟨rfl, h3⟩, if_pos ⟨rfl, by omega⟩]
      · rw [if_neg (fun q => h3 q.2), if_neg (fun q => by omega)]
  · rw [if_neg (fun q => h1 q.1), if_neg (fun q => h1 q.1), if_neg (fun q => h1 q.1)]
theorem gb_L {i : Nat} (hi : i < 2) : ∀ (m k : Nat), k ≤ 7 → 7 - k < m → m_X8_goBack_L26_19 m (gbN E i k) (nI k) (nI i) = (nI 1, st (st (gbN E i 7) 58 9 (E 64 (8 * i + 7))) 58 6 (nI 0)) := by
  intro m
  induction m with
  | zero => intro k _ h0; exact absurd h0 (Nat.not_lt_zero _)
  | succ m ih =>
    intro k hk hm
    have k1 : nI 8 * nI i + nI 7 = nI (8 * i + 7) := by rw [pk_mul, nI_add]
    have k2 : nI 8 * nI i + nI k = nI (8 * i + k) := by rw [pk_mul, nI_add]
    rw [show m_X8_goBack_L26_19 (m + 1) = m_X8_goBack_L26_19_b (m_X8_goBack_L26_19 m) from rfl]
    by_cases h1 : 7 ≤ k
    · have e : k = 7 := by omega
      subst e
      simp only [m_X8_goBack_52, m_X8_goBack_37, m_X8_goBack_34, m_X8_goBack_L26_19_b, m_X8_goBack, if_pos (show nI 7 ≤ nI 7 from (nle (by omega) (by omega)).mpr (by omega)), k1, rlN (show 8 * i + 7 < 2147483648 by omega)]
      rfl
    · have g1 : ¬ (nI 7 ≤ nI k) := fun q => h1 ((nle (by omega) (by omega)).mp q)
      simp only [m_X8_goBack_52, m_X8_goBack_37, m_X8_goBack_34, m_X8_goBack_L26_19_b, m_X8_goBack, if_neg g1, k2, rlN (show 8 * i + k < 2147483648 by omega), rlN (show k < 2147483648 by omega), oI1, n1]
      have e : gbN E i k 64 (8 * i + k) = E 64 (8 * i + k) := by unfold gbN; rw [if_neg (fun q => by omega)]
      rw [e, gbN_s]
      exact ih (k + 1) (by omega) (by omega)
theorem goBack_E (h : RR C E) (a : Int32) : (m_X7_goBack C a).1 = (m_X8_goBack E a).1 ∧ RR (m_X7_goBack C a).2 (m_X8_goBack E a).2 := by
  have hh := h
  obtain ⟨a1, a2, a3, a4, a5, a6, a7, a8⟩ := h
  by_cases h1 : a.toInt < 0 ∨ ((2 : Nat) : Int) ≤ a.toInt
  · have e1 : m_X7_goBack C a = ((-1000000001 : Int32), C) := by
      unfold m_X7_goBack
      by_cases q : a < 0
      · rw [if_pos q]
      · rw [if_neg q, if_neg (fun q2 => by rw [lt0] at q; rw [ltK (by omega)] at q2; omega)]
    have e2 : m_X8_goBack E a = ((-1000000001 : Int32), E) := by
      unfold m_X8_goBack; rw [if_pos (in0.mpr (by rw [nI_toInt (by omega), nI_toInt (by omega)]; omega))]
    rw [e1, e2]; exact ⟨rfl, hh⟩
  · obtain ⟨i, hi, rfl⟩ := ti_nat h1
    have g3 : ¬ (nI i < 0) := fun q => by rw [lt0] at q; omega
    have g4 : nI i < nI 2 := (nlt (by omega) (by omega)).mpr (by omega)
    have g5 : ¬ (m_X8_in E (nI i) (nI 0) (nI 1) = 0) := fun q => by rw [in0, nI_toInt (by omega), nI_toInt (by omega), nI_toInt (by omega)] at q; omega
    have rI0 : rl (nI i) = i := rlN (by omega)
    have c39 : rl (C 39 i) = 40 + i := by
      rcases (show i = 0 ∨ i = 1 by omega) with rfl | rfl
      · rw [a8.1]; exact rlN (by omega)
      · rw [a8.2.1]; exact rlN (by omega)
    have kk : C 43 i = E 65 i := by
      rcases (show i = 0 ∨ i = 1 by omega) with rfl | rfl
      · exact a4.1
      · exact a4.2
    by_cases hk0 : E 65 i = 0
    · have e1 : m_X7_goBack C (nI i) = ((-1000000003 : Int32), C) := by
        unfold m_X7_goBack; rw [if_neg g3, if_pos g4, rI0, kk, if_pos hk0]
      have e2 : m_X8_goBack E (nI i) = ((-1000000003 : Int32), E) := by
        unfold m_X8_goBack; rw [if_neg g5, rI0, if_pos hk0]
      rw [e1, e2]; exact ⟨rfl, hh⟩
    · have e1 : m_X7_goBack C (nI i) = (nI 1, st (st (m_X1_copy C 3 (40 + i)) 0 14 (C 42 i)) 4 1 (nI 0)) := by
        simp only [m_X7_goBack_32, m_X7_goBack_28, m_X7_goBack_20, m_X7_goBack, if_neg g3, if_pos g4, rI0, kk, if_neg hk0, c39]
        rw [cpJ C (by omega), if_neg (fun q => by omega)]
      have e2 : m_X8_goBack E (nI i) = (nI 1, st (st (gbN E i 7) 58 9 (E 64 (8 * i + 7))) 58 6 (nI 0)) := by
        unfold m_X8_goBack
        rw [if_neg g5, rI0, if_neg hk0]
        have e : gbN E i 0 = E := by funext i' k'; unfold gbN; rw [if_neg (fun q => by omega)]
        have := gb_L (E := E) hi 2000 0 (by omega) (by omega)
        rw [e] at this; exact this
      have cO : ∀ j k, j ≠ 3 → (j ≠ 0 ∨ k ≠ 14) → j ≠ 4 → st (st (m_X1_copy C 3 (40 + i)) 0 14 (C 42 i)) 4 1 (nI 0) j k = C j k := fun j k p1 p2 p4 => by
        rw [st_ni p4, show st (m_X1_copy C 3 (40 + i)) 0 14 (C 42 i) j k = m_X1_copy C 3 (40 + i) j k from if_neg (fun q => by omega), cpJ C (by omega), if_neg (fun q => p1 q.1)]
      have cF : ∀ j, j ≠ 3 → j ≠ 0 → j ≠ 4 → st (st (m_X1_copy C 3 (40 + i)) 0 14 (C 42 i)) 4 1 (nI 0) j = C j := fun j p1 p2 p4 => funext (fun k => cO j k p1 (Or.inl p2) p4)
      have eO : ∀ j k, j ≠ 62 → (j ≠ 58 ∨ (k ≠ 6 ∧ k ≠ 9)) → st (st (gbN E i 7) 58 9 (E 64 (8 * i + 7))) 58 6 (nI 0) j k = E j k := fun j k p1 p3 => by
        rw [show st (st (gbN E i 7) 58 9 (E 64 (8 * i + 7))) 58 6 (nI 0) j k = st (gbN E i 7) 58 9 (E 64 (8 * i + 7)) j k from if_neg (fun q => by omega), show st (gbN E i 7) 58 9 (E 64 (8 * i + 7)) j k = gbN E i 7 j k from if_neg (fun q => by omega)]
        unfold gbN; rw [if_neg (fun q => p1 q.1)]
      have eF : ∀ j, j ≠ 62 → j ≠ 58 → st (st (gbN E i 7) 58 9 (E 64 (8 * i + 7))) 58 6 (nI 0) j = E j := fun j p1 p2 => funext (fun k => eO j k p1 (Or.inl p2))
      obtain ⟨v1, s, s1, s2, s3⟩ := a8.2.2 i hi
      rw [e1, e2]
      show nI 1 = nI 1 ∧ RR (st (st (m_X1_copy C 3 (40 + i)) 0 14 (C 42 i)) 4 1 (nI 0)) (st (st (gbN E i 7) 58 9 (E 64 (8 * i + 7))) 58 6 (nI 0))
      refine ⟨rfl, a1.cg (cO _ _ (by omega) (by omega) (by omega)) (cO _ _ (by omega) (by omega) (by omega)) (cF _ (by omega) (by omega) (by omega)) (eO _ _ (by decide) (by omega)) (eO _ _ (by decide) (by omega)) (eF _ (by decide) (by decide)), a2.cg (cO _ _ (by omega) (by omega) (by omega)) (cO _ _ (by omega) (by omega) (by omega)) (fun j p1 p2 => cF j (by omega) (by omega) (by omega)) (eF _ (by decide) (by decide)), a3.cg (cO _ _ (by omega) (by omega) (by omega)) (cF _ (by omega) (by omega) (by omega)) (cF _ (by omega) (by omega) (by omega)) (cO _ _ (by omega) (by omega) (by omega)) (cF _ (by omega) (by omega) (by omega)) (eO _ _ (by decide) (by omega)) (eO _ _ (by decide) (by omega)) (eF _ (by decide) (by decide)) (eF _ (by decide) (by decide)) (eO _ _ (by decide) (by omega)), a4.cg (cF _ (by omega) (by omega) (by omega)) (eF _ (by decide) (by decide)), fun k hk => ?_, ⟨s, s1, ?_, ?_⟩, ?_, a8.cg (cF _ (by omega) (by omega) (by omega)) (cF _ (by omega) (by omega) (by omega)) (cF _ (by omega) (by omega) (by omega)) (cF _ (by omega) (by omega) (by omega)) (eF _ (by decide) (by decide))⟩
      · rw [st_ni (by decide), st_ni (by decide), cpJ C (by omega), if_pos ⟨rfl, hk⟩, st_ni (by decide), st_ni (by decide)]
        unfold gbN; rw [if_pos ⟨rfl, hk⟩]; exact v1 k hk
      · rw [st_ni (by decide), st_eq]; exact s2
      · rw [st_nk (by decide), st_eq]; exact s3
      · obtain ⟨q', _, _, _, u4, u5, _⟩ := a7
        have c5 := cF 5 (by omega) (by omega) (by omega)
        exact ⟨0, by omega, st_eq, st_eq, fun i hi => by rw [c5]; exact u4 i hi, fun i i' b1 b2 => by rw [c5]; exact u5 i i' b1 b2, fun i hi => absurd hi (Nat.not_lt_zero _)⟩
end TB
