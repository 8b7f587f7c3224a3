/-! what is done: the past, months -/
section PJ
variable {C E : SS}
def pkN (E : SS) (q n : Nat) : SS := fun i' k' => if i' = 63 ∧ 7 * q ≤ k' ∧ k' < 7 * q + n then E 62 (k' - 7 * q) else E i' k'
theorem pkN_s {E : SS} {q n : Nat} : st (pkN E q n) 63 (7 * q + n) (E 62 n) = pkN E q (n + 1) := by
  funext i' k'; unfold st pkN
  by_cases h1 : i' = 63
  · subst h1
    by_cases h2 : k' = 7 * q + n
    · rw [if_pos ⟨rfl, h2⟩, if_pos ⟨rfl, by omega, by omega⟩, h2, Nat.add_sub_cancel_left]
    · rw [if_neg (fun q => h2 q.2)]
      by_cases h3 : 7 * q ≤ k' ∧ k' < 7 * q + n
      · rw [if_pos ⟨rfl, h3⟩, if_pos ⟨rfl, by omega, by omega⟩]
      · rw [if_neg (fun q => h3 q.2), if_neg (fun q => by omega)]
  · rw [if_neg (fun q => h1 q.1), if_neg (fun q => h1 q.1), if_neg (fun q => h1 q.1)]
theorem pkN_0 {E : SS} {q : Nat} : pkN E q 0 = E := by funext i' k'; unfold pkN; rw [if_neg (fun q => by omega)]
theorem pk_La {q : Nat} (hq : q < 20) (hE : E 58 6 = nI q) : ∀ (m k : Nat), k ≤ 7 → 7 - k < m → m_X8_keeps_L51_7 m (pkN E q k) (nI k) = st (pkN E q 7) 58 6 (nI (q + 1)) := by
  intro m
  induction m with
  | zero => intro k _ h0; exact absurd h0 (Nat.not_lt_zero _)
  | succ m ih =>
    intro k hk hm
    have e6 : pkN E q k 58 6 = nI q := by unfold pkN; rw [if_neg (fun q => by omega)]; exact hE
    have e2 : pkN E q k 62 k = E 62 k := by unfold pkN; rw [if_neg (fun q => by omega)]
    have k2 : nI 7 * nI q + nI k = nI (7 * q + k) := by rw [pk_mul, nI_add]
    rw [show m_X8_keeps_L51_7 (m + 1) = m_X8_keeps_L51_7_b (m_X8_keeps_L51_7 m) from rfl]
    by_cases h1 : 7 ≤ k
    · have e : k = 7 := by omega
      subst e
      simp only [m_X8_keeps_107, m_X8_keeps_88, m_X8_keeps_72, m_X8_keeps_L51_61_b, m_X8_keeps_58, m_X8_keeps_L11_47_b, m_X8_keeps_34, m_X8_keeps_18, m_X8_keeps_L51_7_b, m_X8_keeps, if_pos (show nI 7 ≤ nI 7 from (nle (by omega) (by omega)).mpr (by omega)), e6, n1]
    · have g1 : ¬ (nI 7 ≤ nI k) := fun q => h1 ((nle (by omega) (by omega)).mp q)
      simp only [m_X8_keeps_107, m_X8_keeps_88, m_X8_keeps_72, m_X8_keeps_L51_61_b, m_X8_keeps_58, m_X8_keeps_L11_47_b, m_X8_keeps_34, m_X8_keeps_18, m_X8_keeps_L51_7_b, m_X8_keeps, if_neg g1, e6, k2, rlN (show 7 * q + k < 2147483648 by omega), rlN (show k < 2147483648 by omega), oI1, n1, e2, pkN_s]
      exact ih (k + 1) (by omega) (by omega)
theorem pk_Lb {q : Nat} (hq : q < 20) (hE : E 58 6 = nI q) (k0 : SS → Int32 → SS) : ∀ (m k : Nat), k ≤ 7 → 7 - k < m → m_X8_keeps_L51_61 k0 m (pkN E q k) (nI k) = st (pkN E q 7) 58 6 (nI (q + 1)) := by
  intro m
  induction m with
  | zero => intro k _ h0; exact absurd h0 (Nat.not_lt_zero _)
  | succ m ih =>
    intro k hk hm
    have e6 : pkN E q k 58 6 = nI q := by unfold pkN; rw [if_neg (fun q => by omega)]; exact hE
    have e2 : pkN E q k 62 k = E 62 k := by unfold pkN; rw [if_neg (fun q => by omega)]
    have k2 : nI 7 * nI q + nI k = nI (7 * q + k) := by rw [pk_mul, nI_add]
    rw [show m_X8_keeps_L51_61 k0 (m + 1) = m_X8_keeps_L51_61_b k0 (m_X8_keeps_L51_61 k0 m) from rfl]
    by_cases h1 : 7 ≤ k
    · have e : k = 7 := by omega
      subst e
      simp only [m_X8_keeps_107, m_X8_keeps_88, m_X8_keeps_72, m_X8_keeps_L51_61_b, m_X8_keeps_58, m_X8_keeps_L11_47_b, m_X8_keeps_34, m_X8_keeps_18, m_X8_keeps_L51_7_b, m_X8_keeps, if_pos (show nI 7 ≤ nI 7 from (nle (by omega) (by omega)).mpr (by omega)), e6, n1]
    · have g1 : ¬ (nI 7 ≤ nI k) := fun q => h1 ((nle (by omega) (by omega)).mp q)
      simp only [m_X8_keeps_107, m_X8_keeps_88, m_X8_keeps_72, m_X8_keeps_L51_61_b, m_X8_keeps_58, m_X8_keeps_L11_47_b, m_X8_keeps_34, m_X8_keeps_18, m_X8_keeps_L51_7_b, m_X8_keeps, if_neg g1, e6, k2, rlN (show 7 * q + k < 2147483648 by omega), rlN (show k < 2147483648 by omega), oI1, n1, e2, pkN_s]
      exact ih (k + 1) (by omega) (by omega)
def shN (E : SS) (n : Nat) : SS := fun i' k' => if i' = 63 ∧ k' < n then E 63 (k' + 7) else E i' k'
theorem shN_s {E : SS} {n : Nat} : st (shN E n) 63 n (E 63 (n + 7)) = shN E (n + 1) := by
  funext i' k'; unfold st shN
  by_cases h1 : i' = 63
  · subst h1
    by_cases h2 : k' = n
    · rw [if_pos ⟨rfl, h2⟩, if_pos ⟨rfl, by omega⟩, h2]
    · rw [if_neg (fun q => h2 q.2)]
      by_cases h3 : k' < n
      · rw [if_pos ⟨rfl, h3⟩, if_pos ⟨rfl, by omega⟩]
      · rw [if_neg (fun q => h3 q.2), if_neg (fun q => by omega)]
  · rw [if_neg (fun q => h1 q.1), if_neg (fun q => h1 q.1), if_neg (fun q => h1 q.1)]
theorem sh_L (hE : E 58 6 = nI 20) : ∀ (m k : Nat), k ≤ 133 → 133 - k < m → m_X8_keeps_L11_47 m (shN E k) (nI k) = st (pkN (st (shN E 133) 58 6 (nI 19)) 19 7) 58 6 (nI 20) := by
  intro m
  induction m with
  | zero => intro k _ h0; exact absurd h0 (Nat.not_lt_zero _)
  | succ m ih =>
    intro k hk hm
    have e6 : shN E k 58 6 = nI 20 := by unfold shN; rw [if_neg (fun q => by omega)]; exact hE
    have e2 : shN E k 63 (k + 7) = E 63 (k + 7) := by unfold shN; rw [if_neg (fun q => by omega)]
    have k2 : nI k + nI 7 = nI (k + 7) := nI_add _ _
    rw [show m_X8_keeps_L11_47 (m + 1) = m_X8_keeps_L11_47_b (m_X8_keeps_L11_47 m) from rfl]
    by_cases h1 : 133 ≤ k
    · have e : k = 133 := by omega
      subst e
      have hx := pk_Lb (E := st (shN E 133) 58 6 (nI 19)) (q := 19) (by omega) st_eq (m_X8_keeps_L11_47 m) 2000 0 (by omega) (by omega)
      rw [pkN_0] at hx
      simp only [m_X8_keeps_107, m_X8_keeps_88, m_X8_keeps_72, m_X8_keeps_L51_61_b, m_X8_keeps_58, m_X8_keeps_L11_47_b, m_X8_keeps_34, m_X8_keeps_18, m_X8_keeps_L51_7_b, m_X8_keeps, if_pos (show nI 133 ≤ nI 133 from (nle (by omega) (by omega)).mpr (by omega)), e6, show nI 20 - nI 1 = nI 19 from pk_sub (by omega)]
      exact hx
    · have g1 : ¬ (nI 133 ≤ nI k) := fun q => h1 ((nle (by omega) (by omega)).mp q)
      simp only [m_X8_keeps_107, m_X8_keeps_88, m_X8_keeps_72, m_X8_keeps_L51_61_b, m_X8_keeps_58, m_X8_keeps_L11_47_b, m_X8_keeps_34, m_X8_keeps_18, m_X8_keeps_L51_7_b, m_X8_keeps, if_neg g1, k2, rlN (show k + 7 < 2147483648 by omega), rlN (show k < 2147483648 by omega), oI1, n1, e2, shN_s]
      exact ih (k + 1) (by omega) (by omega)
theorem shN_0 {E : SS} : shN E 0 = E := by funext i' k'; unfold shN; rw [if_neg (fun q => by omega)]
theorem keeps_a {q : Nat} (hq : q < 20) (hE : E 58 6 = nI q) : m_X8_keeps E = st (pkN E q 7) 58 6 (nI (q + 1)) := by
  have hx := pk_La (E := E) hq hE 2000 0 (by omega) (by omega)
  rw [pkN_0] at hx
  unfold m_X8_keeps
  rw [hE, if_neg (fun p => by rw [neq (by omega) (by omega)] at p; omega)]; exact hx
theorem keeps_b (hE : E 58 6 = nI 20) : m_X8_keeps E = st (pkN (st (shN E 133) 58 6 (nI 19)) 19 7) 58 6 (nI 20) := by
  have hx := sh_L (E := E) hE 2000 0 (by omega) (by omega)
  rw [shN_0] at hx
  unfold m_X8_keeps
  rw [hE, if_pos rfl]; exact hx
theorem keeps_o {q : Nat} (hq : q ≤ 20) (hE : E 58 6 = nI q) {i k : Nat} (h1 : i ≠ 63) (h2 : i ≠ 58 ∨ k ≠ 6) : m_X8_keeps E i k = E i k := by
  by_cases h : q = 20
  · subst h
    rw [keeps_b hE, show st (pkN (st (shN E 133) 58 6 (nI 19)) 19 7) 58 6 (nI 20) i k = pkN (st (shN E 133) 58 6 (nI 19)) 19 7 i k from if_neg (fun q => by omega)]
    unfold pkN; rw [if_neg (fun q => h1 q.1), show st (shN E 133) 58 6 (nI 19) i k = shN E 133 i k from if_neg (fun q => by omega)]
    unfold shN; rw [if_neg (fun q => h1 q.1)]
  · rw [keeps_a (by omega) hE, show st (pkN E q 7) 58 6 (nI (q + 1)) i k = pkN E q 7 i k from if_neg (fun q => by omega)]
    unfold pkN; rw [if_neg (fun q => h1 q.1)]
def loN (C : SS) (n : Nat) : SS := fun i' k' => if i' = 5 ∧ k' + 1 < n then C 5 (k' + 1) else C i' k'
theorem loN_s {C : SS} {n : Nat} (hn : 1 ≤ n) : st (loN C n) 5 (n - 1) (C 5 n) = loN C (n + 1) := by
  funext i' k'; unfold st loN
  by_cases h1 : i' = 5
  · subst h1
    by_cases h2 : k' = n - 1
    · rw [if_pos ⟨rfl, h2⟩, if_pos ⟨rfl, by omega⟩, show k' + 1 = n by omega]
    · rw [if_neg (fun q => h2 q.2)]
      by_cases h3 : k' + 1 < n
      · rw [if_pos ⟨rfl, h3⟩, if_pos ⟨rfl, by omega⟩]
      · rw [if_neg (fun q => h3 q.2), if_neg (fun q => by omega)]
  · rw [if_neg (fun q => h1 q.1), if_neg (fun q => h1 q.1), if_neg (fun q => h1 q.1)]
theorem lo_L (hC : ∀ i, i < 20 → nI (rl (C 5 i)) = C 5 i) (a : Nat) : ∀ (m k : Nat), 1 ≤ k → k ≤ 20 → 20 - k < m → m_X2_loseOldest_L9_7 m (loN C k) (nI k) a = st (st (loN C 20) 5 19 (nI a)) 4 1 (nI 19) := by
  intro m
  induction m with
  | zero => intro k _ _ h0; exact absurd h0 (Nat.not_lt_zero _)
  | succ m ih =>
    intro k hk1 hk hm
    rw [show m_X2_loseOldest_L9_7 (m + 1) = m_X2_loseOldest_L9_7_b (m_X2_loseOldest_L9_7 m) from rfl]
    by_cases h1 : 20 ≤ k
    · have e : k = 20 := by omega
      subst e
      simp only [m_X2_loseOldest_31, m_X2_loseOldest_19, m_X2_loseOldest_15, m_X2_loseOldest_L9_7_b, m_X2_loseOldest, if_pos (show nI 20 ≤ nI 20 from (nle (by omega) (by omega)).mpr (by omega)), rlN (show 19 < 2147483648 by omega)]
    · have g1 : ¬ (nI 20 ≤ nI k) := fun q => h1 ((nle (by omega) (by omega)).mp q)
      have e2 : loN C k 5 k = C 5 k := by unfold loN; rw [if_neg (fun q => by omega)]
      simp only [m_X2_loseOldest_31, m_X2_loseOldest_19, m_X2_loseOldest_15, m_X2_loseOldest_L9_7_b, m_X2_loseOldest, if_neg g1, show nI k - nI 1 = nI (k - 1) from pk_sub hk1, rlN (show k - 1 < 2147483648 by omega), rlN (show k < 2147483648 by omega), oI1, n1, e2, hC k (by omega), loN_s hk1]
      exact ih (k + 1) (by omega) (by omega) (by omega)
theorem lose_E (hC : ∀ i, i < 20 → nI (rl (C 5 i)) = C 5 i) : m_X2_loseOldest C = st (st (loN C 20) 5 19 (C 5 0)) 4 1 (nI 19) := by
  have hx := lo_L hC (rl (C 5 0)) 2000 1 (by omega) (by omega) (by omega)
  rw [hC 0 (by omega), show loN C 1 = C by funext i' k'; unfold loN; rw [if_neg (fun q => by omega)]] at hx
  unfold m_X2_loseOldest
  rw [r0]; exact hx
theorem push_a {q : Nat} (hq : q < 20) (h4 : C 4 1 = nI q) {j : Nat} (hj : rl (C 5 q) = j) (h6 : 6 ≤ j) (h26 : j < 26) : m_X2_push C 3 = st (m_X1_copy C j 3) 4 1 (nI (q + 1)) := by
  have e4 : m_X1_copy C j 3 4 1 = nI q := by rw [cpJ C (by omega), if_neg (fun p => by omega)]; exact h4
  simp only [m_X2_push_39, m_X2_push_32, m_X2_push_24, m_X2_push_18, m_X2_push_11, m_X2_push, h4, if_pos (show nI q < nI 20 from (nlt (by omega) (by omega)).mpr hq), rlN (show q < 2147483648 by omega), hj, e4, n1]
theorem push_b (h4 : C 4 1 = nI 20) (hC : ∀ i, i < 20 → nI (rl (C 5 i)) = C 5 i) {j : Nat} (hj : rl (C 5 0) = j) (h6 : 6 ≤ j) (h26 : j < 26) : m_X2_push C 3 = st (m_X1_copy (st (st (loN C 20) 5 19 (C 5 0)) 4 1 (nI 19)) j 3) 4 1 (nI 20) := by
  have e4 : m_X1_copy (st (st (loN C 20) 5 19 (C 5 0)) 4 1 (nI 19)) j 3 4 1 = nI 19 := by rw [cpJ _ (by omega), if_neg (fun p => by omega)]; exact st_eq
  have e5 : st (st (loN C 20) 5 19 (C 5 0)) 4 1 (nI 19) 5 19 = C 5 0 := by rw [st_ni (by decide), st_eq]
  simp only [m_X2_push_39, m_X2_push_32, m_X2_push_24, m_X2_push_18, m_X2_push_11, m_X2_push, h4, if_neg (show ¬ (nI 20 < nI 20) by decide +kernel), lose_E hC, st_eq, rlN (show 19 < 2147483648 by omega), e5, hj, e4, n1, Nat.reduceAdd]
theorem push_E (h : RR C E) : RR (m_X2_push C 3) (m_X8_keeps E) := by
  obtain ⟨a1, a2, a3, a4, a5, a6, a7, a8⟩ := h
  obtain ⟨q, p1, p2, p3, p4, p5, p6⟩ := a7
  have hC : ∀ i, i < 20 → nI (rl (C 5 i)) = C 5 i := fun i hi => by
    obtain ⟨j, j1, j2, j3⟩ := p4 i hi
    rw [j3, rlN (by omega)]
  have eO : ∀ i k, i ≠ 63 → (i ≠ 58 ∨ k ≠ 6) → m_X8_keeps E i k = E i k := fun i k h1 h2 => keeps_o p1 p3 h1 h2
  have eF : ∀ i, i ≠ 63 → i ≠ 58 → m_X8_keeps E i = E i := fun i h1 h2 => funext (fun k => eO i k h1 (Or.inl h2))
  have main : (∀ i k, i ≠ 4 → i ≠ 5 → ¬ (6 ≤ i ∧ i < 26) → m_X2_push C 3 i k = C i k) ∧ RP (m_X2_push C 3) (m_X8_keeps E) := by
    by_cases hq : q = 20
    · subst hq
      obtain ⟨j, j1, j2, j3⟩ := p4 0 (by omega)
      have hj : rl (C 5 0) = j := by rw [j3]; exact rlN (by omega)
      rw [push_b p2 hC hj j1 j2, keeps_b p3]
      generalize hX : st (st (loN C 20) 5 19 (C 5 0)) 4 1 (nI 19) = X
      have xo : ∀ i k, i ≠ 4 → i ≠ 5 → X i k = C i k := fun i k h1 h2 => by rw [← hX, st_ni h1, st_ni h2]; unfold loN; rw [if_neg (fun q => h2 q.1)]
      have x5 : ∀ k, k < 19 → X 5 k = C 5 (k + 1) := fun k hk => by rw [← hX, st_ni (by decide), st_nk (by omega)]; unfold loN; rw [if_pos ⟨rfl, by omega⟩]
      have x59 : X 5 19 = C 5 0 := by rw [← hX, st_ni (by decide), st_eq]
      have c5 : ∀ k, st (m_X1_copy X j 3) 4 1 (nI 20) 5 k = X 5 k := fun k => by rw [st_ni (by decide), cpJ X (by omega), if_neg (fun p => by omega)]
      have cj : ∀ i k, i ≠ 4 → st (m_X1_copy X j 3) 4 1 (nI 20) i k = if i = j ∧ k < 7 then C 3 k else X i k := fun i k h1 => by rw [st_ni h1, cpJ X (by omega), xo 3 k (by decide) (by decide)]
      have e63 : ∀ k, st (pkN (st (shN E 133) 58 6 (nI 19)) 19 7) 58 6 (nI 20) 63 k = if 133 ≤ k ∧ k < 140 then E 62 (k - 133) else if k < 133 then E 63 (k + 7) else E 63 k := fun k => by
        rw [st_ni (by decide)]
        unfold pkN
        by_cases h1 : 133 ≤ k ∧ k < 140
        · rw [if_pos ⟨rfl, by omega, by omega⟩, if_pos h1, st_ni (by decide)]; unfold shN; rw [if_neg (fun q => by omega)]
        · rw [if_neg (fun q => by omega), if_neg h1, st_ni (by decide)]; unfold shN
          by_cases h2 : k < 133
          · rw [if_pos ⟨rfl, h2⟩, if_pos h2]
          · rw [if_neg (fun q => h2 q.2), if_neg h2]
      refine ⟨fun i k h1 h2 h3 => by rw [cj i k h1, if_neg (fun p => by omega)]; exact xo i k h1 h2, 20, by omega, st_eq, st_eq, fun i hi => ?_, fun i i' b1 b2 => ?_, fun i hi k hk => ?_⟩
      · rw [c5]
        by_cases h1 : i < 19
        · rw [x5 i h1]; exact p4 (i + 1) (by omega)
        · rw [show i = 19 by omega, x59]; exact p4 0 (by omega)
      · rw [c5, c5]
        intro heq
        by_cases h1 : i < 19
        · by_cases h2 : i' < 19
          · rw [x5 i h1, x5 i' h2] at heq
            have := p5 _ _ (by omega) (by omega) heq
            omega
          · rw [x5 i h1, show i' = 19 by omega, x59] at heq
            have := p5 _ _ (by omega) (by omega) heq
            omega
        · by_cases h2 : i' < 19
          · rw [x5 i' h2, show i = 19 by omega, x59] at heq
            have := p5 _ _ (by omega) (by omega) heq
            omega
          · omega
      · rw [c5, e63]
        by_cases h1 : i < 19
        · obtain ⟨j', u1, u2, u3⟩ := p4 (i + 1) (by omega)
          have hj' : rl (C 5 (i + 1)) = j' := by rw [u3]; exact rlN (by omega)
          have hne : j' ≠ j := fun p => by
            have := p5 (i + 1) 0 (by omega) (by omega) (by rw [u3, j3, p])
            omega
          rw [x5 i h1, hj', cj _ _ (by omega), if_neg (fun p => hne p.1), xo _ _ (by omega) (by omega), if_neg (by omega), if_pos (by omega)]
          have := p6 (i + 1) (by omega) k hk
          rw [hj'] at this
          rw [this, show 7 * (i + 1) + k = 7 * i + k + 7 by omega]
        · have e : i = 19 := by omega
          subst e
          rw [x59, hj, cj _ _ (by omega), if_pos ⟨rfl, hk⟩, if_pos (by omega), show 7 * 19 + k - 133 = k by omega]
          exact a5 k hk
    · obtain ⟨j, j1, j2, j3⟩ := p4 q (by omega)
      have hj : rl (C 5 q) = j := by rw [j3]; exact rlN (by omega)
      rw [push_a (by omega) p2 hj j1 j2, keeps_a (by omega) p3]
      have cj : ∀ i k, i ≠ 4 → st (m_X1_copy C j 3) 4 1 (nI (q + 1)) i k = if i = j ∧ k < 7 then C 3 k else C i k := fun i k h1 => by rw [st_ni h1, cpJ C (by omega)]
      have c5 : ∀ k, st (m_X1_copy C j 3) 4 1 (nI (q + 1)) 5 k = C 5 k := fun k => by rw [cj 5 k (by decide), if_neg (fun p => by omega)]
      have e63 : ∀ k, st (pkN E q 7) 58 6 (nI (q + 1)) 63 k = if 7 * q ≤ k ∧ k < 7 * q + 7 then E 62 (k - 7 * q) else E 63 k := fun k => by
        rw [st_ni (by decide)]
        unfold pkN
        by_cases h1 : 7 * q ≤ k ∧ k < 7 * q + 7
        · rw [if_pos ⟨rfl, h1⟩, if_pos h1]
        · rw [if_neg (fun p => h1 p.2), if_neg h1]
      refine ⟨fun i k h1 h2 h3 => by rw [cj i k h1, if_neg (fun p => by omega)], q + 1, by omega, st_eq, st_eq, fun i hi => by rw [c5]; exact p4 i hi, fun i i' b1 b2 => by rw [c5, c5]; exact p5 i i' b1 b2, fun i hi k hk => ?_⟩
      rw [c5, e63]
      by_cases h1 : i = q
      · subst h1
        rw [hj, cj _ _ (by omega), if_pos ⟨rfl, hk⟩, if_pos (by omega), Nat.add_sub_cancel_left]
        exact a5 k hk
      · obtain ⟨j', u1, u2, u3⟩ := p4 i (by omega)
        have hj' : rl (C 5 i) = j' := by rw [u3]; exact rlN (by omega)
        have hne : j' ≠ j := fun p => h1 (p5 i q (by omega) (by omega) (by rw [u3, j3, p]))
        rw [hj', cj _ _ (by omega), if_neg (fun p => hne p.1), if_neg (by omega)]
        have := p6 i (by omega) k hk
        rw [hj'] at this; exact this
  obtain ⟨cO, mP⟩ := main
  have cF : ∀ i, i ≠ 4 → i ≠ 5 → ¬ (6 ≤ i ∧ i < 26) → m_X2_push C 3 i = C i := fun i h1 h2 h3 => funext (fun k => cO i k h1 h2 h3)
  exact ⟨a1.cg (cO _ _ (by omega) (by omega) (by omega)) (cO _ _ (by omega) (by omega) (by omega)) (cF _ (by omega) (by omega) (by omega)) (eO _ _ (by decide) (by omega)) (eO _ _ (by decide) (by omega)) (eF _ (by decide) (by decide)), a2.cg (cO _ _ (by omega) (by omega) (by omega)) (cO _ _ (by omega) (by omega) (by omega)) (fun i b1 b2 => cF i (by omega) (by omega) (by omega)) (eF _ (by decide) (by decide)), a3.cg (cO _ _ (by omega) (by omega) (by omega)) (cF _ (by omega) (by omega) (by omega)) (cF _ (by omega) (by omega) (by omega)) (cO _ _ (by omega) (by omega) (by omega)) (cF _ (by omega) (by omega) (by omega)) (eO _ _ (by decide) (by omega)) (eO _ _ (by decide) (by omega)) (eF _ (by decide) (by decide)) (eF _ (by decide) (by decide)) (eO _ _ (by decide) (by omega)), a4.cg (cF _ (by omega) (by omega) (by omega)) (eF _ (by decide) (by decide)), a5.cg (cF _ (by omega) (by omega) (by omega)) (eF _ (by decide) (by decide)), a6.cg (cO _ _ (by omega) (by omega) (by omega)) (eO _ _ (by decide) (by omega)), mP, a8.cg (cF _ (by omega) (by omega) (by omega)) (cF _ (by omega) (by omega) (by omega)) (cF _ (by omega) (by omega) (by omega)) (cF _ (by omega) (by omega) (by omega)) (eF _ (by decide) (by decide))⟩
end PJ
