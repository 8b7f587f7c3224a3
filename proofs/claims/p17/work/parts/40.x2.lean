/-! seals: a month of the reference's -/
section XC
variable {E : SS} {T R : Nat}
theorem mask_b {t k : Nat} (ht : t < 8) (hk : k < 64) : lb ((31 : Int64) <<< ((nI 5 * nI t).toInt64 &&& 63)) k = decide (5 * t ≤ k ∧ k < 5 * t + 5) := by
  rw [pk_mul, l_shl (by omega) _ hk]
  by_cases q : 5 * t ≤ k
  · rw [l_31 (k - 5 * t) (by omega), decide_eq_true q, Bool.true_and, decide_eq_decide]; omega
  · rw [decide_eq_false q, Bool.false_and, decide_eq_false (fun p => q p.1)]
theorem wk_L1 (h2 : E 60 2 = nI T) (hT : T ≤ 8) {W : Int32} {t S : Nat} (hS : S < 256) {al : Int64} {mo : Int32} (k0 k1 : S3 → Int32 → Int32 → S3) (k2 : S3 → Int32 → Int32 → Int32 → S3) (k3 : S3 → Int32 → Int64 → Int32 → Int32 → S3) : ∀ (m u : Nat) (w : Nat → Nat → Int64), u ≤ T → T - u < m → ∃ w', m_X8_sealsOn_L174_139 k0 k1 k2 k3 m (E, w) (nI u) W (nI t) al (nI S) mo = k3 (E, w') (nI (t + 1)) al (nI S) mo ∧ (∀ i, i ≠ 70 → w' i = w i) ∧ ∀ S' k, (lb (w' 70 S') k = true ↔ lb (w 70 S') k = true ∨ (S' = S ∧ ∃ v, u ≤ v ∧ v < T ∧ bt W v = true ∧ k = 5 * v)) := by
  intro m
  induction m with
  | zero => intro u w _ q; exact absurd q (Nat.not_lt_zero _)
  | succ m ih =>
    intro u w hu hm
    rw [show m_X8_sealsOn_L174_139 k0 k1 k2 k3 (m + 1) = m_X8_sealsOn_L174_139_b k0 k1 k2 k3 (m_X8_sealsOn_L174_139 k0 k1 k2 k3 m) from rfl]
    unfold m_X8_sealsOn_L174_139_b
    rw [r2, show (E, w).1 60 2 = nI T from h2, oI1, n1 t]
    by_cases g1 : T ≤ u
    · rw [if_pos ((nle (by omega) (by omega)).mpr g1)]
      exact ⟨w, rfl, fun i _ => rfl, fun S' k => ⟨Or.inl, fun h => h.elim id (fun ⟨_, v, p1, p2, _⟩ => by omega)⟩⟩
    · rw [if_neg (fun q => g1 ((nle (by omega) (by omega)).mp q)), rlN (show S < 2147483648 by omega), bit_E]
      cases q : bt W u
      · rw [if_neg (fun p => by rw [b_ask1 (by omega), q] at p; cases p)]
        unfold m_X8_sealsOn_166
        rw [oI1, n1 u]
        obtain ⟨w', e1, e2, e3⟩ := ih (u + 1) (stL w 70 S (w 70 S ||| 0)) (by omega) (by omega)
        refine ⟨w', e1, fun i hi => (e2 i hi).trans (stL_ni hi), fun S' k => ?_⟩
        rw [e3, stL_b, l_0]
        constructor
        · rintro ((h | ⟨_, h⟩) | ⟨h1, v, p1, p2⟩)
          · exact Or.inl h
          · cases h
          · exact Or.inr ⟨h1, v, by omega, p2⟩
        · rintro (h | ⟨h1, v, p1, p2, p3, p4⟩)
          · exact Or.inl (Or.inl h)
          · by_cases z : v = u
            · subst z; rw [q] at p3; cases p3
            · exact Or.inr ⟨h1, v, by omega, p2, p3, p4⟩
      · rw [if_pos ((b_ask1 (by omega)).mpr q)]
        unfold m_X8_sealsOn_177
        rw [oI1, n1 u]
        obtain ⟨w', e1, e2, e3⟩ := ih (u + 1) (stL w 70 S (w 70 S ||| lB (5 * u + 0))) (by omega) (by omega)
        refine ⟨w', e1, fun i hi => (e2 i hi).trans (stL_ni hi), fun S' k => ?_⟩
        rw [e3, stL_b, l_bit (by omega), decide_eq_true_eq]
        constructor
        · rintro ((h | ⟨h1, h⟩) | ⟨h1, v, p1, p2⟩)
          · exact Or.inl h
          · exact Or.inr ⟨h1, u, Nat.le_refl _, by omega, q, by omega⟩
          · exact Or.inr ⟨h1, v, by omega, p2⟩
        · rintro (h | ⟨h1, v, p1, p2, p3, p4⟩)
          · exact Or.inl (Or.inl h)
          · by_cases z : v = u
            · subst z; exact Or.inl (Or.inr ⟨h1, by omega⟩)
            · exact Or.inr ⟨h1, v, by omega, p2, p3, p4⟩
theorem wk_L0 (h2 : E 60 2 = nI T) (hT : T ≤ 8) {t S : Nat} (hS : S < 256) {al : Int64} {mo : Int32} (k0 k1 : S3 → Int32 → Int32 → S3) (k2 : S3 → Int32 → Int32 → Int32 → S3) (k3 : S3 → Int32 → Int64 → Int32 → Int32 → S3) : ∀ (m u : Nat) (w : Nat → Nat → Int64), u ≤ T → T - u < m → ∃ w', m_X8_sealsOn_L174_86 k0 k1 k2 k3 m (E, w) (nI u) (nI t) al (nI S) mo = k3 (E, w') (nI (t + 1)) al (nI S) mo ∧ (∀ i, i ≠ 70 → w' i = w i) ∧ ∀ S' k, (lb (w' 70 S') k = true ↔ lb (w 70 S') k = true) := by
  intro m
  induction m with
  | zero => intro u w _ q; exact absurd q (Nat.not_lt_zero _)
  | succ m ih =>
    intro u w hu hm
    rw [show m_X8_sealsOn_L174_86 k0 k1 k2 k3 (m + 1) = m_X8_sealsOn_L174_86_b k0 k1 k2 k3 (m_X8_sealsOn_L174_86 k0 k1 k2 k3 m) from rfl]
    unfold m_X8_sealsOn_L174_86_b
    rw [r2, show (E, w).1 60 2 = nI T from h2, oI1, n1 t]
    by_cases g1 : T ≤ u
    · rw [if_pos ((nle (by omega) (by omega)).mpr g1)]
      exact ⟨w, rfl, fun i _ => rfl, fun S' k => Iff.rfl⟩
    · rw [if_neg (fun q => g1 ((nle (by omega) (by omega)).mp q)), rlN (show S < 2147483648 by omega), if_neg (fun p => by rw [b_ask1 (by omega), b_n0] at p; cases p)]
      unfold m_X8_sealsOn_113
      rw [oI1, n1 u]
      obtain ⟨w', e1, e2, e3⟩ := ih (u + 1) (stL w 70 S (w 70 S ||| 0)) (by omega) (by omega)
      refine ⟨w', e1, fun i hi => (e2 i hi).trans (stL_ni hi), fun S' k => ?_⟩
      rw [e3, stL_b, l_0]
      exact ⟨fun h => h.elim id (fun h => by cases h.2), Or.inl⟩
theorem tw_L (h2 : E 60 2 = nI T) (hT : T ≤ 8) {S : Nat} (hS : S < 256) {al : Int64} {mo : Int32} (k0 k1 : S3 → Int32 → Int32 → S3) (k2 : S3 → Int32 → Int32 → Int32 → S3) : ∀ (m t : Nat) (w : Nat → Nat → Int64), t ≤ T → T - t < m → ∃ w', m_X8_sealsOn_L129_62 k0 k1 k2 m (E, w) (nI t) al (nI S) mo = k1 (E, w') (nI (S + 1)) mo ∧ (∀ i, i ≠ 70 → w' i = w i) ∧ ∀ S' k, (lb (w' 70 S') k = true ↔ lb (w 70 S') k = true ∨ (S' = S ∧ ∃ t', t ≤ t' ∧ t' < T ∧ anyp al t' = true ∧ ∃ u, u < T ∧ bt (m_X8_walks E (nI t') (E 62 5)) u = true ∧ k = 5 * u)) := by
  intro m
  induction m with
  | zero => intro t w _ q; exact absurd q (Nat.not_lt_zero _)
  | succ m ih =>
    intro t w ht hm
    rw [show m_X8_sealsOn_L129_62 k0 k1 k2 (m + 1) = m_X8_sealsOn_L129_62_b k0 k1 k2 (m_X8_sealsOn_L129_62 k0 k1 k2 m) from rfl]
    unfold m_X8_sealsOn_L129_62_b
    rw [r2, show (E, w).1 60 2 = nI T from h2, oI1, n1 S]
    by_cases g1 : T ≤ t
    · rw [if_pos ((nle (by omega) (by omega)).mpr g1)]
      exact ⟨w, rfl, fun i _ => rfl, fun S' k => ⟨Or.inl, fun h => h.elim id (fun ⟨_, v, p1, p2, _⟩ => by omega)⟩⟩
    · rw [if_neg (fun q => g1 ((nle (by omega) (by omega)).mp q)), r5]
      have tb : bt (m_X8_towns E al) t = anyp al t := by rw [towns_E, decide_eq_true (show t < 8 by omega), Bool.true_and]
      cases q : anyp al t
      · rw [if_neg (fun p => by
          have p' := (b_ask1 (x := m_X8_towns E al) (b := t) (by omega)).mp p
          rw [tb, q] at p'; cases p')]
        obtain ⟨w1, d1, d2, d3⟩ := wk_L0 h2 hT (t := t) hS (al := al) (mo := mo) k0 k1 k2 (m_X8_sealsOn_L129_62 k0 k1 k2 m) 2000 0 w (by omega) (by omega)
        rw [d1]
        obtain ⟨w', e1, e2, e3⟩ := ih (t + 1) w1 (by omega) (by omega)
        refine ⟨w', e1, fun i hi => (e2 i hi).trans (d2 i hi), fun S' k => ?_⟩
        rw [e3, d3]
        refine or_congr Iff.rfl ⟨fun ⟨h1, v, p1, p2⟩ => ⟨h1, v, by omega, p2⟩, fun ⟨h1, v, p1, p2, p3, p4⟩ => ?_⟩
        by_cases z : v = t
        · subst z; rw [q] at p3; cases p3
        · exact ⟨h1, v, by omega, p2, p3, p4⟩
      · rw [if_pos ((b_ask1 (x := m_X8_towns E al) (b := t) (by omega)).mpr (by rw [tb, q]))]
        obtain ⟨w1, d1, d2, d3⟩ := wk_L1 h2 hT (W := m_X8_walks E (nI t) (E 62 5)) (t := t) hS (al := al) (mo := mo) k0 k1 k2 (m_X8_sealsOn_L129_62 k0 k1 k2 m) 2000 0 w (by omega) (by omega)
        rw [d1]
        obtain ⟨w', e1, e2, e3⟩ := ih (t + 1) w1 (by omega) (by omega)
        refine ⟨w', e1, fun i hi => (e2 i hi).trans (d2 i hi), fun S' k => ?_⟩
        rw [e3, d3]
        constructor
        · rintro ((h | ⟨h1, v, _, p2, p3, p4⟩) | ⟨h1, v, p1, p2⟩)
          · exact Or.inl h
          · exact Or.inr ⟨h1, t, Nat.le_refl _, by omega, q, v, p2, p3, p4⟩
          · exact Or.inr ⟨h1, v, by omega, p2⟩
        · rintro (h | ⟨h1, v, p1, p2, p3, u, p4, p5, p6⟩)
          · exact Or.inl (Or.inl h)
          · by_cases z : v = t
            · subst z; exact Or.inl (Or.inr ⟨h1, u, Nat.zero_le _, p4, p5, p6⟩)
            · exact Or.inr ⟨h1, v, by omega, p2, p3, u, p4, p5, p6⟩
/-- where one stays a month in town t -/
theorem stay_b (h2 : E 60 2 = nI T) (hT : T ≤ 8) (h0 : E 60 0 = nI R) (hR : R ≤ 4) {t : Nat} (ht : t < T) (al : Int64) (sh : Int32) (k : Nat) : lb (m_X8_goes E (al &&& ((31 : Int64) <<< ((nI 5 * nI t).toInt64 &&& 63))) sh (nI t)) k = true ↔ ∃ p, p < R ∧ lb al (5 * t + p) = true ∧ k = 5 * t + p + 1 := by
  rw [goes_b hT h2 hR h0]
  constructor
  · rintro ⟨t', p, h1, h3, h4, h5⟩
    rcases h5 with ⟨h5, h6, h7⟩ | ⟨h5, _⟩
    · have e : t = t' := by
        rcases h6 with h6 | h6
        · exact absurd h6 (nI_nm (by omega))
        · exact (neq (by omega) (by omega)).mp h6
      subst e
      rw [l_and, Bool.and_eq_true] at h4
      exact ⟨p, h5, h4.1, h7⟩
    · exact absurd h5 (nI_nm (by omega))
  · rintro ⟨p, h1, h3, h4⟩
    refine ⟨t, p, ht, by omega, ?_, Or.inl ⟨h1, Or.inr rfl, h4⟩⟩
    rw [l_and, h3, mask_b (by omega) (by omega), decide_eq_true (by omega)]; rfl
noncomputable def wkN (E : SS) (mo : Int32) (t : Nat) : Nat := if m_X8_hasWork E (nI t) mo = 0 then 0 else 2 ^ t
theorem or_8 : ∀ S, S < 256 → ∀ t, t < 8 → S ||| 2 ^ t < 256 := by
  intro S hS t ht
  have : S ||| 2 ^ t < 2 ^ 8 := Nat.or_lt_two_pow (by omega) (Nat.pow_lt_pow_right (by omega) (by omega))
  omega
theorem sy_L (h2 : E 60 2 = nI T) (hT : T ≤ 8) (h0 : E 60 0 = nI R) (hR : R ≤ 4) {S : Nat} (hS : S < 256) {mo : Int32} (k0 k1 : S3 → Int32 → Int32 → S3) : ∀ (m t : Nat) (w : Nat → Nat → Int64), t ≤ T → T - t < m → ∃ w', m_X8_sealsOn_L44_46 k0 k1 m (E, w) (nI t) (nI S) mo = k1 (E, w') (nI (S + 1)) mo ∧ (∀ i, i ≠ 70 → w' i = w i) ∧ ∀ S' k, (lb (w' 70 S') k = true ↔ lb (w 70 S') k = true ∨ (∃ t', t ≤ t' ∧ t' < T ∧ S' = S ||| wkN E mo t' ∧ ∃ p, p < R ∧ lb (w 69 S) (5 * t' + p) = true ∧ k = 5 * t' + p + 1) ∨ (S' = S ∧ ∃ t', t' < T ∧ anyp (w 69 S) t' = true ∧ ∃ u, u < T ∧ bt (m_X8_walks E (nI t') (E 62 5)) u = true ∧ k = 5 * u)) := by
  intro m
  induction m with
  | zero => intro t w _ q; exact absurd q (Nat.not_lt_zero _)
  | succ m ih =>
    intro t w ht hm
    rw [show m_X8_sealsOn_L44_46 k0 k1 (m + 1) = m_X8_sealsOn_L44_46_b k0 k1 (m_X8_sealsOn_L44_46 k0 k1 m) from rfl]
    unfold m_X8_sealsOn_L44_46_b
    rw [r2, show (E, w).1 60 2 = nI T from h2, rlN (show S < 2147483648 by omega)]
    by_cases g1 : T ≤ t
    · rw [if_pos ((nle (by omega) (by omega)).mpr g1)]
      obtain ⟨w', e1, e2, e3⟩ := tw_L h2 hT hS (al := w 69 S) (mo := mo) k0 k1 (m_X8_sealsOn_L44_46 k0 k1 m) 2000 0 w (by omega) (by omega)
      refine ⟨w', e1, e2, fun S' k => ?_⟩
      rw [e3]
      constructor
      · rintro (h | ⟨h1, t', _, p⟩)
        · exact Or.inl h
        · exact Or.inr (Or.inr ⟨h1, t', p⟩)
      · rintro (h | ⟨t', p1, p2, _⟩ | ⟨h1, t', p⟩)
        · exact Or.inl h
        · omega
        · exact Or.inr ⟨h1, t', Nat.zero_le _, p⟩
    · rw [if_neg (fun q => g1 ((nle (by omega) (by omega)).mp q)), r5]
      have fin : ∀ S1, S1 = S ||| wkN E mo t → ∀ G : Int64, (∀ k, lb G k = true ↔ ∃ p, p < R ∧ lb (w 69 S) (5 * t + p) = true ∧ k = 5 * t + p + 1) → ∃ w', m_X8_sealsOn_L44_46 k0 k1 m (E, stL w 70 S1 (w 70 S1 ||| G)) (nI (t + 1)) (nI S) mo = k1 (E, w') (nI (S + 1)) mo ∧ (∀ i, i ≠ 70 → w' i = w i) ∧ ∀ S' k, (lb (w' 70 S') k = true ↔ lb (w 70 S') k = true ∨ (∃ t', t ≤ t' ∧ t' < T ∧ S' = S ||| wkN E mo t' ∧ ∃ p, p < R ∧ lb (w 69 S) (5 * t' + p) = true ∧ k = 5 * t' + p + 1) ∨ (S' = S ∧ ∃ t', t' < T ∧ anyp (w 69 S) t' = true ∧ ∃ u, u < T ∧ bt (m_X8_walks E (nI t') (E 62 5)) u = true ∧ k = 5 * u)) := by
        intro S1 hS1 G hG
        obtain ⟨w', e1, e2, e3⟩ := ih (t + 1) (stL w 70 S1 (w 70 S1 ||| G)) (by omega) (by omega)
        refine ⟨w', e1, fun i hi => (e2 i hi).trans (stL_ni hi), fun S' k => ?_⟩
        rw [e3, stL_b, stL_ni (show (69 : Nat) ≠ 70 by decide), hG]
        constructor
        · rintro ((h | ⟨h1, h⟩) | ⟨t', p1, p2⟩ | h)
          · exact Or.inl h
          · exact Or.inr (Or.inl ⟨t, Nat.le_refl _, by omega, h1.trans hS1, h⟩)
          · exact Or.inr (Or.inl ⟨t', by omega, p2⟩)
          · exact Or.inr (Or.inr h)
        · rintro (h | ⟨t', p1, p2, p3, p4⟩ | h)
          · exact Or.inl (Or.inl h)
          · by_cases z : t' = t
            · subst z; exact Or.inl (Or.inr ⟨p3.trans hS1.symm, p4⟩)
            · exact Or.inr (Or.inl ⟨t', by omega, p2, p3, p4⟩)
          · exact Or.inr (Or.inr h)
      by_cases q : m_X8_hasWork E (nI t) mo = 0
      · rw [if_pos q]
        unfold m_X8_sealsOn_219
        rw [or_nz, rlN (show S < 2147483648 by omega), oI1, n1 t]
        exact fin S (by unfold wkN; rw [if_pos q, Nat.or_zero]) _ (stay_b h2 hT h0 hR (by omega) _ _)
      · rw [if_neg q]
        unfold m_X8_sealsOn_244
        have o8 := or_8 S hS t (by omega)
        rw [shl1 t (by omega), nI_or, rlN (show S ||| 2 ^ t < 2147483648 by omega), oI1, n1 t]
        exact fin (S ||| 2 ^ t) (by unfold wkN; rw [if_neg q]) _ (stay_b h2 hT h0 hR (by omega) _ _)
/-- what a set adds -/
def adE (E : SS) (mo : Int32) (T R : Nat) (v : Nat → Int64) (S S' k : Nat) : Prop := (∃ t', t' < T ∧ S' = S ||| wkN E mo t' ∧ ∃ p, p < R ∧ lb (v S) (5 * t' + p) = true ∧ k = 5 * t' + p + 1) ∨ (S' = S ∧ ∃ t', t' < T ∧ (∃ p, p < 5 ∧ lb (v S) (5 * t' + p) = true) ∧ ∃ u, u < T ∧ bt (m_X8_walks E (nI t') (E 62 5)) u = true ∧ k = 5 * u)
theorem cpy_L (k0 k1 : S3 → Int32 → Int32 → S3) {mo : Int32} : ∀ (m S : Nat) (w : Nat → Nat → Int64), S ≤ 256 → 256 - S < m → ∃ w', m_X8_sealsOn_L235_12 k0 k1 m (E, w) (nI S) mo = (E, w') ∧ (∀ i, i ≠ 69 → w' i = w i) ∧ ∀ S', w' 69 S' = if S ≤ S' ∧ S' < 256 then w 70 S' else w 69 S' := by
  intro m
  induction m with
  | zero => intro t w _ q; exact absurd q (Nat.not_lt_zero _)
  | succ m ih =>
    intro S w hS hm
    rw [show m_X8_sealsOn_L235_12 k0 k1 (m + 1) = m_X8_sealsOn_L235_12_b k0 k1 (m_X8_sealsOn_L235_12 k0 k1 m) from rfl]
    unfold m_X8_sealsOn_L235_12_b
    by_cases g1 : 256 ≤ S
    · rw [if_pos ((nle (by omega) (by omega)).mpr g1)]
      exact ⟨w, rfl, fun i _ => rfl, fun S' => by rw [if_neg (by omega)]⟩
    · rw [if_neg (fun q => g1 ((nle (by omega) (by omega)).mp q))]
      unfold m_X8_sealsOn_25
      rw [oI1, n1, rlN (show S < 2147483648 by omega)]
      obtain ⟨w', e1, e2, e3⟩ := ih (S + 1) (stL w 69 S (w 70 S)) (by omega) (by omega)
      refine ⟨w', e1, fun i hi => (e2 i hi).trans (stL_ni hi), fun S' => ?_⟩
      rw [e3, stL_ni (show (70 : Nat) ≠ 69 by decide)]
      by_cases z : S' = S
      · subst z
        rw [if_neg (by omega), if_pos (by omega)]; exact if_pos ⟨rfl, rfl⟩
      · by_cases y : S ≤ S' ∧ S' < 256
        · rw [if_pos (by omega), if_pos y]
        · rw [if_neg (by omega), if_neg y]; exact if_neg (fun q => z q.2)
theorem set_L (h2 : E 60 2 = nI T) (hT : T ≤ 8) (h0 : E 60 0 = nI R) (hR : R ≤ 4) {mo : Int32} (k0 : S3 → Int32 → Int32 → S3) : ∀ (m S : Nat) (w : Nat → Nat → Int64), S ≤ 256 → 256 - S < m → ∃ w', m_X8_sealsOn_L24_7 k0 m (E, w) (nI S) mo = (E, w') ∧ (∀ i, i ≠ 69 → i ≠ 70 → w' i = w i) ∧ ∀ S' k, S' < 256 → (lb (w' 69 S') k = true ↔ lb (w 70 S') k = true ∨ ∃ S1, S ≤ S1 ∧ S1 < 256 ∧ adE E mo T R (w 69) S1 S' k) := by
  intro m
  induction m with
  | zero => intro t w _ q; exact absurd q (Nat.not_lt_zero _)
  | succ m ih =>
    intro S w hS hm
    rw [show m_X8_sealsOn_L24_7 k0 (m + 1) = m_X8_sealsOn_L24_7_b k0 (m_X8_sealsOn_L24_7 k0 m) from rfl]
    unfold m_X8_sealsOn_L24_7_b
    by_cases g1 : 256 ≤ S
    · rw [if_pos ((nle (by omega) (by omega)).mpr g1)]
      obtain ⟨w', e1, e2, e3⟩ := cpy_L (E := E) k0 (m_X8_sealsOn_L24_7 k0 m) (mo := mo) 2000 0 w (by omega) (by omega)
      refine ⟨w', e1, fun i h1 _ => e2 i h1, fun S' k hS' => ?_⟩
      rw [e3, if_pos (by omega)]
      exact ⟨Or.inl, fun h => h.elim id (fun ⟨S1, p1, p2, _⟩ => by omega)⟩
    · rw [if_neg (fun q => g1 ((nle (by omega) (by omega)).mp q)), rlN (show S < 2147483648 by omega), oI1, n1]
      by_cases q : w 69 S = 0
      · rw [if_pos (cmp0.mpr q)]
        obtain ⟨w', e1, e2, e3⟩ := ih (S + 1) w (by omega) (by omega)
        refine ⟨w', e1, e2, fun S' k hS' => ?_⟩
        rw [e3 S' k hS']
        refine or_congr Iff.rfl ⟨fun ⟨S1, p1, p2⟩ => ⟨S1, by omega, p2⟩, fun ⟨S1, p1, p2, p3⟩ => ?_⟩
        by_cases z : S1 = S
        · subst z
          rcases p3 with ⟨t', _, _, p, _, p4, _⟩ | ⟨_, t', _, ⟨p, _, p4⟩, _⟩
          · rw [q, l_0] at p4; cases p4
          · rw [q, l_0] at p4; cases p4
        · exact ⟨S1, by omega, p2, p3⟩
      · rw [if_neg (fun p => q (cmp0.mp p))]
        obtain ⟨w1, d1, d2, d3⟩ := sy_L h2 hT h0 hR (show S < 256 by omega) (mo := mo) k0 (m_X8_sealsOn_L24_7 k0 m) 2000 0 w (by omega) (by omega)
        rw [d1]
        obtain ⟨w', e1, e2, e3⟩ := ih (S + 1) w1 (by omega) (by omega)
        refine ⟨w', e1, fun i h1 h3 => (e2 i h1 h3).trans (d2 i h3), fun S' k hS' => ?_⟩
        rw [e3 S' k hS', d3, d2 69 (by decide)]
        have ad : adE E mo T R (w 69) S S' k ↔ (∃ t', 0 ≤ t' ∧ t' < T ∧ S' = S ||| wkN E mo t' ∧ ∃ p, p < R ∧ lb (w 69 S) (5 * t' + p) = true ∧ k = 5 * t' + p + 1) ∨ (S' = S ∧ ∃ t', t' < T ∧ anyp (w 69 S) t' = true ∧ ∃ u, u < T ∧ bt (m_X8_walks E (nI t') (E 62 5)) u = true ∧ k = 5 * u) := by
          unfold adE
          refine or_congr ⟨fun ⟨t', p⟩ => ⟨t', Nat.zero_le _, p⟩, fun ⟨t', _, p⟩ => ⟨t', p⟩⟩ ⟨fun ⟨h1, t', p1, p2, p3⟩ => ⟨h1, t', p1, anyp_iff.mpr p2, p3⟩, fun ⟨h1, t', p1, p2, p3⟩ => ⟨h1, t', p1, anyp_iff.mp p2, p3⟩⟩
        rw [← ad]
        constructor
        · rintro ((h | h) | ⟨S1, p1, p2⟩)
          · exact Or.inl h
          · exact Or.inr ⟨S, Nat.le_refl _, by omega, h⟩
          · exact Or.inr ⟨S1, by omega, p2⟩
        · rintro (h | ⟨S1, p1, p2, p3⟩)
          · exact Or.inl (Or.inl h)
          · by_cases z : S1 = S
            · subst z; exact Or.inl (Or.inr p3)
            · exact Or.inr ⟨S1, by omega, p2, p3⟩
theorem clE_L (h2 : E 60 2 = nI T) (hT : T ≤ 8) (h0 : E 60 0 = nI R) (hR : R ≤ 4) {mo : Int32} {w : Nat → Nat → Int64} : ∀ (m S : Nat), S ≤ 256 → 256 - S < m → ∃ w', m_X8_sealsOn_L2_2 m (E, clN w 70 S) (nI S) mo = (E, w') ∧ (∀ i, i ≠ 69 → i ≠ 70 → w' i = w i) ∧ ∀ S' k, S' < 256 → (lb (w' 69 S') k = true ↔ ∃ S1, S1 < 256 ∧ adE E mo T R (w 69) S1 S' k) := by
  intro m
  induction m with
  | zero => intro t _ q; exact absurd q (Nat.not_lt_zero _)
  | succ m ih =>
    intro S hS hm
    rw [show m_X8_sealsOn_L2_2 (m + 1) = m_X8_sealsOn_L2_2_b (m_X8_sealsOn_L2_2 m) from rfl]
    unfold m_X8_sealsOn_L2_2_b
    by_cases g1 : 256 ≤ S
    · rw [if_pos ((nle (by omega) (by omega)).mpr g1), show S = 256 by omega]
      obtain ⟨w', e1, e2, e3⟩ := set_L h2 hT h0 hR (mo := mo) (m_X8_sealsOn_L2_2 m) 2000 0 (clN w 70 256) (by omega) (by omega)
      refine ⟨w', e1, fun i h1 h3 => (e2 i h1 h3).trans (clN_ni h3), fun S' k hS' => ?_⟩
      rw [e3 S' k hS', clN_eq hS', l_0, clN_ni (show (69 : Nat) ≠ 70 by decide)]
      exact ⟨fun h => h.elim (fun h => by cases h) (fun ⟨S1, _, p⟩ => ⟨S1, p⟩), fun ⟨S1, p⟩ => Or.inr ⟨S1, Nat.zero_le _, p⟩⟩
    · rw [if_neg (fun q => g1 ((nle (by omega) (by omega)).mp q))]
      unfold m_X8_sealsOn_255
      rw [oI1, n1, rlN (show S < 2147483648 by omega), clN_s]
      exact ih (S + 1) (by omega) (by omega)
theorem onE_E (h2 : E 60 2 = nI T) (hT : T ≤ 8) (h0 : E 60 0 = nI R) (hR : R ≤ 4) (mo : Int32) (w : Nat → Nat → Int64) : ∃ w', m_X8_sealsOn (E, w) mo = (E, w') ∧ (∀ i, i ≠ 69 → i ≠ 70 → w' i = w i) ∧ ∀ S' k, S' < 256 → (lb (w' 69 S') k = true ↔ ∃ S1, S1 < 256 ∧ adE E mo T R (w 69) S1 S' k) := by
  have := clE_L h2 hT h0 hR (mo := mo) (w := w) 2000 0 (by omega) (by omega)
  rw [clN_0] at this; exact this
end XC
