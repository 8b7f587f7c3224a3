/-! seals: a month of the class's -/
section XB
variable {σ : SS} {a b c T R : Nat}
def clN (w : Nat → Nat → Int64) (b n : Nat) : Nat → Nat → Int64 := fun i k => if i = b ∧ k < n then 0 else w i k
theorem clN_s {w : Nat → Nat → Int64} {b n : Nat} : stL (clN w b n) b n 0 = clN w b (n + 1) := by
  funext i k; unfold stL clN
  by_cases h1 : i = b
  · subst h1
    by_cases h2 : k = n
    · rw [if_pos ⟨rfl, h2⟩, if_pos ⟨rfl, by omega⟩]
    · rw [if_neg (fun q => h2 q.2)]
      by_cases h3 : k < n
      · rw [if_pos ⟨rfl, h3⟩, if_pos ⟨rfl, by omega⟩]
      · rw [if_neg (fun q => h3 q.2), if_neg (fun q => by omega)]
  · rw [if_neg (fun q => h1 q.1), if_neg (fun q => h1 q.1), if_neg (fun q => h1 q.1)]
theorem clN_0 {w : Nat → Nat → Int64} {b : Nat} : clN w b 0 = w := by funext i k; unfold clN; rw [if_neg (fun q => by omega)]
theorem clN_ni {w : Nat → Nat → Int64} {b n i : Nat} (h : i ≠ b) : clN w b n i = w i := by funext k; exact if_neg (fun q => h q.1)
theorem clN_eq {w : Nat → Nat → Int64} {b n k : Nat} (h : k < n) : clN w b n b k = 0 := if_pos ⟨rfl, h⟩
theorem clear_L {w : Nat → Nat → Int64} : ∀ (m k : Nat), k ≤ 160 → 160 - k < m → m_X4_clear_L2_2 m (σ, clN w b k) (nI k) b = (σ, clN w b 160) := by
  intro m
  induction m with
  | zero => intro k _ h0; exact absurd h0 (Nat.not_lt_zero _)
  | succ m ih =>
    intro k hk hm
    rw [show m_X4_clear_L2_2 (m + 1) = m_X4_clear_L2_2_b (m_X4_clear_L2_2 m) from rfl]
    by_cases h1 : 160 ≤ k
    · unfold m_X4_clear_L2_2_b
      rw [if_pos ((nle (by omega) (by omega)).mpr h1), show k = 160 by omega]
    · simp only [m_X4_clear_10, m_X4_clear_L2_2_b, m_X4_clear, if_neg (show ¬ (nI 160 ≤ nI k) from fun q => h1 ((nle (by omega) (by omega)).mp q)), rlN (show k < 2147483648 by omega), oI1, n1, clN_s]
      exact ih (k + 1) (by omega) (by omega)
theorem clear_E {w : Nat → Nat → Int64} : m_X4_clear (σ, w) b = (σ, clN w b 160) := by
  have := clear_L (σ := σ) (b := b) (w := w) 2000 0 (by omega) (by omega)
  rw [clN_0] at this; exact this
theorem cb_cl {w : Nat → Nat → Int64} {j X : Nat} (hj : j < 40) (hX : X < 256) : cb (clN w b 160 b) j X = false := by
  unfold cb; rw [clN_eq (by omega), l_0]
/-- whether a cell holds a set at all -/
theorem emp_L (h0 : σ 30 0 = nI a) (la : a < 72) {f : Nat} (hf : f ≤ 39) {w : Nat → Nat → Int64} : ∀ (m u : Nat) (z : Int64), u ≤ 4 → 4 - u < m → (m_X4_isEmpty_L5_3 m (σ, w) (nI u) z (nI (4 * f)) = 0 ↔ (∃ x, x < 64 ∧ lb z x = true) ∨ ∃ v x, u ≤ v ∧ v < 4 ∧ x < 64 ∧ lb (w a (4 * f + v)) x = true) := by
  intro m
  induction m with
  | zero => intro u z _ q; exact absurd q (Nat.not_lt_zero _)
  | succ m ih =>
    intro u z hu hm
    rw [show m_X4_isEmpty_L5_3 (m + 1) = m_X4_isEmpty_L5_3_b (m_X4_isEmpty_L5_3 m) from rfl]
    unfold m_X4_isEmpty_L5_3_b
    by_cases h1 : 4 ≤ u
    · rw [if_pos ((nle (by omega) (by omega)).mpr h1)]
      by_cases q : z = 0
      · rw [if_pos (cmp0.mpr q)]
        refine ⟨fun p => absurd p n1ne, fun p => ?_⟩
        rcases p with ⟨x, _, p⟩ | ⟨v, x, p1, p2, _⟩
        · rw [q, l_0] at p; cases p
        · omega
      · rw [if_neg (fun p => q (cmp0.mp p))]
        exact ⟨fun _ => Or.inl (l_ne.mp q), fun _ => n0e⟩
    · rw [if_neg (fun q => h1 ((nle (by omega) (by omega)).mp q))]
      simp only [h0, rlN (show a < 2147483648 by omega), nI_add, rlN (show 4 * f + u < 2147483648 by omega), oI1]
      rw [ih (u + 1) _ (by omega) (by omega)]
      constructor
      · rintro (⟨x, h2, h3⟩ | ⟨v, x, h2, h3⟩)
        · rw [l_or, Bool.or_eq_true] at h3
          rcases h3 with h3 | h3
          · exact Or.inl ⟨x, h2, h3⟩
          · exact Or.inr ⟨u, x, Nat.le_refl _, by omega, h2, h3⟩
        · exact Or.inr ⟨v, x, by omega, h3⟩
      · rintro (⟨x, h2, h3⟩ | ⟨v, x, h2, h3, h4, h5⟩)
        · exact Or.inl ⟨x, h2, by rw [l_or, h3]; rfl⟩
        · by_cases p : v = u
          · subst p; exact Or.inl ⟨x, h4, by rw [l_or, h5, Bool.or_true]⟩
          · exact Or.inr ⟨v, x, by omega, h3, h4, h5⟩
theorem emp_E (h0 : σ 30 0 = nI a) (la : a < 72) {f : Nat} (hf : f ≤ 39) {w : Nat → Nat → Int64} : m_X4_isEmpty (σ, w) (nI (4 * f)) = 0 ↔ ∃ A, A < 256 ∧ cb (w a) f A = true := by
  unfold m_X4_isEmpty
  rw [emp_L h0 la hf 2000 0 0 (by omega) (by omega)]
  constructor
  · rintro (⟨x, _, h⟩ | ⟨v, x, h1, h2, h3, h4⟩)
    · rw [l_0] at h; cases h
    · refine ⟨64 * v + x, by omega, ?_⟩
      unfold cb
      rw [show (64 * v + x) / 64 = v by omega, show (64 * v + x) % 64 = x by omega]; exact h4
  · rintro ⟨A, h1, h2⟩
    exact Or.inr ⟨A / 64, A % 64, by omega, by omega, by omega, h2⟩
theorem wka_L (h0 : σ 30 0 = nI a) (h1 : σ 30 1 = nI b) (hab : a ≠ b) (la : a < 72) (lb' : b < 72) (hT : T ≤ 8) (hc2 : σ c 2 = nI T) {f : Nat} (hf : f ≤ 39) {ex : Int32} : ∀ (m u : Nat) (w : Nat → Nat → Int64), u ≤ T → T - u < m → ∃ w', m_X4_walkAll_L3_2 m (σ, w) (nI u) c (nI (4 * f)) ex = (σ, w') ∧ (∀ i, i ≠ b → w' i = w i) ∧ ∀ j X, X < 256 → (cb (w' b) j X = true ↔ cb (w b) j X = true ∨ ∃ v, u ≤ v ∧ v < T ∧ bt ex v = true ∧ j = 5 * v ∧ cb (w a) f X = true) := by
  intro m
  induction m with
  | zero => intro u w _ q; exact absurd q (Nat.not_lt_zero _)
  | succ m ih =>
    intro u w hu hm
    rw [show m_X4_walkAll_L3_2 (m + 1) = m_X4_walkAll_L3_2_b (m_X4_walkAll_L3_2 m) from rfl]
    unfold m_X4_walkAll_L3_2_b
    rw [show (σ, w).1 c 2 = nI T from hc2]
    by_cases g1 : T ≤ u
    · rw [if_pos ((nle (by omega) (by omega)).mpr g1)]
      exact ⟨w, rfl, fun i _ => rfl, fun j X _ => ⟨Or.inl, fun h => h.elim id (fun ⟨v, p1, p2, _⟩ => by omega)⟩⟩
    · rw [if_neg (fun q => g1 ((nle (by omega) (by omega)).mp q))]
      cases q : bt ex u
      · rw [if_pos ((b_ask0 (by omega)).mpr q), oI1, n1]
        obtain ⟨w', e1, e2, e3⟩ := ih (u + 1) w (by omega) (by omega)
        refine ⟨w', e1, e2, fun j X hX => ?_⟩
        rw [e3 j X hX]
        refine or_congr Iff.rfl ⟨fun ⟨v, p1, p2⟩ => ⟨v, by omega, p2⟩, fun ⟨v, p1, p2, p3, p4⟩ => ?_⟩
        by_cases z : v = u
        · subst z; rw [q] at p3; cases p3
        · exact ⟨v, by omega, p2, p3, p4⟩
      · rw [if_neg (fun p => by rw [b_ask0 (by omega), q] at p; cases p)]
        obtain ⟨w1, d1, d2, d3⟩ := move_E h0 h1 hab la lb' hf (show 5 * u + 0 ≤ 39 by omega) none (fun q h => by cases h) w
        unfold m_X4_walkAll_24
        rw [cell_E, show m_X4_moveAll (σ, w) (nI (4 * f)) (nI (4 * (5 * u + 0))) (-1) = (σ, w1) from d1, oI1, n1]
        obtain ⟨w', e1, e2, e3⟩ := ih (u + 1) w1 (by omega) (by omega)
        refine ⟨w', e1, fun i hi => (e2 i hi).trans (d2 i hi), fun j X hX => ?_⟩
        rw [e3 j X hX, d3 j X hX, d2 a hab]
        constructor
        · rintro ((h | ⟨p1, A, p2, p3, p4⟩) | ⟨v, p1, p2⟩)
          · exact Or.inl h
          · have p4' : X = A := p4
            exact Or.inr ⟨u, Nat.le_refl _, by omega, q, by omega, by rw [p4']; exact p3⟩
          · exact Or.inr ⟨v, by omega, p2⟩
        · rintro (h | ⟨v, p1, p2, p3, p4, p5⟩)
          · exact Or.inl (Or.inl h)
          · by_cases z : v = u
            · subst z; exact Or.inl (Or.inr ⟨by omega, X, hX, p5, rfl⟩)
            · exact Or.inr ⟨v, by omega, p2, p3, p4, p5⟩
theorem wka_E (h0 : σ 30 0 = nI a) (h1 : σ 30 1 = nI b) (hab : a ≠ b) (la : a < 72) (lb' : b < 72) (hT : T ≤ 8) (hc2 : σ c 2 = nI T) {f : Nat} (hf : f ≤ 39) (ex : Int32) (w : Nat → Nat → Int64) : ∃ w', m_X4_walkAll (σ, w) c (nI (4 * f)) ex = (σ, w') ∧ (∀ i, i ≠ b → w' i = w i) ∧ ∀ j X, X < 256 → (cb (w' b) j X = true ↔ cb (w b) j X = true ∨ ∃ v, v < T ∧ bt ex v = true ∧ j = 5 * v ∧ cb (w a) f X = true) := by
  obtain ⟨w', e1, e2, e3⟩ := wka_L h0 h1 hab la lb' hT hc2 hf (ex := ex) 2000 0 w (by omega) (by omega)
  refine ⟨w', e1, e2, fun j X hX => ?_⟩
  rw [e3 j X hX]
  exact or_congr Iff.rfl ⟨fun ⟨v, _, p⟩ => ⟨v, p⟩, fun ⟨v, p⟩ => ⟨v, Nat.zero_le _, p⟩⟩
/-- what a month adds from one cell -/
def ctr (ex : Nat → Int32) (v : Nat → Int64) (qo : Option Nat) (T R t s j X : Nat) : Prop := (∃ u, u < T ∧ bt (ex t) u = true ∧ j = 5 * u ∧ cb v (5 * t + s) X = true) ∨ (s < R ∧ j = 5 * t + s + 1 ∧ ∃ A, A < 256 ∧ cb v (5 * t + s) A = true ∧ X = jn qo A)
theorem inC_L33 (h0 : σ 30 0 = nI a) (h1 : σ 30 1 = nI b) (hab : a ≠ b) (la : a < 72) (lb' : b < 72) (hT : T ≤ 8) (hc2 : σ c 2 = nI T) (hR : R ≤ 4) (hc0 : σ c 0 = nI R) {t : Nat} (ht : t < 8) {e : Nat} {mo set : Int32} (k0 : S3 → Int32 → Nat → Nat → Int32 → Int32 → S3) : ∀ (m s : Nat) (w : Nat → Nat → Int64), s ≤ R + 1 → R + 1 - s < m → ∃ w', m_X4_spendMonth_L49_33 k0 m (σ, w) (nI s) (nI t) c e mo set = k0 (σ, w') (nI (t + 1)) c e mo set ∧ (∀ i, i ≠ b → w' i = w i) ∧ ∀ j X, X < 256 → (cb (w' b) j X = true ↔ cb (w b) j X = true ∨ ∃ v, s ≤ v ∧ v ≤ R ∧ ctr (σ e) (w a) none T R t v j X) := by
  intro m
  induction m with
  | zero => intro s w _ q; exact absurd q (Nat.not_lt_zero _)
  | succ m ih =>
    intro s w hs hm
    rw [show m_X4_spendMonth_L49_33 k0 (m + 1) = m_X4_spendMonth_L49_33_b k0 (m_X4_spendMonth_L49_33 k0 m) from rfl]
    unfold m_X4_spendMonth_L49_33_b
    rw [show (σ, w).1 c 0 = nI R from hc0, oI1, n1 t, n1 s]
    by_cases g1 : R < s
    · rw [if_pos ((nlt (by omega) (by omega)).mpr g1)]
      exact ⟨w, rfl, fun i _ => rfl, fun j X _ => ⟨Or.inl, fun h => h.elim id (fun ⟨v, p1, p2, _⟩ => by omega)⟩⟩
    · rw [if_neg (fun q => g1 ((nlt (by omega) (by omega)).mp q)), cell_E]
      by_cases q : m_X4_isEmpty (σ, w) (nI (4 * (5 * t + s))) = 0
      · rw [if_pos q, show rl (nI t) = t from rlN (by omega)]
        obtain ⟨w1, d1, d2, d3⟩ := wka_E h0 h1 hab la lb' hT hc2 (show 5 * t + s ≤ 39 by omega) (σ e t) w
        rw [show m_X4_walkAll (σ, w) c (nI (4 * (5 * t + s))) ((σ, w).1 e t) = (σ, w1) from d1]
        unfold m_X4_spendMonth_58
        rw [show (σ, w1).1 c 0 = nI R from hc0, oI1, n1 s]
        by_cases g2 : R ≤ s
        · rw [if_pos ((nle (by omega) (by omega)).mpr g2)]
          obtain ⟨w', e1, e2, e3⟩ := ih (s + 1) w1 (by omega) (by omega)
          refine ⟨w', e1, fun i hi => (e2 i hi).trans (d2 i hi), fun j X hX => ?_⟩
          rw [e3 j X hX, d3 j X hX, d2 a hab]
          constructor
          · rintro ((h | h) | ⟨v, p1, p2, _⟩)
            · exact Or.inl h
            · exact Or.inr ⟨s, Nat.le_refl _, by omega, Or.inl h⟩
            · omega
          · rintro (h | ⟨v, p1, p2, p3 | ⟨p3, _⟩⟩)
            · exact Or.inl (Or.inl h)
            · rw [show v = s by omega] at p3; exact Or.inl (Or.inr p3)
            · omega
        · rw [if_neg (fun p => g2 ((nle (by omega) (by omega)).mp p)), cell_E, cell_E]
          obtain ⟨w2, f1, f2, f3⟩ := move_E h0 h1 hab la lb' (show 5 * t + s ≤ 39 by omega) (show 5 * t + (s + 1) ≤ 39 by omega) none (fun q h => by first | (cases h; exact ht) | cases h) w1
          rw [show m_X4_moveAll (σ, w1) (nI (4 * (5 * t + s))) (nI (4 * (5 * t + (s + 1)))) (-1) = (σ, w2) from f1]
          unfold m_X4_spendMonth_78
          rw [oI1, n1 s]
          obtain ⟨w', e1, e2, e3⟩ := ih (s + 1) w2 (by omega) (by omega)
          refine ⟨w', e1, fun i hi => ((e2 i hi).trans (f2 i hi)).trans (d2 i hi), fun j X hX => ?_⟩
          rw [e3 j X hX, f3 j X hX, d3 j X hX, f2 a hab, d2 a hab]
          constructor
          · rintro (((h | h) | ⟨p1, p2⟩) | ⟨v, p1, p2⟩)
            · exact Or.inl h
            · exact Or.inr ⟨s, Nat.le_refl _, by omega, Or.inl h⟩
            · exact Or.inr ⟨s, Nat.le_refl _, by omega, Or.inr ⟨by omega, by omega, p2⟩⟩
            · exact Or.inr ⟨v, by omega, p2⟩
          · rintro (h | ⟨v, p1, p2, p3⟩)
            · exact Or.inl (Or.inl (Or.inl h))
            · by_cases z : v = s
              · subst z
                rcases p3 with p3 | ⟨p3, p4, p5⟩
                · exact Or.inl (Or.inl (Or.inr p3))
                · exact Or.inl (Or.inr ⟨by omega, p5⟩)
              · exact Or.inr ⟨v, by omega, p2, p3⟩
      · rw [if_neg q]
        have no : ∀ A, A < 256 → cb (w a) (5 * t + s) A = false := fun A hA => by
          cases z : cb (w a) (5 * t + s) A
          · rfl
          · exact absurd ((emp_E h0 la (show 5 * t + s ≤ 39 by omega)).mpr ⟨A, hA, z⟩) q
        obtain ⟨w', e1, e2, e3⟩ := ih (s + 1) w (by omega) (by omega)
        refine ⟨w', e1, e2, fun j X hX => ?_⟩
        rw [e3 j X hX]
        refine or_congr Iff.rfl ⟨fun ⟨v, p1, p2⟩ => ⟨v, by omega, p2⟩, fun ⟨v, p1, p2, p3⟩ => ?_⟩
        by_cases z : v = s
        · subst z
          rcases p3 with ⟨u, _, _, _, p⟩ | ⟨_, _, A, pA, p, _⟩
          · rw [no X hX] at p; cases p
          · rw [no A pA] at p; cases p
        · exact ⟨v, by omega, p2, p3⟩
theorem inC_L96 (h0 : σ 30 0 = nI a) (h1 : σ 30 1 = nI b) (hab : a ≠ b) (la : a < 72) (lb' : b < 72) (hT : T ≤ 8) (hc2 : σ c 2 = nI T) (hR : R ≤ 4) (hc0 : σ c 0 = nI R) {t : Nat} (ht : t < 8) {e : Nat} {mo set : Int32} (k0 : S3 → Int32 → Nat → Nat → Int32 → Int32 → S3) : ∀ (m s : Nat) (w : Nat → Nat → Int64), s ≤ R + 1 → R + 1 - s < m → ∃ w', m_X4_spendMonth_L49_96 k0 m (σ, w) (nI s) (nI t) c e mo set = k0 (σ, w') (nI (t + 1)) c e mo set ∧ (∀ i, i ≠ b → w' i = w i) ∧ ∀ j X, X < 256 → (cb (w' b) j X = true ↔ cb (w b) j X = true ∨ ∃ v, s ≤ v ∧ v ≤ R ∧ ctr (σ e) (w a) none T R t v j X) := by
  intro m
  induction m with
  | zero => intro s w _ q; exact absurd q (Nat.not_lt_zero _)
  | succ m ih =>
    intro s w hs hm
    rw [show m_X4_spendMonth_L49_96 k0 (m + 1) = m_X4_spendMonth_L49_96_b k0 (m_X4_spendMonth_L49_96 k0 m) from rfl]
    unfold m_X4_spendMonth_L49_96_b
    rw [show (σ, w).1 c 0 = nI R from hc0, oI1, n1 t, n1 s]
    by_cases g1 : R < s
    · rw [if_pos ((nlt (by omega) (by omega)).mpr g1)]
      exact ⟨w, rfl, fun i _ => rfl, fun j X _ => ⟨Or.inl, fun h => h.elim id (fun ⟨v, p1, p2, _⟩ => by omega)⟩⟩
    · rw [if_neg (fun q => g1 ((nlt (by omega) (by omega)).mp q)), cell_E]
      by_cases q : m_X4_isEmpty (σ, w) (nI (4 * (5 * t + s))) = 0
      · rw [if_pos q, show rl (nI t) = t from rlN (by omega)]
        obtain ⟨w1, d1, d2, d3⟩ := wka_E h0 h1 hab la lb' hT hc2 (show 5 * t + s ≤ 39 by omega) (σ e t) w
        rw [show m_X4_walkAll (σ, w) c (nI (4 * (5 * t + s))) ((σ, w).1 e t) = (σ, w1) from d1]
        unfold m_X4_spendMonth_121
        rw [show (σ, w1).1 c 0 = nI R from hc0, oI1, n1 s]
        by_cases g2 : R ≤ s
        · rw [if_pos ((nle (by omega) (by omega)).mpr g2)]
          obtain ⟨w', e1, e2, e3⟩ := ih (s + 1) w1 (by omega) (by omega)
          refine ⟨w', e1, fun i hi => (e2 i hi).trans (d2 i hi), fun j X hX => ?_⟩
          rw [e3 j X hX, d3 j X hX, d2 a hab]
          constructor
          · rintro ((h | h) | ⟨v, p1, p2, _⟩)
            · exact Or.inl h
            · exact Or.inr ⟨s, Nat.le_refl _, by omega, Or.inl h⟩
            · omega
          · rintro (h | ⟨v, p1, p2, p3 | ⟨p3, _⟩⟩)
            · exact Or.inl (Or.inl h)
            · rw [show v = s by omega] at p3; exact Or.inl (Or.inr p3)
            · omega
        · rw [if_neg (fun p => g2 ((nle (by omega) (by omega)).mp p)), cell_E, cell_E]
          obtain ⟨w2, f1, f2, f3⟩ := move_E h0 h1 hab la lb' (show 5 * t + s ≤ 39 by omega) (show 5 * t + (s + 1) ≤ 39 by omega) none (fun q h => by first | (cases h; exact ht) | cases h) w1
          rw [show m_X4_moveAll (σ, w1) (nI (4 * (5 * t + s))) (nI (4 * (5 * t + (s + 1)))) (-1) = (σ, w2) from f1]
          unfold m_X4_spendMonth_141
          rw [oI1, n1 s]
          obtain ⟨w', e1, e2, e3⟩ := ih (s + 1) w2 (by omega) (by omega)
          refine ⟨w', e1, fun i hi => ((e2 i hi).trans (f2 i hi)).trans (d2 i hi), fun j X hX => ?_⟩
          rw [e3 j X hX, f3 j X hX, d3 j X hX, f2 a hab, d2 a hab]
          constructor
          · rintro (((h | h) | ⟨p1, p2⟩) | ⟨v, p1, p2⟩)
            · exact Or.inl h
            · exact Or.inr ⟨s, Nat.le_refl _, by omega, Or.inl h⟩
            · exact Or.inr ⟨s, Nat.le_refl _, by omega, Or.inr ⟨by omega, by omega, p2⟩⟩
            · exact Or.inr ⟨v, by omega, p2⟩
          · rintro (h | ⟨v, p1, p2, p3⟩)
            · exact Or.inl (Or.inl (Or.inl h))
            · by_cases z : v = s
              · subst z
                rcases p3 with p3 | ⟨p3, p4, p5⟩
                · exact Or.inl (Or.inl (Or.inr p3))
                · exact Or.inl (Or.inr ⟨by omega, p5⟩)
              · exact Or.inr ⟨v, by omega, p2, p3⟩
      · rw [if_neg q]
        have no : ∀ A, A < 256 → cb (w a) (5 * t + s) A = false := fun A hA => by
          cases z : cb (w a) (5 * t + s) A
          · rfl
          · exact absurd ((emp_E h0 la (show 5 * t + s ≤ 39 by omega)).mpr ⟨A, hA, z⟩) q
        obtain ⟨w', e1, e2, e3⟩ := ih (s + 1) w (by omega) (by omega)
        refine ⟨w', e1, e2, fun j X hX => ?_⟩
        rw [e3 j X hX]
        refine or_congr Iff.rfl ⟨fun ⟨v, p1, p2⟩ => ⟨v, by omega, p2⟩, fun ⟨v, p1, p2, p3⟩ => ?_⟩
        by_cases z : v = s
        · subst z
          rcases p3 with ⟨u, _, _, _, p⟩ | ⟨_, _, A, pA, p, _⟩
          · rw [no X hX] at p; cases p
          · rw [no A pA] at p; cases p
        · exact ⟨v, by omega, p2, p3⟩
theorem inC_L154 (h0 : σ 30 0 = nI a) (h1 : σ 30 1 = nI b) (hab : a ≠ b) (la : a < 72) (lb' : b < 72) (hT : T ≤ 8) (hc2 : σ c 2 = nI T) (hR : R ≤ 4) (hc0 : σ c 0 = nI R) {t : Nat} (ht : t < 8) {e : Nat} {mo set : Int32} (k0 : S3 → Int32 → Nat → Nat → Int32 → Int32 → S3) : ∀ (m s : Nat) (w : Nat → Nat → Int64), s ≤ R + 1 → R + 1 - s < m → ∃ w', m_X4_spendMonth_L49_154 k0 m (σ, w) (nI s) (nI t) c e mo set = k0 (σ, w') (nI (t + 1)) c e mo set ∧ (∀ i, i ≠ b → w' i = w i) ∧ ∀ j X, X < 256 → (cb (w' b) j X = true ↔ cb (w b) j X = true ∨ ∃ v, s ≤ v ∧ v ≤ R ∧ ctr (σ e) (w a) (some t) T R t v j X) := by
  intro m
  induction m with
  | zero => intro s w _ q; exact absurd q (Nat.not_lt_zero _)
  | succ m ih =>
    intro s w hs hm
    rw [show m_X4_spendMonth_L49_154 k0 (m + 1) = m_X4_spendMonth_L49_154_b k0 (m_X4_spendMonth_L49_154 k0 m) from rfl]
    unfold m_X4_spendMonth_L49_154_b
    rw [show (σ, w).1 c 0 = nI R from hc0, oI1, n1 t, n1 s]
    by_cases g1 : R < s
    · rw [if_pos ((nlt (by omega) (by omega)).mpr g1)]
      exact ⟨w, rfl, fun i _ => rfl, fun j X _ => ⟨Or.inl, fun h => h.elim id (fun ⟨v, p1, p2, _⟩ => by omega)⟩⟩
    · rw [if_neg (fun q => g1 ((nlt (by omega) (by omega)).mp q)), cell_E]
      by_cases q : m_X4_isEmpty (σ, w) (nI (4 * (5 * t + s))) = 0
      · rw [if_pos q, show rl (nI t) = t from rlN (by omega)]
        obtain ⟨w1, d1, d2, d3⟩ := wka_E h0 h1 hab la lb' hT hc2 (show 5 * t + s ≤ 39 by omega) (σ e t) w
        rw [show m_X4_walkAll (σ, w) c (nI (4 * (5 * t + s))) ((σ, w).1 e t) = (σ, w1) from d1]
        unfold m_X4_spendMonth_179
        rw [show (σ, w1).1 c 0 = nI R from hc0, oI1, n1 s]
        by_cases g2 : R ≤ s
        · rw [if_pos ((nle (by omega) (by omega)).mpr g2)]
          obtain ⟨w', e1, e2, e3⟩ := ih (s + 1) w1 (by omega) (by omega)
          refine ⟨w', e1, fun i hi => (e2 i hi).trans (d2 i hi), fun j X hX => ?_⟩
          rw [e3 j X hX, d3 j X hX, d2 a hab]
          constructor
          · rintro ((h | h) | ⟨v, p1, p2, _⟩)
            · exact Or.inl h
            · exact Or.inr ⟨s, Nat.le_refl _, by omega, Or.inl h⟩
            · omega
          · rintro (h | ⟨v, p1, p2, p3 | ⟨p3, _⟩⟩)
            · exact Or.inl (Or.inl h)
            · rw [show v = s by omega] at p3; exact Or.inl (Or.inr p3)
            · omega
        · rw [if_neg (fun p => g2 ((nle (by omega) (by omega)).mp p)), cell_E, cell_E]
          obtain ⟨w2, f1, f2, f3⟩ := move_E h0 h1 hab la lb' (show 5 * t + s ≤ 39 by omega) (show 5 * t + (s + 1) ≤ 39 by omega) (some t) (fun q h => by first | (cases h; exact ht) | cases h) w1
          rw [show m_X4_moveAll (σ, w1) (nI (4 * (5 * t + s))) (nI (4 * (5 * t + (s + 1)))) (nI t) = (σ, w2) from f1]
          unfold m_X4_spendMonth_199
          rw [oI1, n1 s]
          obtain ⟨w', e1, e2, e3⟩ := ih (s + 1) w2 (by omega) (by omega)
          refine ⟨w', e1, fun i hi => ((e2 i hi).trans (f2 i hi)).trans (d2 i hi), fun j X hX => ?_⟩
          rw [e3 j X hX, f3 j X hX, d3 j X hX, f2 a hab, d2 a hab]
          constructor
          · rintro (((h | h) | ⟨p1, p2⟩) | ⟨v, p1, p2⟩)
            · exact Or.inl h
            · exact Or.inr ⟨s, Nat.le_refl _, by omega, Or.inl h⟩
            · exact Or.inr ⟨s, Nat.le_refl _, by omega, Or.inr ⟨by omega, by omega, p2⟩⟩
            · exact Or.inr ⟨v, by omega, p2⟩
          · rintro (h | ⟨v, p1, p2, p3⟩)
            · exact Or.inl (Or.inl (Or.inl h))
            · by_cases z : v = s
              · subst z
                rcases p3 with p3 | ⟨p3, p4, p5⟩
                · exact Or.inl (Or.inl (Or.inr p3))
                · exact Or.inl (Or.inr ⟨by omega, p5⟩)
              · exact Or.inr ⟨v, by omega, p2, p3⟩
      · rw [if_neg q]
        have no : ∀ A, A < 256 → cb (w a) (5 * t + s) A = false := fun A hA => by
          cases z : cb (w a) (5 * t + s) A
          · rfl
          · exact absurd ((emp_E h0 la (show 5 * t + s ≤ 39 by omega)).mpr ⟨A, hA, z⟩) q
        obtain ⟨w', e1, e2, e3⟩ := ih (s + 1) w (by omega) (by omega)
        refine ⟨w', e1, e2, fun j X hX => ?_⟩
        rw [e3 j X hX]
        refine or_congr Iff.rfl ⟨fun ⟨v, p1, p2⟩ => ⟨v, by omega, p2⟩, fun ⟨v, p1, p2, p3⟩ => ?_⟩
        by_cases z : v = s
        · subst z
          rcases p3 with ⟨u, _, _, _, p⟩ | ⟨_, _, A, pA, p, _⟩
          · rw [no X hX] at p; cases p
          · rw [no A pA] at p; cases p
        · exact ⟨v, by omega, p2, p3⟩
theorem outC_L (h0 : σ 30 0 = nI a) (h1 : σ 30 1 = nI b) (hab : a ≠ b) (la : a < 72) (lb' : b < 72) (hT : T ≤ 8) (hc2 : σ c 2 = nI T) (hR : R ≤ 4) (hc0 : σ c 0 = nI R) {e : Nat} {mo : Int32} {set : Int32} : ∀ (m t : Nat) (w : Nat → Nat → Int64), t ≤ T → T - t < m → ∃ w', m_X4_spendMonth_L10_7 m (σ, w) (nI t) c e mo set = (st (st σ 30 0 (nI b)) 30 1 (nI a), w') ∧ (∀ i, i ≠ b → w' i = w i) ∧ ∀ j X, X < 256 → (cb (w' b) j X = true ↔ cb (w b) j X = true ∨ ∃ t' s, t ≤ t' ∧ t' < T ∧ s ≤ R ∧ ctr (σ e) (w a) (if bt set t' && !(decide (m_X0_worksIn σ c (nI t') mo = 0)) then some t' else none) T R t' s j X) := by
  intro m
  induction m with
  | zero => intro t w _ q; exact absurd q (Nat.not_lt_zero _)
  | succ m ih =>
    intro t w ht hm
    rw [show m_X4_spendMonth_L10_7 (m + 1) = m_X4_spendMonth_L10_7_b (m_X4_spendMonth_L10_7 m) from rfl]
    by_cases g1 : T ≤ t
    · refine ⟨w, ?_, fun i _ => rfl, fun j X _ => ⟨Or.inl, fun h => h.elim id (fun ⟨v, s, p1, p2, _⟩ => by omega)⟩⟩
      simp only [m_X4_spendMonth_L10_7_b, m_X4_spendMonth_18, m_X4_spendMonth_21, hc2, if_pos ((nle (by omega) (by omega)).mpr g1), h0, h1, rlN (show a < 2147483648 by omega), rlN (show b < 2147483648 by omega)]
    · have fin : ∀ (w1 : Nat → Nat → Int64) (qo : Option Nat), (if bt set t && !(decide (m_X0_worksIn σ c (nI t) mo = 0)) then some t else none) = qo → (∀ i, i ≠ b → w1 i = w i) → (∀ j X, X < 256 → (cb (w1 b) j X = true ↔ cb (w b) j X = true ∨ ∃ s, s ≤ R ∧ ctr (σ e) (w a) qo T R t s j X)) → ∃ w', m_X4_spendMonth_L10_7 m (σ, w1) (nI (t + 1)) c e mo set = (st (st σ 30 0 (nI b)) 30 1 (nI a), w') ∧ (∀ i, i ≠ b → w' i = w i) ∧ ∀ j X, X < 256 → (cb (w' b) j X = true ↔ cb (w b) j X = true ∨ ∃ t' s, t ≤ t' ∧ t' < T ∧ s ≤ R ∧ ctr (σ e) (w a) (if bt set t' && !(decide (m_X0_worksIn σ c (nI t') mo = 0)) then some t' else none) T R t' s j X) := by
        intro w1 qo hqo d2 d3
        obtain ⟨w', e1, e2, e3⟩ := ih (t + 1) w1 (by omega) (by omega)
        refine ⟨w', e1, fun i hi => (e2 i hi).trans (d2 i hi), fun j X hX => ?_⟩
        rw [e3 j X hX, d3 j X hX, d2 a hab]
        constructor
        · rintro ((h | ⟨s, p1, p2⟩) | ⟨t', s, p1, p2⟩)
          · exact Or.inl h
          · exact Or.inr ⟨t, s, Nat.le_refl _, by omega, p1, by rw [hqo]; exact p2⟩
          · exact Or.inr ⟨t', s, by omega, p2⟩
        · rintro (h | ⟨t', s, p1, p2, p3, p4⟩)
          · exact Or.inl (Or.inl h)
          · by_cases z : t' = t
            · subst z; rw [hqo] at p4; exact Or.inl (Or.inr ⟨s, p3, p4⟩)
            · exact Or.inr ⟨t', s, by omega, p2, p3, p4⟩
      unfold m_X4_spendMonth_L10_7_b
      rw [show (σ, w).1 c 2 = nI T from hc2, if_neg (fun q => g1 ((nle (by omega) (by omega)).mp q))]
      cases q : bt set t
      · rw [if_pos ((b_ask0 (by omega)).mpr q)]
        obtain ⟨w1, d1, d2, d3⟩ := inC_L33 h0 h1 hab la lb' hT hc2 hR hc0 (show t < 8 by omega) (e := e) (mo := mo) (set := set) (m_X4_spendMonth_L10_7 m) 2000 0 w (by omega) (by omega)
        rw [d1]
        exact fin w1 none (by rw [q]; rfl) d2 (fun j X hX => (d3 j X hX).trans (or_congr Iff.rfl ⟨fun ⟨s, _, p⟩ => ⟨s, p⟩, fun ⟨s, p⟩ => ⟨s, Nat.zero_le _, p⟩⟩))
      · rw [if_neg (fun p => by rw [b_ask0 (by omega), q] at p; cases p)]
        by_cases p : m_X0_worksIn σ c (nI t) mo = 0
        · rw [if_pos p]
          obtain ⟨w1, d1, d2, d3⟩ := inC_L96 h0 h1 hab la lb' hT hc2 hR hc0 (show t < 8 by omega) (e := e) (mo := mo) (set := set) (m_X4_spendMonth_L10_7 m) 2000 0 w (by omega) (by omega)
          rw [d1]
          exact fin w1 none (by rw [decide_eq_true p, Bool.not_true, Bool.and_false]; rfl) d2 (fun j X hX => (d3 j X hX).trans (or_congr Iff.rfl ⟨fun ⟨s, _, p⟩ => ⟨s, p⟩, fun ⟨s, p⟩ => ⟨s, Nat.zero_le _, p⟩⟩))
        · rw [if_neg p]
          obtain ⟨w1, d1, d2, d3⟩ := inC_L154 h0 h1 hab la lb' hT hc2 hR hc0 (show t < 8 by omega) (e := e) (mo := mo) (set := set) (m_X4_spendMonth_L10_7 m) 2000 0 w (by omega) (by omega)
          rw [d1]
          exact fin w1 (some t) (by rw [q, decide_eq_false p]; rfl) d2 (fun j X hX => (d3 j X hX).trans (or_congr Iff.rfl ⟨fun ⟨s, _, p⟩ => ⟨s, p⟩, fun ⟨s, p⟩ => ⟨s, Nat.zero_le _, p⟩⟩))
theorem spC_E (h0 : σ 30 0 = nI a) (h1 : σ 30 1 = nI b) (hab : a ≠ b) (la : a < 72) (lb' : b < 72) (hT : T ≤ 8) (hc2 : σ c 2 = nI T) (hR : R ≤ 4) (hc0 : σ c 0 = nI R) (e : Nat) (mo set : Int32) (w : Nat → Nat → Int64) : ∃ w', m_X4_spendMonth (σ, w) c e mo set = (st (st σ 30 0 (nI b)) 30 1 (nI a), w') ∧ (∀ i, i ≠ b → w' i = w i) ∧ ∀ j X, j < 40 → X < 256 → (cb (w' b) j X = true ↔ ∃ t s, t < T ∧ s ≤ R ∧ ctr (σ e) (w a) (if bt set t && !(decide (m_X0_worksIn σ c (nI t) mo = 0)) then some t else none) T R t s j X) := by
  obtain ⟨w', e1, e2, e3⟩ := outC_L h0 h1 hab la lb' hT hc2 hR hc0 (e := e) (mo := mo) (set := set) 2000 0 (clN w b 160) (by omega) (by omega)
  refine ⟨w', ?_, fun i hi => (e2 i hi).trans (clN_ni hi), fun j X hj hX => ?_⟩
  · unfold m_X4_spendMonth
    rw [show rl ((σ, w).1 30 1) = b by show rl (σ 30 1) = b; rw [h1, rlN (by omega)], clear_E]; exact e1
  · rw [e3 j X hX, cb_cl hj hX, clN_ni hab]
    exact ⟨fun h => h.elim (fun h => by cases h) (fun ⟨t, s, _, p⟩ => ⟨t, s, p⟩), fun ⟨t, s, p⟩ => Or.inr ⟨t, s, Nat.zero_le _, p⟩⟩
theorem hold_i (h0 : σ 30 0 = nI a) (la : a < 72) (hR : R ≤ 4) (hc0 : σ c 0 = nI R) {t set : Nat} (ht : t < 8) (hs : set < 256) {w : Nat → Nat → Int64} (k0 : S3 → Int32 → Nat → Int32 → Int32) : ∀ (m s : Nat), s ≤ R + 1 → R + 1 - s < m → ((∃ v, s ≤ v ∧ v ≤ R ∧ cb (w a) (5 * t + v) set = true) → m_X4_holds_L13_11 k0 m (σ, w) (nI s) (nI t) c (nI set) = nI 1) ∧ ((∀ v, s ≤ v → v ≤ R → cb (w a) (5 * t + v) set = false) → m_X4_holds_L13_11 k0 m (σ, w) (nI s) (nI t) c (nI set) = k0 (σ, w) (nI (t + 1)) c (nI set)) := by
  intro m
  induction m with
  | zero => intro s _ q; exact absurd q (Nat.not_lt_zero _)
  | succ m ih =>
    intro s hs' hm
    rw [show m_X4_holds_L13_11 k0 (m + 1) = m_X4_holds_L13_11_b k0 (m_X4_holds_L13_11 k0 m) from rfl]
    unfold m_X4_holds_L13_11_b
    rw [show (σ, w).1 c 0 = nI R from hc0, oI1, n1, n1]
    by_cases g1 : R < s
    · rw [if_pos ((nlt (by omega) (by omega)).mpr g1)]
      exact ⟨fun ⟨v, p1, p2, _⟩ => by omega, fun _ => rfl⟩
    · rw [if_neg (fun q => g1 ((nlt (by omega) (by omega)).mp q)), cell_E, shr6 set hs, nI_add, and63 set hs, show rl ((σ, w).1 30 0) = a by show rl (σ 30 0) = a; rw [h0, rlN (by omega)], rlN (show 4 * (5 * t + s) + set / 64 < 2147483648 by omega)]
      obtain ⟨i1, i2⟩ := ih (s + 1) (by omega) (by omega)
      cases q : cb (w a) (5 * t + s) set
      · rw [if_pos ((ask_b (by omega)).mpr q)]
        refine ⟨fun ⟨v, p1, p2, p3⟩ => i1 ⟨v, ?_, p2, p3⟩, fun h => i2 (fun v p1 p2 => h v (by omega) p2)⟩
        by_cases z : v = s
        · subst z; rw [q] at p3; cases p3
        · omega
      · rw [if_neg (fun p => by
          have p' := (ask_b (z := w a (4 * (5 * t + s) + set / 64)) (x := set % 64) (by omega)).mp p
          have q' : lb (w a (4 * (5 * t + s) + set / 64)) (set % 64) = true := q
          rw [p'] at q'; cases q')]
        exact ⟨fun _ => rfl, fun h => by have := h s (Nat.le_refl _) (by omega); rw [q] at this; cases this⟩
theorem hold_o (h0 : σ 30 0 = nI a) (la : a < 72) (hT : T ≤ 8) (hc2 : σ c 2 = nI T) (hR : R ≤ 4) (hc0 : σ c 0 = nI R) {set : Nat} (hs : set < 256) {w : Nat → Nat → Int64} : ∀ (m t : Nat), t ≤ T → T - t < m → (m_X4_holds_L2_2 m (σ, w) (nI t) c (nI set) = 0 ↔ ∀ t' s, t ≤ t' → t' < T → s ≤ R → cb (w a) (5 * t' + s) set = false) := by
  intro m
  induction m with
  | zero => intro t _ q; exact absurd q (Nat.not_lt_zero _)
  | succ m ih =>
    intro t ht hm
    rw [show m_X4_holds_L2_2 (m + 1) = m_X4_holds_L2_2_b (m_X4_holds_L2_2 m) from rfl]
    unfold m_X4_holds_L2_2_b
    rw [show (σ, w).1 c 2 = nI T from hc2]
    by_cases g1 : T ≤ t
    · rw [if_pos ((nle (by omega) (by omega)).mpr g1)]
      exact ⟨fun _ t' s p1 p2 => by omega, fun _ => n0e⟩
    · rw [if_neg (fun q => g1 ((nle (by omega) (by omega)).mp q))]
      obtain ⟨i1, i2⟩ := hold_i h0 la hR hc0 (show t < 8 by omega) hs (w := w) (m_X4_holds_L2_2 m) 2000 0 (by omega) (by omega)
      by_cases q : ∃ v, 0 ≤ v ∧ v ≤ R ∧ cb (w a) (5 * t + v) set = true
      · rw [i1 q]
        obtain ⟨v, _, q2, q3⟩ := q
        exact ⟨fun p => absurd p n1ne, fun p => by have := p t v (Nat.le_refl _) (by omega) q2; rw [q3] at this; cases this⟩
      · have q' : ∀ v, 0 ≤ v → v ≤ R → cb (w a) (5 * t + v) set = false := fun v p1 p2 => by
          cases z : cb (w a) (5 * t + v) set
          · rfl
          · exact absurd ⟨v, p1, p2, z⟩ q
        rw [i2 q', ih (t + 1) (by omega) (by omega)]
        refine ⟨fun h t' s p1 p2 p3 => ?_, fun h t' s p1 p2 p3 => h t' s (by omega) p2 p3⟩
        by_cases z : t' = t
        · subst z; exact q' s (Nat.zero_le _) p3
        · exact h t' s (by omega) p2 p3
theorem hold_E (h0 : σ 30 0 = nI a) (la : a < 72) (hT : T ≤ 8) (hc2 : σ c 2 = nI T) (hR : R ≤ 4) (hc0 : σ c 0 = nI R) {set : Nat} (hs : set < 256) {w : Nat → Nat → Int64} : m_X4_holds (σ, w) c (nI set) = 0 ↔ ¬ ∃ t s, t < T ∧ s ≤ R ∧ cb (w a) (5 * t + s) set = true := by
  unfold m_X4_holds
  rw [hold_o h0 la hT hc2 hR hc0 hs 2000 0 (by omega) (by omega)]
  constructor
  · rintro h ⟨t, s, p1, p2, p3⟩
    rw [h t s (Nat.zero_le _) p1 p2] at p3; cases p3
  · intro h t s _ p1 p2
    cases z : cb (w a) (5 * t + s) set
    · rfl
    · exact absurd ⟨t, s, p1, p2, z⟩ h
end XB
