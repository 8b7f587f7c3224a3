/-! two on one road -/
section TW
variable {C E : SS}
def un (f : Nat → Int32) : Nat → Int32
  | 0 => nI 0
  | n + 1 => un f n ||| f n
theorem un_b {f : Nat → Int32} {k : Nat} : ∀ n, bt (un f n) k = true ↔ ∃ p, p < n ∧ bt (f p) k = true := by
  intro n
  induction n with
  | zero => rw [show un f 0 = nI 0 from rfl, b_n0]; exact ⟨fun h => (by cases h), fun ⟨p, hp, _⟩ => absurd hp (Nat.not_lt_zero _)⟩
  | succ n ih =>
    rw [show un f (n + 1) = un f n ||| f n from rfl, b_or, Bool.or_eq_true, ih]
    constructor
    · rintro (⟨p, h1, h2⟩ | h)
      · exact ⟨p, by omega, h2⟩
      · exact ⟨n, by omega, h⟩
    · rintro ⟨p, h1, h2⟩
      by_cases q : p = n
      · subst q; exact Or.inr h2
      · exact Or.inl ⟨p, by omega, h2⟩
theorem un_cg {f g : Nat → Int32} : ∀ n, (∀ p, p < n → f p = g p) → un f n = un g n := by
  intro n
  induction n with
  | zero => intro _; rfl
  | succ n ih => intro h; rw [show un f (n + 1) = un f n ||| f n from rfl, show un g (n + 1) = un g n ||| g n from rfl, ih (fun p hp => h p (by omega)), h n (by omega)]
theorem union_L {σ : SS} {a : Nat} : ∀ (m u : Nat), u ≤ 5 → 5 - u < m → m_X3_union_L4_3 m σ (nI u) (un (σ a) u) a = un (σ a) 5 := by
  intro m
  induction m with
  | zero => intro u _ h0; exact absurd h0 (Nat.not_lt_zero _)
  | succ m ih =>
    intro u hu hm
    rw [show m_X3_union_L4_3 (m + 1) = m_X3_union_L4_3_b (m_X3_union_L4_3 m) from rfl]
    unfold m_X3_union_L4_3_b
    rw [oI1, n1, rlN (show u < 2147483648 by omega)]
    by_cases h1 : 5 ≤ u
    · rw [if_pos ((nle (by omega) (by omega)).mpr h1), show u = 5 by omega]
    · rw [if_neg (fun q => h1 ((nle (by omega) (by omega)).mp q))]
      exact ih (u + 1) (by omega) (by omega)
theorem union_E {σ : SS} {a : Nat} : m_X3_union σ a = un (σ a) 5 := by
  unfold m_X3_union; exact union_L 2000 0 (by omega) (by omega)
theorem orx_iff {f : Nat → Int32} {s : Int32} {k : Nat} : ∀ n, bt (orx f s n) k = true ↔ ∃ u, u < n ∧ bt s u = true ∧ bt (f u) k = true := by
  intro n
  refine ⟨orx_bt n, ?_⟩
  induction n with
  | zero => rintro ⟨u, hu, _⟩; exact absurd hu (Nat.not_lt_zero _)
  | succ n ih =>
    rintro ⟨u, h1, h2, h3⟩
    show bt (if bt s n then orx f s n ||| f n else orx f s n) k = true
    by_cases q : u = n
    · subst q; rw [h2, if_pos (rfl : true = true), b_or, h3, Bool.or_true]
    · have := ih ⟨u, by omega, h2, h3⟩
      cases bt s n
      · rw [if_neg (show ¬ (false = true) by decide)]; exact this
      · rw [if_pos (rfl : true = true), b_or, this]; rfl
/-- one role's first five put anew -/
def fin5 (σ : SS) (a : Nat) (f : Nat → Int32) : SS := fun i k => if i = a ∧ k < 5 then f k else σ i k
def sm (M : Nat → Int32) (R : Nat) (w : Int32) : Nat → Int32 := fun k => if k = 0 then w else if k ≤ R then M (k - 1) else nI 0
def spN (σ : SS) (a R s : Nat) : SS := fun i k => if i = a ∧ s < k ∧ k < 5 then (if k ≤ R then σ a (k - 1) else nI 0) else σ i k
theorem sp_L {σ : SS} {a b R : Nat} (hR : R ≤ 4) (w : Int32) : ∀ (m s : Nat), s ≤ 4 → s < m → m_X3_spendMonth_L12_7 m (spN σ a R s) (nI s) w a b (nI R) = fin5 σ a (sm (σ a) R w) := by
  intro m
  induction m with
  | zero => intro s _ h0; exact absurd h0 (Nat.not_lt_zero _)
  | succ m ih =>
    intro s hs hm
    rw [show m_X3_spendMonth_L12_7 (m + 1) = m_X3_spendMonth_L12_7_b (m_X3_spendMonth_L12_7 m) from rfl]
    cases s with
    | zero =>
      simp only [m_X3_spendMonth_35, m_X3_spendMonth_22, m_X3_spendMonth_13, m_X3_spendMonth_L12_7_b, m_X3_spendMonth, if_pos (show nI 0 ≤ 0 by decide +kernel), r0]
      funext i k; unfold st spN fin5 sm
      by_cases h1 : i = a
      · subst h1
        by_cases h2 : k = 0
        · subst h2; rw [if_pos ⟨rfl, rfl⟩, if_pos ⟨rfl, by omega⟩, if_pos rfl]
        · rw [if_neg (fun q => h2 q.2)]
          by_cases h3 : k < 5
          · rw [if_pos (show i = i ∧ 0 < k ∧ k < 5 from ⟨rfl, by omega, h3⟩), if_pos (show i = i ∧ k < 5 from ⟨rfl, h3⟩), if_neg h2]
          · rw [if_neg (fun q => h3 q.2.2), if_neg (fun q => h3 q.2)]
      · rw [if_neg (fun q => h1 q.1), if_neg (fun q => h1 q.1), if_neg (fun q => h1 q.1)]
    | succ s =>
      have g0 : ¬ (nI (s + 1) ≤ 0) := nI_nle (by omega) (by omega)
      have e1 : nI (s + 1) - nI 1 = nI s := pk_sub (by omega)
      have e2 : nI (s + 1) + Int32.ofInt (-1) = nI s := by rw [show Int32.ofInt (-1) = (-1 : Int32) by decide +kernel]; exact pk_m1 s
      have hv : spN σ a R (s + 1) a s = σ a s := by unfold spN; rw [if_neg (fun q => by omega)]
      have step : ∀ v, (v = if s + 1 ≤ R then σ a s else nI 0) → st (spN σ a R (s + 1)) a (s + 1) v = spN σ a R s := fun v hv => by
        funext i k; unfold st spN
        by_cases h1 : i = a
        · subst h1
          by_cases h2 : k = s + 1
          · subst h2; rw [if_pos ⟨rfl, rfl⟩, if_pos ⟨rfl, by omega, by omega⟩, hv]; rfl
          · rw [if_neg (fun q => h2 q.2)]
            by_cases h3 : s + 1 < k ∧ k < 5
            · rw [if_pos (show i = i ∧ s + 1 < k ∧ k < 5 from ⟨rfl, h3⟩), if_pos (show i = i ∧ s < k ∧ k < 5 from ⟨rfl, by omega, by omega⟩)]
            · rw [if_neg (fun q => h3 q.2), if_neg (fun q => by omega)]
        · rw [if_neg (fun q => h1 q.1), if_neg (fun q => h1 q.1), if_neg (fun q => h1 q.1)]
      by_cases q : R < s + 1
      · simp only [m_X3_spendMonth_35, m_X3_spendMonth_22, m_X3_spendMonth_13, m_X3_spendMonth_L12_7_b, m_X3_spendMonth, if_neg g0, if_pos (show nI R < nI (s + 1) from (nlt (by omega) (by omega)).mpr q), rlN (show s + 1 < 2147483648 by omega), e2]
        rw [step (nI 0) (by rw [if_neg (by omega)])]
        exact ih s (by omega) (by omega)
      · simp only [m_X3_spendMonth_35, m_X3_spendMonth_22, m_X3_spendMonth_13, m_X3_spendMonth_L12_7_b, m_X3_spendMonth, if_neg g0, if_neg (show ¬ (nI R < nI (s + 1)) from fun z => q ((nlt (by omega) (by omega)).mp z)), rlN (show s + 1 < 2147483648 by omega), rlN (show s < 2147483648 by omega), e1, e2, hv]
        rw [step (σ a s) (by rw [if_pos (by omega)])]
        exact ih s (by omega) (by omega)
theorem spend_E {σ : SS} {a b R : Nat} (hR : R ≤ 4) : m_X3_spendMonth σ a b (nI R) = fin5 σ a (sm (σ a) R (orx (σ b) (un (σ a) 5) 8)) := by
  unfold m_X3_spendMonth
  rw [exits_E, union_E]
  have := sp_L (σ := σ) (a := a) (b := b) hR (orx (σ b) (un (σ a) 5) 8) 2000 4 (by omega) (by omega)
  rw [show spN σ a R 4 = σ by funext i k; unfold spN; rw [if_neg (fun q => by omega)]] at this
  exact this
def rw2 (σ : SS) (M O : Nat → Int32) : SS := fun i k => if i = 28 ∧ k < 5 then M k else if i = 29 ∧ k < 5 then O k else σ i k
section R2
variable {σ : SS} {M O M' O' : Nat → Int32}
theorem rw2_28 {k : Nat} (hk : k < 5) : rw2 σ M O 28 k = M k := if_pos ⟨rfl, hk⟩
theorem rw2_29 {k : Nat} (hk : k < 5) : rw2 σ M O 29 k = O k := by unfold rw2; rw [if_neg (fun q => by omega), if_pos ⟨rfl, hk⟩]
theorem rw2_o {i k : Nat} (h1 : i ≠ 28) (h2 : i ≠ 29) : rw2 σ M O i k = σ i k := by unfold rw2; rw [if_neg (fun q => h1 q.1), if_neg (fun q => h2 q.1)]
theorem rw2_M {f : Nat → Int32} : fin5 (rw2 σ M O) 28 f = rw2 σ f O := by
  funext i k; unfold fin5 rw2
  by_cases h1 : i = 28 ∧ k < 5
  · rw [if_pos h1, if_pos h1]
  · rw [if_neg h1, if_neg h1, if_neg h1]
theorem rw2_O {f : Nat → Int32} : fin5 (rw2 σ M O) 29 f = rw2 σ M f := by
  funext i k; unfold fin5 rw2
  by_cases h1 : i = 29 ∧ k < 5
  · rw [if_pos h1, if_neg (fun q => by omega), if_pos h1]
  · rw [if_neg h1, if_neg h1, if_neg h1]
theorem rw2_cg (h1 : ∀ k, k < 5 → M k = M' k) (h2 : ∀ k, k < 5 → O k = O' k) : rw2 σ M O = rw2 σ M' O' := by
  funext i k; unfold rw2
  by_cases q : i = 28 ∧ k < 5
  · rw [if_pos q, if_pos q]; exact h1 k q.2
  · rw [if_neg q, if_neg q]
    by_cases q2 : i = 29 ∧ k < 5
    · rw [if_pos q2, if_pos q2]; exact h2 k q2.2
    · rw [if_neg q2, if_neg q2]
theorem sm_cg {R : Nat} {w : Int32} (h : ∀ k, k < 5 → M k = M' k) {k : Nat} (hk : k < 5) : sm M R w k = sm M' R w k := by
  unfold sm
  by_cases q : k = 0
  · rw [if_pos q, if_pos q]
  · rw [if_neg q, if_neg q]
    by_cases q2 : k ≤ R
    · rw [if_pos q2, if_pos q2]; exact h (k - 1) (by omega)
    · rw [if_neg q2, if_neg q2]
theorem month2 {c R : Nat} (hc : c = 46 ∨ c = 52) (hR : R ≤ 4) (h0 : σ c 0 = nI R) : m_X3_spendMonth (m_X3_spendMonth (rw2 σ M O) 28 45 ((rw2 σ M O) c 0)) 29 45 ((m_X3_spendMonth (rw2 σ M O) 28 45 ((rw2 σ M O) c 0)) c 0) = rw2 σ (sm M R (orx (σ 45) (un M 5) 8)) (sm O R (orx (σ 45) (un O 5) 8)) := by
  have f45 : ∀ M O, rw2 σ M O 45 = σ 45 := fun M O => funext (fun k => rw2_o (by decide) (by decide))
  have e1 : m_X3_spendMonth (rw2 σ M O) 28 45 (nI R) = rw2 σ (sm M R (orx (σ 45) (un M 5) 8)) O := by
    rw [spend_E hR, f45, rw2_M, un_cg (g := M) 5 (fun p hp => rw2_28 hp)]
    exact rw2_cg (fun k hk => sm_cg (fun j hj => rw2_28 hj) hk) (fun k hk => rfl)
  rw [rw2_o (by omega) (by omega), h0, e1, rw2_o (by omega) (by omega), h0, spend_E hR, f45, rw2_O, un_cg (g := O) 5 (fun p hp => rw2_29 hp)]
  exact rw2_cg (fun k hk => rfl) (fun k hk => sm_cg (fun j hj => rw2_29 hj) hk)
end R2
def TB (T : Nat) (M : Nat → Int32) (L : Int64) : Prop := ∀ t p, t < T → p < 5 → bt (M p) t = lb L (5 * t + p)
def OB (T : Nat) (O : Nat → Int32) (L : Int64) : Prop := TB T O L ∧ (∀ p k, p < 5 → bt (O p) k = true → k < T) ∧ ∀ k, lb L k = true → ∃ t p, t < T ∧ p < 5 ∧ k = 5 * t + p
theorem and0 {x y : Int32} : (x &&& y = 0) ↔ ∀ k, bt x k = true → bt y k = true → False := by
  constructor
  · intro h k h1 h2
    have := congrArg (fun z => bt z k) h
    simp only [b_and, b_0, h1, h2] at this
    cases this
  · intro h
    refine b_nil (fun k => ?_)
    rw [b_and]
    cases q1 : bt x k
    · rfl
    · cases q2 : bt y k
      · rfl
      · exact (h k q1 q2).elim
theorem meet {T : Nat} (hT : T ≤ 8) {σ τ : SS} {M O : Nat → Int32} {L1 L2 : Int64} (h1 : TB T M L1) (h2 : OB T O L2) : ((un M 5 &&& un O 5) = 0) ↔ ((m_X8_towns σ L1 &&& m_X8_towns τ L2) = 0) := by
  rw [and0, and0]
  constructor
  · intro h k q1 q2
    rw [towns_E, Bool.and_eq_true, anyp_iff] at q1 q2
    obtain ⟨_, p, p1, p2⟩ := q1
    obtain ⟨_, p', p3, p4⟩ := q2
    obtain ⟨t, p'', u1, u2, u3⟩ := h2.2.2 _ p4
    have ek : t = k := by omega
    subst ek
    exact h t ((un_b 5).mpr ⟨p, p1, by rw [h1 t p u1 p1]; exact p2⟩) ((un_b 5).mpr ⟨p', p3, by rw [h2.1 t p' u1 p3]; exact p4⟩)
  · intro h k q1 q2
    obtain ⟨p, p1, p2⟩ := (un_b 5).mp q1
    obtain ⟨p', p3, p4⟩ := (un_b 5).mp q2
    have hk := h2.2.1 p' k p3 p4
    refine h k ?_ ?_
    · rw [towns_E, decide_eq_true (show k < 8 by omega), Bool.true_and, anyp_iff]; exact ⟨p, p1, by rw [← h1 k p hk p1]; exact p2⟩
    · rw [towns_E, decide_eq_true (show k < 8 by omega), Bool.true_and, anyp_iff]; exact ⟨p', p3, by rw [← h2.1 k p' hk p3]; exact p4⟩
theorem TB_step {T R : Nat} (hT : T ≤ 8) (h2 : E 60 2 = nI T) (hR : R ≤ 4) (h0 : E 60 0 = nI R) {sh : Int32} {M : Nat → Int32} {L : Int64} (h : TB T M L) : TB T (sm M R (orx (fxN C E T sh 8 45) (un M 5) 8)) (m_X8_goes E L sh (-1)) := by
  intro t p ht hp
  apply Bool.eq_iff_iff.mpr
  rw [goes_b hT h2 hR h0]
  unfold sm
  by_cases q : p = 0
  · subst q
    rw [if_pos rfl, orx_iff]
    constructor
    · rintro ⟨u, u1, u2, u3⟩
      have e : fxN C E T sh 8 45 u = if u < T then m_X8_walks E (nI u) sh else nI 0 := by unfold fxN; rw [if_pos ⟨rfl, u1⟩]
      rw [e] at u3
      by_cases w : u < T
      · rw [if_pos w] at u3
        obtain ⟨p', p1, p2⟩ := (un_b 5).mp u2
        rw [h u p' w p1] at p2
        exact ⟨u, p', w, p1, p2, Or.inr ⟨rfl, t, ht, u3, by omega⟩⟩
      · rw [if_neg w, b_n0] at u3; cases u3
    · rintro ⟨u, p', w, p1, p2, ⟨_, _, h5⟩ | ⟨_, v, h6, h7, h8⟩⟩
      · omega
      · have ev : v = t := by omega
        subst ev
        refine ⟨u, by omega, (un_b 5).mpr ⟨p', p1, by rw [h u p' w p1]; exact p2⟩, ?_⟩
        unfold fxN; rw [if_pos ⟨rfl, by omega⟩, if_pos w]; exact h7
  · rw [if_neg q]
    by_cases w : p ≤ R
    · rw [if_pos w, h t (p - 1) ht (by omega)]
      constructor
      · intro z; exact ⟨t, p - 1, ht, by omega, z, Or.inl ⟨by omega, Or.inl rfl, by omega⟩⟩
      · rintro ⟨t', p', w1, p1, p2, ⟨_, _, h5⟩ | ⟨_, v, h6, h7, h8⟩⟩
        · have e1 : t' = t := by omega
          have e2 : p' = p - 1 := by omega
          subst e1; subst e2; exact p2
        · omega
    · rw [if_neg w, b_n0]
      constructor
      · intro z; cases z
      · rintro ⟨t', p', w1, p1, p2, ⟨_, _, h5⟩ | ⟨_, v, h6, h7, h8⟩⟩
        · omega
        · omega
theorem OB_step {c T r R : Nat} (D : DR C E c 60 T r) (hR : R ≤ 4) (h0 : E 60 0 = nI R) {sh : Int32} {O : Nat → Int32} {L : Int64} (h : OB T O L) : OB T (sm O R (orx (fxN C E T sh 8 45) (un O 5) 8)) (m_X8_goes E L sh (-1)) := by
  have hT := D.2.2.2.2.1
  refine ⟨TB_step hT D.2.2.2.1 hR h0 h.1, fun p k hp hb => ?_, fun k hk => ?_⟩
  · unfold sm at hb
    by_cases q : p = 0
    · rw [if_pos q, orx_iff] at hb
      obtain ⟨u, u1, _, u3⟩ := hb
      unfold fxN at u3
      rw [if_pos ⟨rfl, u1⟩] at u3
      by_cases w : u < T
      · rw [if_pos w] at u3; exact walks_lt D (by omega) sh u3
      · rw [if_neg w, b_n0] at u3; cases u3
    · rw [if_neg q] at hb
      by_cases w : p ≤ R
      · rw [if_pos w] at hb; exact h.2.1 (p - 1) k (by omega) hb
      · rw [if_neg w, b_n0] at hb; cases hb
  · rw [goes_b hT D.2.2.2.1 hR h0] at hk
    obtain ⟨t', p', w1, p1, p2, ⟨h4, _, h5⟩ | ⟨_, v, h6, h7, h8⟩⟩ := hk
    · exact ⟨t', p' + 1, w1, by omega, by omega⟩
    · exact ⟨v, 0, h6, by omega, by omega⟩
theorem two_L {c T r R : Nat} (hc : c = 46 ∨ c = 52) (D : DR C E c 60 T r) (hR : R ≤ 4) (h0 : E 60 0 = nI R) (y a : Int32) (k0 : SS → Int32 → Nat → Nat → Nat → Int32 → Int32 × SS) : ∀ (m k : Nat) (M O : Nat → Int32) (L1 L2 : Int64), TB T M L1 → OB T O L2 → k ≤ 25 → 25 - k < m → (m_X3_monthsToMeet_L64_7 k0 m (rw2 (fxN C E T (E 62 5) 8) M O) (nI k) c 45 3 y).1 = m_X8_two_L47_28 m E (nI k) L2 L1 a := by
  have hT := D.2.2.2.2.1
  intro m
  induction m with
  | zero => intro k M O L1 L2 _ _ _ h0; exact absurd h0 (Nat.not_lt_zero _)
  | succ m ih =>
    intro k M O L1 L2 h1 h2 hk hm
    rw [show m_X3_monthsToMeet_L64_7 k0 (m + 1) = m_X3_monthsToMeet_L64_7_b k0 (m_X3_monthsToMeet_L64_7 k0 m) from rfl, show m_X8_two_L47_28 (m + 1) = m_X8_two_L47_28_b (m_X8_two_L47_28 m) from rfl]
    have e28 : m_X3_union (rw2 (fxN C E T (E 62 5) 8) M O) 28 = un M 5 := by rw [union_E]; exact un_cg 5 (fun p hp => rw2_28 hp)
    have e29 : m_X3_union (rw2 (fxN C E T (E 62 5) 8) M O) 29 = un O 5 := by rw [union_E]; exact un_cg 5 (fun p hp => rw2_29 hp)
    have hcR : fxN C E T (E 62 5) 8 c 0 = nI R := by unfold fxN; rw [if_neg (fun q => by omega), D.1]; exact h0
    by_cases q : 25 ≤ k
    · simp only [m_X3_monthsToMeet_92, m_X3_monthsToMeet_82, m_X3_monthsToMeet_75, m_X3_monthsToMeet_64, m_X3_monthsToMeet_54, m_X3_monthsToMeet_47, m_X3_monthsToMeet_31, m_X3_monthsToMeet_25, m_X3_monthsToMeet_L64_7_b, m_X3_monthsToMeet_L3_2_b, m_X3_monthsToMeet, m_X8_two_L47_28_b, m_X8_two, if_pos (show nI 24 < nI k from (nlt (by omega) (by omega)).mpr (by omega)), if_pos (show nI 25 ≤ nI k from (nle (by omega) (by omega)).mpr q)]
    · have g1 : ¬ (nI 24 < nI k) := fun z => by rw [nlt (by omega) (by omega)] at z; omega
      have g2 : ¬ (nI 25 ≤ nI k) := fun z => q ((nle (by omega) (by omega)).mp z)
      by_cases w : (m_X8_towns E L1 &&& m_X8_towns E L2) = 0
      · have w1 := (meet hT (σ := E) (τ := E) h1 h2).mpr w
        simp only [m_X3_monthsToMeet_92, m_X3_monthsToMeet_82, m_X3_monthsToMeet_75, m_X3_monthsToMeet_64, m_X3_monthsToMeet_54, m_X3_monthsToMeet_47, m_X3_monthsToMeet_31, m_X3_monthsToMeet_25, m_X3_monthsToMeet_L64_7_b, m_X3_monthsToMeet_L3_2_b, m_X3_monthsToMeet, m_X8_two_L47_28_b, m_X8_two, if_neg g1, if_neg g2, e28, e29, if_pos w1, if_pos w, month2 hc hR hcR, r5, oI1, n1]
        exact ih (k + 1) _ _ _ _ (TB_step hT D.2.2.2.1 hR h0 h1) (OB_step D hR h0 h2) (by omega) (by omega)
      · have w1 : ¬ ((un M 5 &&& un O 5) = 0) := fun z => w ((meet hT (σ := E) (τ := E) h1 h2).mp z)
        simp only [m_X3_monthsToMeet_92, m_X3_monthsToMeet_82, m_X3_monthsToMeet_75, m_X3_monthsToMeet_64, m_X3_monthsToMeet_54, m_X3_monthsToMeet_47, m_X3_monthsToMeet_31, m_X3_monthsToMeet_25, m_X3_monthsToMeet_L64_7_b, m_X3_monthsToMeet_L3_2_b, m_X3_monthsToMeet, m_X8_two_L47_28_b, m_X8_two, if_neg g1, if_neg g2, e28, e29, if_neg w1, if_neg w]
def M0 (x s : Nat) : Nat → Int32 := fun k => if k = s then nI 1 <<< (nI x &&& 31) else nI 0
def r0N (σ : SS) (x s y n : Nat) : SS := fun i k => if i = 28 ∧ k < n then M0 x s k else if i = 29 ∧ k < n then M0 y 0 k else σ i k
theorem r0N_s {σ : SS} {x s y n : Nat} : st (st (r0N σ x s y n) 28 n (M0 x s n)) 29 n (M0 y 0 n) = r0N σ x s y (n + 1) := by
  funext i k; unfold st r0N
  by_cases h9 : i = 29
  · subst h9
    by_cases h2 : k = n
    · subst h2; simp
    · by_cases h3 : k < n
      · simp [h2, h3, show k < n + 1 by omega]
      · simp [h2, h3, show ¬ k < n + 1 by omega]
  · by_cases h8 : i = 28
    · subst h8
      by_cases h2 : k = n
      · subst h2; simp
      · by_cases h3 : k < n
        · simp [h2, h3, show k < n + 1 by omega]
        · simp [h2, h3, show ¬ k < n + 1 by omega]
    · simp [h8, h9]
theorem rows_L {σ : SS} {x s y c : Nat} (hs : s ≤ 4) (h0 : σ 3 0 = nI x) (h2 : σ 3 2 = nI s) : ∀ (m n : Nat), n ≤ 5 → 5 - n < m → ∃ k0, m_X3_monthsToMeet_L3_2 m (r0N σ x s y n) (nI n) c 45 3 (nI y) = m_X3_monthsToMeet_L64_7 k0 2000 (rw2 σ (M0 x s) (M0 y 0)) (nI 0) c 45 3 (nI y) := by
  intro m
  induction m with
  | zero => intro n _ h0; exact absurd h0 (Nat.not_lt_zero _)
  | succ m ih =>
    intro n hn hm
    have f3 : ∀ k, r0N σ x s y n 3 k = σ 3 k := fun k => by unfold r0N; rw [if_neg (fun q => by omega), if_neg (fun q => by omega)]
    rw [show m_X3_monthsToMeet_L3_2 (m + 1) = m_X3_monthsToMeet_L3_2_b (m_X3_monthsToMeet_L3_2 m) from rfl]
    by_cases h1 : 5 ≤ n
    · refine ⟨m_X3_monthsToMeet_L3_2 m, ?_⟩
      have e : n = 5 := by omega
      subst e
      simp only [m_X3_monthsToMeet_92, m_X3_monthsToMeet_82, m_X3_monthsToMeet_75, m_X3_monthsToMeet_64, m_X3_monthsToMeet_54, m_X3_monthsToMeet_47, m_X3_monthsToMeet_31, m_X3_monthsToMeet_25, m_X3_monthsToMeet_L64_7_b, m_X3_monthsToMeet_L3_2_b, m_X3_monthsToMeet, if_pos (show nI 5 ≤ nI 5 from (nle (by omega) (by omega)).mpr (by omega))]
      rw [show r0N σ x s y 5 = rw2 σ (M0 x s) (M0 y 0) from rfl]
    · have g1 : ¬ (nI 5 ≤ nI n) := fun q => h1 ((nle (by omega) (by omega)).mp q)
      obtain ⟨k0, hx⟩ := ih (n + 1) (by omega) (by omega)
      refine ⟨k0, ?_⟩
      rw [← r0N_s] at hx
      by_cases q : n = s
      · have e1 : M0 x s n = nI 1 <<< (nI x &&& 31) := if_pos q
        by_cases z : n = 0
        · have e2 : M0 y 0 n = nI 1 <<< (nI y &&& 31) := if_pos z
          have zz : nI n = 0 := by rw [z]; exact n0e
          rw [e1, e2] at hx
          simp only [m_X3_monthsToMeet_92, m_X3_monthsToMeet_82, m_X3_monthsToMeet_75, m_X3_monthsToMeet_64, m_X3_monthsToMeet_54, m_X3_monthsToMeet_47, m_X3_monthsToMeet_31, m_X3_monthsToMeet_25, m_X3_monthsToMeet_L64_7_b, m_X3_monthsToMeet_L3_2_b, m_X3_monthsToMeet, if_neg g1, f3, h2, h0, if_pos (show nI n = nI s by rw [q]), if_pos zz, rlN (show n < 2147483648 by omega), oI1, n1]
          exact hx
        · have e2 : M0 y 0 n = nI 0 := if_neg z
          have zz : ¬ (nI n = 0) := nI_ne0 (by omega) (by omega)
          rw [e1, e2] at hx
          simp only [m_X3_monthsToMeet_92, m_X3_monthsToMeet_82, m_X3_monthsToMeet_75, m_X3_monthsToMeet_64, m_X3_monthsToMeet_54, m_X3_monthsToMeet_47, m_X3_monthsToMeet_31, m_X3_monthsToMeet_25, m_X3_monthsToMeet_L64_7_b, m_X3_monthsToMeet_L3_2_b, m_X3_monthsToMeet, if_neg g1, f3, h2, h0, if_pos (show nI n = nI s by rw [q]), if_neg zz, rlN (show n < 2147483648 by omega), oI1, n1]
          exact hx
      · have e1 : M0 x s n = nI 0 := if_neg q
        have qq : ¬ (nI n = nI s) := fun w => q ((neq (by omega) (by omega)).mp w)
        by_cases z : n = 0
        · have e2 : M0 y 0 n = nI 1 <<< (nI y &&& 31) := if_pos z
          have zz : nI n = 0 := by rw [z]; exact n0e
          rw [e1, e2] at hx
          simp only [m_X3_monthsToMeet_92, m_X3_monthsToMeet_82, m_X3_monthsToMeet_75, m_X3_monthsToMeet_64, m_X3_monthsToMeet_54, m_X3_monthsToMeet_47, m_X3_monthsToMeet_31, m_X3_monthsToMeet_25, m_X3_monthsToMeet_L64_7_b, m_X3_monthsToMeet_L3_2_b, m_X3_monthsToMeet, if_neg g1, f3, h2, if_neg qq, if_pos zz, rlN (show n < 2147483648 by omega), oI1, n1]
          exact hx
        · have e2 : M0 y 0 n = nI 0 := if_neg z
          have zz : ¬ (nI n = 0) := nI_ne0 (by omega) (by omega)
          rw [e1, e2] at hx
          simp only [m_X3_monthsToMeet_92, m_X3_monthsToMeet_82, m_X3_monthsToMeet_75, m_X3_monthsToMeet_64, m_X3_monthsToMeet_54, m_X3_monthsToMeet_47, m_X3_monthsToMeet_31, m_X3_monthsToMeet_25, m_X3_monthsToMeet_L64_7_b, m_X3_monthsToMeet_L3_2_b, m_X3_monthsToMeet, if_neg g1, f3, h2, if_neg qq, if_neg zz, rlN (show n < 2147483648 by omega), oI1, n1]
          exact hx
theorem TB_0 {T x s : Nat} (hT : T ≤ 8) (hx : x < 8) (hs : s ≤ 4) : TB T (M0 x s) (lB (5 * x + s)) := by
  intro t p ht hp
  rw [l_bit (show 5 * x + s < 64 by omega)]
  unfold M0
  by_cases q : p = s
  · rw [if_pos q, b_one (by omega), decide_eq_decide]; omega
  · rw [if_neg q, b_n0, decide_eq_false (show ¬ (5 * t + p = 5 * x + s) by omega)]
theorem two_E (h : RR C E) {x : Nat} (hx : x < 8) (he : E 62 0 = nI x) (hst : ∃ s, s ≤ 4 ∧ E 62 2 = nI s) (hlim : ∃ R, R ≤ 4 ∧ E 60 0 = nI R) (a : Int32) : (m_X7_two C a).1 = m_X8_two E a := by
  obtain ⟨c, t, r, hc, e0, D⟩ := h.2.1.get
  obtain ⟨s, hs, es⟩ := hst
  obtain ⟨R, hR, eR⟩ := hlim
  have t8 := D.2.2.2.2.1
  have hJ := h.2.2.2.2.1
  by_cases h1 : a.toInt < 0 ∨ (t : Int) ≤ a.toInt
  · unfold m_X7_two m_X8_two
    rw [e0, if_pos ((townC D.2.2.1 t8).mpr h1), if_pos ((townE D.2.2.2.1 t8).mpr h1)]
  · have g1 : ¬ (m_X0_hasTown C c a = 0) := fun q => h1 ((townC D.2.2.1 t8).mp q)
    have g2 : ¬ (m_X8_isTown E a = 0) := fun q => h1 ((townE D.2.2.2.1 t8).mp q)
    obtain ⟨y, hy, rfl⟩ := ti_nat h1
    by_cases g : E 62 6 = 0
    · have gg : ¬ (m_X8_goesOn E = 0) := by
        unfold m_X8_goesOn; rw [r2, r6, D.2.2.2.1, if_neg (show ¬ (nI t ≤ 0) from nI_nle (by omega) (by omega)), if_pos g]; exact n1ne
      have f3 : ∀ k, fxN C E t (E 62 5) 8 3 k = C 3 k := fun k => by unfold fxN; rw [if_neg (fun q => by omega)]
      have f0 : ∀ k, fxN C E t (E 62 5) 8 0 k = C 0 k := fun k => by unfold fxN; rw [if_neg (fun q => by omega)]
      obtain ⟨k0, ek⟩ := rows_L (σ := fxN C E t (E 62 5) 8) (x := x) (s := s) (y := y) (c := c) hs (by rw [f3]; exact h.here he) (by rw [f3, hJ 2 (by omega)]; exact es) 2000 0 (by omega) (by omega)
      rw [show r0N (fxN C E t (E 62 5) 8) x s y 0 = fxN C E t (E 62 5) 8 by funext i k; unfold r0N; rw [if_neg (fun q => by omega), if_neg (fun q => by omega)]] at ek
      have e1 : m_X7_two C (nI y) = m_X3_monthsToMeet_L64_7 k0 2000 (rw2 (fxN C E t (E 62 5) 8) (M0 x s) (M0 y 0)) (nI 0) c 45 3 (nI y) := by
        rw [← ek]
        simp only [m_X7_two_23, m_X7_two_16, m_X7_two, m_X3_monthsToMeet, e0, if_neg g1, hJ 6 (by omega), if_pos g, hJ 5 (by omega), fill_E hc D, f0, fst_snd]
      have e2 : m_X8_two E (nI y) = m_X8_two_L47_28 2000 E (nI 0) (lB (5 * y)) (lB (5 * x + s)) (nI y) := by
        simp only [m_X8_two_L47_28_b, m_X8_two, if_neg g2, if_neg gg, r0, r2, he, es, bit_E, Nat.add_zero]
      rw [e1, e2]
      have T2 : TB t (M0 y 0) (lB (5 * y)) := TB_0 t8 (by omega) (by omega)
      refine two_L hc D hR eR (nI y) (nI y) k0 2000 0 (M0 x s) (M0 y 0) (lB (5 * x + s)) (lB (5 * y)) (TB_0 t8 hx hs) ⟨T2, fun p k hp hb => ?_, fun k hk => ?_⟩ (by omega) (by omega)
      · unfold M0 at hb
        by_cases q : p = 0
        · rw [if_pos q, b_one (by omega), decide_eq_true_eq] at hb; omega
        · rw [if_neg q, b_n0] at hb; cases hb
      · rw [l_bit (show 5 * y < 64 by omega), decide_eq_true_eq] at hk
        exact ⟨y, 0, hy, by omega, by omega⟩
    · have gg : m_X8_goesOn E = 0 := by
        unfold m_X8_goesOn; rw [r2, r6, D.2.2.2.1, if_neg (show ¬ (nI t ≤ 0) from nI_nle (by omega) (by omega)), if_neg g]; exact n0e
      unfold m_X7_two m_X8_two
      rw [e0, if_neg g1, hJ 6 (by omega), if_neg g, if_neg g2, if_pos gg]
end TW
