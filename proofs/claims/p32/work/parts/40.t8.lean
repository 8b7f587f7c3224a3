/-! roads, work, walks on both sides -/
section WK
variable {C E : SS} {c t r : Nat}
theorem r4 : rl (nI 4) = 4 := rlN (by omega)
theorem r5 : rl (nI 5) = 5 := rlN (by omega)
theorem r6 : rl (nI 6) = 6 := rlN (by omega)
theorem nbE {σ : SS} {R : Nat} {A B : Nat → Nat} (hR : σ 60 3 = nI R) (h12 : R ≤ 12) (hA : ∀ j, j < R → σ 60 (28 + j) = nI (A j) ∧ σ 60 (40 + j) = nI (B j) ∧ A j < 8 ∧ B j < 8) {t : Nat} (ht : t < 8) (shut : Int32) : ∀ (m r : Nat) (set : Int32), r ≤ R → R - r < m → (∀ k, bt set k = nb A B t (fun j => !bt shut j) k r) → ∀ k, bt (m_X8_leads_L5_3 m σ (nI r) set (nI t) shut) k = nb A B t (fun j => !bt shut j) k R := by
  intro m
  induction m with
  | zero => intro r set _ h0; exact absurd h0 (Nat.not_lt_zero _)
  | succ m ih =>
    intro r set hr hm hs k
    rw [show m_X8_leads_L5_3 (m + 1) = m_X8_leads_L5_3_b (m_X8_leads_L5_3 m) from rfl]
    unfold m_X8_leads_L5_3_b
    by_cases h1 : R ≤ r
    · have e : r = R := by omega
      subst e
      rw [r3, hR, if_pos ((nle (by omega) (by omega)).mpr (Nat.le_refl _))]; exact hs k
    · obtain ⟨ha, hb, a8, b8⟩ := hA r (by omega)
      have k1 : nI 28 + nI r = nI (28 + r) := nI_add _ _
      have k2 : nI 40 + nI r = nI (40 + r) := nI_add _ _
      rw [r3, hR, if_neg (fun q => h1 ((nle (by omega) (by omega)).mp q)), k1, k2, rlN (show 28 + r < 2147483648 by omega), rlN (show 40 + r < 2147483648 by omega), ha, hb, oI1, n1]
      cases ho : bt shut r
      · rw [if_pos ((b_ask0 (by omega)).mpr ho)]
        by_cases h2 : A r = t
        · rw [if_pos (show nI (A r) = nI t by rw [h2])]
          by_cases h3 : B r = t
          · rw [if_pos (show nI (B r) = nI t by rw [h3])]
            refine ih (r + 1) _ (by omega) (by omega) (fun k => ?_) k
            rw [b_or, b_or, hs k, b_one (by omega), b_one (by omega)]
            simp only [nb, ho, decide_eq_true h2, decide_eq_true h3, Bool.not_false, Bool.true_and, dsym k (B r), dsym k (A r), Bool.or_assoc]
          · rw [if_neg (fun q => h3 ((neq (by omega) (by omega)).mp q))]
            refine ih (r + 1) _ (by omega) (by omega) (fun k => ?_) k
            rw [b_or, b_or, hs k, b_one (by omega), b_n0]
            simp only [nb, ho, decide_eq_true h2, decide_eq_false h3, Bool.not_false, Bool.true_and, Bool.false_and, Bool.or_false, dsym k (B r)]
        · rw [if_neg (fun q => h2 ((neq (by omega) (by omega)).mp q))]
          by_cases h3 : B r = t
          · rw [if_pos (show nI (B r) = nI t by rw [h3])]
            refine ih (r + 1) _ (by omega) (by omega) (fun k => ?_) k
            rw [b_or, b_or, hs k, b_one (by omega), b_n0]
            simp only [nb, ho, decide_eq_false h2, decide_eq_true h3, Bool.not_false, Bool.true_and, Bool.false_and, Bool.false_or, Bool.or_false, dsym k (A r)]
          · rw [if_neg (fun q => h3 ((neq (by omega) (by omega)).mp q))]
            refine ih (r + 1) _ (by omega) (by omega) (fun k => ?_) k
            rw [b_or, b_or, hs k, b_n0]
            simp only [nb, ho, decide_eq_false h2, decide_eq_false h3, Bool.not_false, Bool.true_and, Bool.false_and, Bool.or_false]
      · rw [if_neg (fun q => by rw [b_ask0 (by omega), ho] at q; cases q)]
        refine ih (r + 1) _ (by omega) (by omega) (fun k => ?_) k
        rw [hs k]
        simp only [nb, ho, Bool.not_true, Bool.false_and, Bool.or_false]
theorem banE (h : DR C E c 60 t r) {u : Nat} (hu : u < t) : m_X8_isBanned E (nI u) = if E 60 (4 + u) < nI 50 then nI 1 else nI 0 := by
  have t8 := h.2.2.2.2.1
  unfold m_X8_isBanned
  rw [show nI 4 + nI u = nI (4 + u) from nI_add _ _, rlN (by omega)]
  by_cases q : nI 50 ≤ E 60 (4 + u)
  · rw [if_pos q, if_neg (nlt_of_le q)]
  · rw [if_neg q, if_pos (lt_of_nle q)]
theorem banC (h : DR C E c 60 t r) {u : Nat} (hu : u < t) : m_X0_isBanned C c (nI u) = if E 60 (4 + u) < nI 50 then nI 1 else nI 0 := by
  have t8 := h.2.2.2.2.1
  have hb := h.2.2.2.2.2.2.2.2.2.2.1 u
  rw [decide_eq_true hu, Bool.true_and] at hb
  unfold m_X0_isBanned
  by_cases q : E 60 (4 + u) < nI 50
  · rw [if_pos q, if_neg (fun p => by rw [b_ask0 (by omega), hb, decide_eq_true q] at p; cases p)]
  · rw [if_neg q, if_pos (by rw [b_ask0 (by omega), hb, decide_eq_false q])]
theorem wkL (h : DR C E c 60 t r) (x sh : Int32) : ∀ (m u : Nat) (set : Int32), u ≤ t → t - u < m → ∀ k, k < 32 → bt (m_X8_walks_L10_6 m E (nI u) set x sh) k = (bt set k && !(decide (u ≤ k) && decide (k < t) && decide (E 60 (4 + k) < nI 50))) := by
  have t8 := h.2.2.2.2.1
  intro m
  induction m with
  | zero => intro u set _ h0; exact absurd h0 (Nat.not_lt_zero _)
  | succ m ih =>
    intro u set hu hm k hk
    rw [show m_X8_walks_L10_6 (m + 1) = m_X8_walks_L10_6_b (m_X8_walks_L10_6 m) from rfl]
    unfold m_X8_walks_L10_6_b
    rw [r2, h.2.2.2.1]
    by_cases h1 : t ≤ u
    · rw [if_pos ((nle (by omega) (by omega)).mpr h1)]
      by_cases q : u ≤ k
      · rw [decide_eq_false (show ¬ k < t by omega)]; simp
      · rw [decide_eq_false q]; simp
    · rw [if_neg (fun q => h1 ((nle (by omega) (by omega)).mp q)), banE h (by omega), oI1, n1]
      by_cases q : E 60 (4 + u) < nI 50
      · rw [if_pos q, if_neg n1ne, ih (u + 1) _ (by omega) (by omega) k hk, b_and, b_xor, b_one (by omega), b_m1 k hk]
        by_cases p : k = u
        · subst p; rw [decide_eq_true (rfl : k = k), decide_eq_true (show k ≤ k by omega), decide_eq_true (show k < t by omega), decide_eq_true q]; simp
        · rw [decide_eq_false p, show decide (u + 1 ≤ k) = decide (u ≤ k) by rw [decide_eq_decide]; omega]; simp
      · rw [if_neg q, if_pos n0e, ih (u + 1) _ (by omega) (by omega) k hk, b_and, b_m1 k hk]
        by_cases p : k = u
        · subst p; rw [decide_eq_false q]; simp
        · rw [show decide (u + 1 ≤ k) = decide (u ≤ k) by rw [decide_eq_decide]; omega]; simp
theorem leads_E (h : DR C E c 60 t r) {x : Nat} (hx : x < 8) (sh : Int32) (k : Nat) : bt (m_X8_leads E (nI x) sh) k = nb (fun j => rl (C (c + 4) j)) (fun j => rl (C (c + 5) j)) x (fun j => !bt sh j) k r := by
  have t8 := h.2.2.2.2.1
  unfold m_X8_leads
  exact nbE h.2.2.2.2.2.2.1 h.2.2.2.2.2.2.2.1 (fun j hj => by
    obtain ⟨i1, i2, i3, i4, i5, i6, i7⟩ := DR_AB h j hj
    exact ⟨i3, i4, by omega, by omega⟩) hx sh 2000 0 (nI 0) (by omega) (by have := h.2.2.2.2.2.2.2.1; omega) (fun k => b_n0 k) k
theorem neigh_C (h : DR C E c 60 t r) {x : Nat} (hx : x < 8) (sh : Int32) (k : Nat) : bt (m_X0_neighbours C c (nI x) sh) k = nb (fun j => rl (C (c + 4) j)) (fun j => rl (C (c + 5) j)) x (fun j => !bt sh j) k r := by
  have t8 := h.2.2.2.2.1
  exact nbC0 h.2.2.2.2.2.1 h.2.2.2.2.2.2.2.1 (fun j hj => by
    obtain ⟨i1, i2, i3, i4, i5, i6, i7⟩ := DR_AB h j hj
    exact ⟨i1, i2, by omega, by omega, i7⟩) hx sh k
theorem neigh_E (h : DR C E c 60 t r) {x : Nat} (hx : x < 8) (sh : Int32) : m_X0_neighbours C c (nI x) sh = m_X8_leads E (nI x) sh :=
  b_ext (fun k _ => (neigh_C h hx sh k).trans (leads_E h hx sh k).symm)
theorem walks_E (h : DR C E c 60 t r) {x : Nat} (hx : x < 8) (sh : Int32) : m_X0_walksFrom C c (nI x) sh = m_X8_walks E (nI x) sh := by
  apply b_ext
  intro k hk
  unfold m_X0_walksFrom m_X8_walks
  rw [wkL h (nI x) sh 2000 0 _ (by omega) (by have := h.2.2.2.2.1; omega) k hk, b_and, b_xor, b_m1 k hk, h.2.2.2.2.2.2.2.2.2.2.1 k, neigh_E h hx sh]
  simp
/-- one walks to towns that there are -/
theorem nb_lt {A B : Nat → Nat} {x k T : Nat} {o : Nat → Bool} : ∀ r, (∀ j, j < r → A j < T ∧ B j < T) → nb A B x o k r = true → k < T := by
  intro r
  induction r with
  | zero => intro _ q; cases q
  | succ r ih =>
    intro hA q
    simp only [nb, Bool.or_eq_true, Bool.and_eq_true, decide_eq_true_eq] at q
    obtain ⟨h1, h2⟩ := hA r (by omega)
    rcases q with q | ⟨_, ⟨_, q⟩ | ⟨_, q⟩⟩
    · exact ih (fun j hj => hA j (by omega)) q
    · omega
    · omega
theorem walks_lt (h : DR C E c 60 t r) {x : Nat} (hx : x < 8) (sh : Int32) {k : Nat} (hk : bt (m_X8_walks E (nI x) sh) k = true) : k < t := by
  rcases Nat.lt_or_ge k 32 with q | q
  · unfold m_X8_walks at hk
    rw [wkL h (nI x) sh 2000 0 _ (by omega) (by have := h.2.2.2.2.1; omega) k q, Bool.and_eq_true] at hk
    have h1 := hk.1
    rw [leads_E h hx] at h1
    exact nb_lt r (fun j hj => by
      obtain ⟨i1, i2, i3, i4, i5, i6, i7⟩ := DR_AB h j hj
      exact ⟨i5, i6⟩) h1
  · rw [b_big q] at hk; cases hk
theorem and01 (z : Int32) : z &&& nI 1 = nI 0 ∨ z &&& nI 1 = nI 1 := by
  cases q : bt z 0
  · left; apply b_ext; intro i hi; rw [b_and, b_n1 i hi, b_n0]
    by_cases p : i = 0
    · subst p; rw [q]; rfl
    · rw [decide_eq_false p, Bool.and_false]
  · right; apply b_ext; intro i hi; rw [b_and, b_n1 i hi]
    by_cases p : i = 0
    · subst p; rw [q]; rfl
    · rw [decide_eq_false p, Bool.and_false]
theorem z_shr (y : Int32) : nI 0 >>> y = nI 0 := Int32.toBitVec_inj.mp (by
  rw [Int32.toBitVec_shiftRight]
  show (0#32).sshiftRight _ = 0#32
  simp)
theorem n10 : ¬ (nI 0 = nI 1) := by decide +kernel
theorem n01 : ¬ (nI 1 = nI 0) := by decide +kernel
theorem work_E (h : DR C E c 60 t r) {x : Nat} (hx : x < 8) (m : Int32) : (m_X0_worksIn C c (nI x) m = m_X8_hasWork E (nI x) m) ∧ (m_X8_hasWork E (nI x) m = nI 0 ∨ (m_X8_hasWork E (nI x) m = nI 1 ∧ x < t)) := by
  have t8 := h.2.2.2.2.1
  have k1 : nI 12 + nI x = nI (12 + x) := nI_add _ _
  by_cases q : x < t
  · have g1 : ¬ (m_X0_hasTown C c (nI x) = 0) := fun p => by rw [townC h.2.2.1 t8, nI_toInt (by omega)] at p; omega
    have e1 := (h.2.2.2.2.2.2.2.2.1 x q).2.1
    have e2 := h.2.1
    unfold m_X0_worksIn m_X8_hasWork
    rw [if_neg g1, k1, rlN (show 12 + x < 2147483648 by omega), rlN (show x < 2147483648 by omega), r1, e1, e2]
    rcases and01 ((E 60 (12 + x)) >>> (irm (E 60 1 + m) (nI 12) &&& 31)) with p | p
    · rw [p, if_pos n0e, if_neg n10]; exact ⟨rfl, Or.inl rfl⟩
    · rw [p, if_neg n1ne, if_pos rfl]; exact ⟨rfl, Or.inr ⟨rfl, q⟩⟩
  · have g1 : m_X0_hasTown C c (nI x) = 0 := by rw [townC h.2.2.1 t8, nI_toInt (by omega)]; omega
    have e1 := h.2.2.2.2.2.2.2.2.2.2.2 x (by omega) hx
    unfold m_X0_worksIn m_X8_hasWork
    rw [if_pos g1, k1, rlN (show 12 + x < 2147483648 by omega), e1, z_shr, show nI 0 &&& nI 1 = nI 0 by decide +kernel, if_neg n10]
    exact ⟨rfl, Or.inl rfl⟩
theorem gain_C (h : DR C E c 60 t r) {x : Nat} (hx : x < 8) (m : Int32) : m_X0_gainIn C c (nI x) m = if m_X8_hasWork E (nI x) m = 0 then nI 0 else E 60 (20 + x) := by
  have t8 := h.2.2.2.2.1
  obtain ⟨w1, w2⟩ := work_E h hx m
  unfold m_X0_gainIn
  rw [w1]
  rcases w2 with p | ⟨p, q⟩
  · rw [p, if_pos n0e, if_pos n0e]
  · rw [p, if_neg n1ne, if_neg n1ne, rlN (by omega)]; exact (h.2.2.2.2.2.2.2.2.1 x q).2.2
theorem or_nz (z : Int32) : z ||| nI 0 = z := by apply b_ext; intro i hi; rw [b_or, b_n0, Bool.or_false]
theorem add_nz (z : Int32) : z + nI 0 = z := by rw [n0e]; exact Int32.add_zero z
end WK
