/-! The theory of the mirrors: states, the texts' reading -/
section T1
variable {σ : SS} {i k i' k' : Nat} {v : Int32}
theorem st_eq : st σ i k v i k = v := if_pos ⟨rfl, rfl⟩
theorem st_ni (h : i' ≠ i) : st σ i k v i' k' = σ i' k' := if_neg (fun q => h q.1)
theorem st_nk (h : k' ≠ k) : st σ i k v i' k' = σ i' k' := if_neg (fun q => h q.2)
theorem st_id (h : σ i k = v) : st σ i k v = σ := by
  funext i' k'
  unfold st
  by_cases q : i' = i ∧ k' = k
  · rw [if_pos q, q.1, q.2, h]
  · rw [if_neg q]
end T1
theorem rlN {a : Nat} (h : a < 2147483648) : rl (nI a) = a := nI_clamp h
theorem oI1 : Int32.ofInt 1 = nI 1 := by decide +kernel
theorem n1 (a : Nat) : nI a + nI 1 = nI (a + 1) := nI_add a 1
theorem nsub {a b : Nat} (h : b ≤ a) : nI a - nI b = nI (a - b) := pk_sub h
theorem nle {a b : Nat} (ha : a < 2147483648) (hb : b < 2147483648) : (nI a ≤ nI b) ↔ a ≤ b := nI_leI ha hb
theorem nlt {a b : Nat} (ha : a < 2147483648) (hb : b < 2147483648) : (nI a < nI b) ↔ a < b := nI_ltI ha hb
theorem neq {a b : Nat} (ha : a < 2147483648) (hb : b < 2147483648) : (nI a = nI b) ↔ a = b := nI_eq ha hb
/-- the class's state of reading: at, numberAt, fault, faultAt over D -/
def tx (D : SS) (a s f p : Int32) : SS := fun i k => if i = 1 then (if k = 4 then a else if k = 5 then s else if k = 2 then f else if k = 3 then p else D 1 k) else D i k
/-- the reference's: at, wrong, value, start over E -/
def rx (E : SS) (a w v u : Int32) : SS := fun i k => if i = 58 then (if k = 14 then a else if k = 15 then w else if k = 17 then v else if k = 18 then u else E 58 k) else E i k
section TX
variable {D E : SS} {a s f p w v u x : Int32} {i k : Nat}
theorem tx1 : tx D a s f p 1 1 = D 1 1 := rfl
theorem tx2 : tx D a s f p 1 2 = f := rfl
theorem tx3 : tx D a s f p 1 3 = p := rfl
theorem tx4 : tx D a s f p 1 4 = a := rfl
theorem tx5 : tx D a s f p 1 5 = s := rfl
theorem txo (h : i ≠ 1) : tx D a s f p i k = D i k := if_neg h
theorem txL : tx D a s f p 2 k = D 2 k := rfl
theorem st_tx4 : st (tx D a s f p) 1 4 x = tx D x s f p := by
  funext i k; unfold st tx; by_cases h1 : i = 1 <;> by_cases h2 : k = 4 <;> simp [h1, h2]
theorem st_tx5 : st (tx D a s f p) 1 5 x = tx D a x f p := by
  funext i k; unfold st tx; by_cases h1 : i = 1 <;> by_cases h2 : k = 5 <;> simp [h1, h2]
theorem st_tx2 : st (tx D a s f p) 1 2 x = tx D a s x p := by
  funext i k; unfold st tx; by_cases h1 : i = 1 <;> by_cases h2 : k = 2 <;> simp [h1, h2]
theorem st_tx3 : st (tx D a s f p) 1 3 x = tx D a s f x := by
  funext i k; unfold st tx; by_cases h1 : i = 1 <;> by_cases h2 : k = 3 <;> simp [h1, h2]
theorem st_txo (h : i ≠ 1) : st (tx D a s f p) i k x = tx (st D i k x) a s f p := by
  funext i' k'; unfold st tx
  by_cases h1 : i' = 1
  · subst h1; simp [Ne.symm h]
  · simp [h1]
theorem st_tx1 : st (tx D a s f p) 1 1 x = tx (st D 1 1 x) a s f p := by
  funext i k; unfold st tx; by_cases h1 : i = 1
  · by_cases h2 : k = 1
    · simp [h1, h2]
    · simp [h1, h2]
  · simp [h1]
theorem rx1 : rx E a w v u 58 1 = E 58 1 := rfl
theorem rx14 : rx E a w v u 58 14 = a := rfl
theorem rx15 : rx E a w v u 58 15 = w := rfl
theorem rx17 : rx E a w v u 58 17 = v := rfl
theorem rx18 : rx E a w v u 58 18 = u := rfl
theorem rxL : rx E a w v u 59 k = E 59 k := rfl
theorem rxD : rx E a w v u 61 k = E 61 k := rfl
theorem rxo (h : i ≠ 58) : rx E a w v u i k = E i k := if_neg h
theorem st_rx14 : st (rx E a w v u) 58 14 x = rx E x w v u := by
  funext i k; unfold st rx; by_cases h1 : i = 58 <;> by_cases h2 : k = 14 <;> simp [h1, h2]
theorem st_rx15 : st (rx E a w v u) 58 15 x = rx E a x v u := by
  funext i k; unfold st rx; by_cases h1 : i = 58 <;> by_cases h2 : k = 15 <;> simp [h1, h2]
theorem st_rx17 : st (rx E a w v u) 58 17 x = rx E a w x u := by
  funext i k; unfold st rx; by_cases h1 : i = 58 <;> by_cases h2 : k = 17 <;> simp [h1, h2]
theorem st_rx18 : st (rx E a w v u) 58 18 x = rx E a w v x := by
  funext i k; unfold st rx; by_cases h1 : i = 58 <;> by_cases h2 : k = 18 <;> simp [h1, h2]
theorem st_rxo (h : i ≠ 58) : st (rx E a w v u) i k x = rx (st E i k x) a w v u := by
  funext i' k'; unfold st rx
  by_cases h1 : i' = 58
  · subst h1; simp [Ne.symm h]
  · simp [h1]
end TX
/-- one text on both sides -/
def TT (D E : SS) (n : Nat) : Prop := n ≤ 240 ∧ D 1 1 = nI n ∧ E 58 1 = nI n ∧ ∀ k, k < n → D 2 k = E 59 k
section RD
variable {D E : SS} {n : Nat}
theorem skip_step {m a : Nat} {s f p : Int32} (h : TT D E n) (ha : a ≤ n) : m_X5_skipBlanks_L0_1 (m + 1) (tx D (nI a) s f p) = if n ≤ a then (nI 0, tx D (nI a) s f p) else if D 2 a = nI 32 then m_X5_skipBlanks_L0_1 m (tx D (nI (a + 1)) s f p) else (nI 1, tx D (nI a) s f p) := by
  obtain ⟨h1, h2, h3, h4⟩ := h
  rw [show m_X5_skipBlanks_L0_1 (m + 1) = m_X5_skipBlanks_L0_1_b (m_X5_skipBlanks_L0_1 m) from rfl]
  simp only [m_X5_skipBlanks_34, m_X5_skipBlanks_L0_1_b, m_X5_skipBlanks, tx1, tx4, txL, h2, rlN (show a < 2147483648 by omega), nle (show n < 2147483648 by omega) (show a < 2147483648 by omega), n1, st_tx4]
theorem let_step {m a : Nat} {w v u : Int32} (h : TT D E n) (ha : a ≤ n) : m_X8_letter_L0_3 (m + 1) (rx E (nI a) w v u) = if n ≤ a then (-1, rx E (nI a) w v u) else if E 59 a = nI 32 then m_X8_letter_L0_3 m (rx E (nI (a + 1)) w v u) else (E 59 a, rx E (nI a) w v u) := by
  obtain ⟨h1, h2, h3, h4⟩ := h
  rw [show m_X8_letter_L0_3 (m + 1) = m_X8_letter_L0_3_b (m_X8_letter_L0_3 m) from rfl]
  simp only [m_X8_letter_40, m_X8_letter_L0_3_b, m_X8_letter, rx1, rx14, rxL, h3, rlN (show a < 2147483648 by omega), nle (show n < 2147483648 by omega) (show a < 2147483648 by omega), n1, st_rx14]
theorem skip_L (h : TT D E n) (s f p w v u : Int32) : ∀ (m a : Nat), a ≤ n → n - a < m → ∃ a', a ≤ a' ∧ a' ≤ n ∧ ((a' < n ∧ D 2 a' ≠ nI 32 ∧ m_X5_skipBlanks_L0_1 m (tx D (nI a) s f p) = (nI 1, tx D (nI a') s f p) ∧ m_X8_letter_L0_3 m (rx E (nI a) w v u) = (D 2 a', rx E (nI a') w v u)) ∨ (a' = n ∧ m_X5_skipBlanks_L0_1 m (tx D (nI a) s f p) = (nI 0, tx D (nI a') s f p) ∧ m_X8_letter_L0_3 m (rx E (nI a) w v u) = (-1, rx E (nI a') w v u))) := by
  intro m
  induction m with
  | zero => intro a _ h0; exact absurd h0 (Nat.not_lt_zero _)
  | succ m ih =>
    intro a ha hm
    rw [skip_step h ha, let_step h ha]
    by_cases h1 : n ≤ a
    · refine ⟨a, Nat.le_refl _, ha, Or.inr ⟨by omega, ?_, ?_⟩⟩
      · rw [if_pos h1]
      · rw [if_pos h1]
    · rw [if_neg h1, if_neg h1, ← h.2.2.2 a (by omega)]
      by_cases h2 : D 2 a = nI 32
      · rw [if_pos h2, if_pos h2]
        obtain ⟨a', q1, q2, q3⟩ := ih (a + 1) (by omega) (by omega)
        exact ⟨a', by omega, q2, q3⟩
      · rw [if_neg h2, if_neg h2]
        exact ⟨a, Nat.le_refl _, ha, Or.inl ⟨by omega, h2, rfl, rfl⟩⟩
theorem skip_E (h : TT D E n) (s f p w v u : Int32) (a : Nat) (ha : a ≤ n) : ∃ a', a ≤ a' ∧ a' ≤ n ∧ ((a' < n ∧ D 2 a' ≠ nI 32 ∧ m_X5_skipBlanks (tx D (nI a) s f p) = (nI 1, tx D (nI a') s f p) ∧ m_X8_letter (rx E (nI a) w v u) = (D 2 a', rx E (nI a') w v u)) ∨ (a' = n ∧ m_X5_skipBlanks (tx D (nI a) s f p) = (nI 0, tx D (nI a') s f p) ∧ m_X8_letter (rx E (nI a) w v u) = (-1, rx E (nI a') w v u))) := by
  unfold m_X5_skipBlanks m_X8_letter
  exact skip_L h s f p w v u 2000 a ha (by have := h.1; omega)
/-- at a letter that is no blank -/
theorem let_same (h : TT D E n) (w v u : Int32) {a : Nat} (ha : a < n) (hb : D 2 a ≠ nI 32) : m_X8_letter (rx E (nI a) w v u) = (D 2 a, rx E (nI a) w v u) := by
  unfold m_X8_letter
  rw [show (2000 : Nat) = 1999 + 1 from rfl, let_step h (by omega), if_neg (by omega), ← h.2.2.2 a ha, if_neg hb]
theorem fig_in {σ τ : SS} {x : Int32} : m_X5_isFigure σ x = m_X8_in τ x (nI 48) (nI 57) := by
  unfold m_X5_isFigure m_X8_in; rfl
theorem blame0 {a s p b q : Int32} : m_X5_blame (tx D a s 0 p) b q = tx D a s b q := by
  simp only [m_X5_blame_11, m_X5_blame_8, m_X5_blame, tx2, if_true, st_tx2, st_tx3]
theorem blame1 {a s f p b q : Int32} (hf : f ≠ 0) : m_X5_blame (tx D a s f p) b q = tx D a s f p := by
  unfold m_X5_blame; rw [tx2, if_neg hf]
theorem wrongE {a w v u b q : Int32} : m_X8_isWrong (rx E a w v u) b q = (nI 0, rx E q b v u) := by
  simp only [m_X8_isWrong_7, m_X8_isWrong_4, m_X8_isWrong, st_rx15, st_rx14]
def finC (D : SS) (a s : Nat) (p val lo hi : Int32) : Int32 × SS := if 4 < a - s then (lo, tx D (nI a) (nI s) (nI 2) (nI s)) else if val < lo then (lo, tx D (nI a) (nI s) (nI 2) (nI s)) else if val ≤ hi then (val, tx D (nI a) (nI s) 0 p) else (lo, tx D (nI a) (nI s) (nI 2) (nI s))
theorem num_step {m a s : Nat} {p val lo hi : Int32} (h : TT D E n) (ha : a ≤ n) (hs : s ≤ a) : m_X5_readNumber_L52_35 (m + 1) (tx D (nI a) (nI s) 0 p) val lo hi = if n ≤ a then finC D a s p val lo hi else if m_X8_in E (D 2 a) (nI 48) (nI 57) = 0 then finC D a s p val lo hi else if 4 ≤ a - s then m_X5_readNumber_L52_35 m (tx D (nI (a + 1)) (nI s) 0 p) val lo hi else m_X5_readNumber_L52_35 m (tx D (nI (a + 1)) (nI s) 0 p) (val * nI 10 + D 2 a - nI 48) lo hi := by
  obtain ⟨h1, h2, h3, h4⟩ := h
  rw [show m_X5_readNumber_L52_35 (m + 1) = m_X5_readNumber_L52_35_b (m_X5_readNumber_L52_35 m) from rfl]
  simp only [m_X5_readNumber_151, m_X5_readNumber_143, m_X5_readNumber_123, m_X5_readNumber_109, m_X5_readNumber_99, m_X5_readNumber_91, m_X5_readNumber_69, m_X5_readNumber_59, m_X5_readNumber_51, m_X5_readNumber_L52_35_b, m_X5_readNumber_32, m_X5_readNumber_16, m_X5_readNumber_10, m_X5_readNumber, tx1, tx4, tx5, txL, h2, rlN (show a < 2147483648 by omega), nle (show n < 2147483648 by omega) (show a < 2147483648 by omega), nsub hs, n1, st_tx4, blame0, fig_in (τ := E), nlt (show 4 < 2147483648 by omega) (show a - s < 2147483648 by omega), nle (show 4 < 2147483648 by omega) (show a - s < 2147483648 by omega), finC]
noncomputable def finE (E : SS) (a s : Nat) (w val lo hi : Int32) : Int32 × SS := if 5 ≤ a - s then (nI 0, rx E (nI s) (nI 2) val (nI s)) else if m_X8_in E val lo hi = 0 then (nI 0, rx E (nI s) (nI 2) val (nI s)) else (nI 1, rx E (nI a) w val (nI s))
theorem in_any {σ τ : SS} {x a b : Int32} : m_X8_in σ x a b = m_X8_in τ x a b := by unfold m_X8_in; rfl
theorem numE_step {m a s : Nat} {w val c lo hi : Int32} (h : TT D E n) (ha : a ≤ n) (hs : s ≤ a) : m_X8_number_L42_28 (m + 1) (rx E (nI a) w val (nI s)) (nI (a - s)) c lo hi = if n ≤ a then finE E a s w val lo hi else if m_X8_in E (E 59 a) (nI 48) (nI 57) = 0 then finE E a s w val lo hi else if 4 ≤ a - s then m_X8_number_L42_28 m (rx E (nI (a + 1)) w val (nI s)) (nI (a + 1 - s)) c lo hi else m_X8_number_L42_28 m (rx E (nI (a + 1)) w (nI 10 * val + E 59 a - nI 48) (nI s)) (nI (a + 1 - s)) c lo hi := by
  obtain ⟨h1, h2, h3, h4⟩ := h
  rw [show m_X8_number_L42_28 (m + 1) = m_X8_number_L42_28_b (m_X8_number_L42_28 m) from rfl, show a + 1 - s = a - s + 1 by omega]
  simp only [m_X8_number_184, m_X8_number_170, m_X8_number_162, m_X8_number_145, m_X8_number_137, m_X8_number_126, m_X8_number_100, m_X8_number_71, m_X8_number_45, m_X8_number_L42_28_b, m_X8_number_26, m_X8_number_14, m_X8_number_9, m_X8_number, rx1, rx14, rx17, rx18, rxL, h3, rlN (show a < 2147483648 by omega), nle (show n < 2147483648 by omega) (show a < 2147483648 by omega), n1, oI1, st_rx14, st_rx17, wrongE, in_any (τ := E), nle (show 5 < 2147483648 by omega) (show a - s < 2147483648 by omega), nle (show 4 < 2147483648 by omega) (show a - s < 2147483648 by omega), finE]
theorem fin_E {a s : Nat} {p w val lo hi : Int32} : (finC D a s p val lo hi = (val, tx D (nI a) (nI s) 0 p) ∧ finE E a s w val lo hi = (nI 1, rx E (nI a) w val (nI s)) ∧ ¬ val < lo ∧ ¬ hi < val) ∨ (finC D a s p val lo hi = (lo, tx D (nI a) (nI s) (nI 2) (nI s)) ∧ finE E a s w val lo hi = (nI 0, rx E (nI s) (nI 2) val (nI s))) := by
  unfold finC finE m_X8_in
  by_cases h1 : 4 < a - s
  · right; rw [if_pos h1, if_pos (show 5 ≤ a - s by omega)]; exact ⟨rfl, rfl⟩
  · rw [if_neg h1, if_neg (show ¬ 5 ≤ a - s by omega)]
    by_cases h2 : val < lo
    · right; rw [if_pos h2, if_pos h2, if_pos nI_0]; exact ⟨rfl, rfl⟩
    · rw [if_neg h2, if_neg h2]
      by_cases h3 : hi < val
      · right
        rw [if_pos h3, if_neg (fun q => by have := Int32.lt_iff_toInt_lt.mp h3; have := Int32.le_iff_toInt_le.mp q; omega), if_pos nI_0]
        exact ⟨rfl, rfl⟩
      · left
        rw [if_neg h3, if_pos (Int32.le_iff_toInt_le.mpr (by have : ¬ hi.toInt < val.toInt := fun q => h3 (Int32.lt_iff_toInt_lt.mpr q); omega)), if_neg (by decide +kernel)]
        exact ⟨rfl, rfl, h2, h3⟩
theorem num_L (h : TT D E n) (s : Nat) (p w c lo hi : Int32) : ∀ (m a : Nat) (val : Int32), s ≤ a → a ≤ n → n - a < m → ∃ a', a ≤ a' ∧ a' ≤ n ∧ ((∃ x, m_X5_readNumber_L52_35 m (tx D (nI a) (nI s) 0 p) val lo hi = (x, tx D (nI a') (nI s) 0 p) ∧ m_X8_number_L42_28 m (rx E (nI a) w val (nI s)) (nI (a - s)) c lo hi = (nI 1, rx E (nI a') w x (nI s)) ∧ ¬ x < lo ∧ ¬ hi < x) ∨ (∃ x, m_X5_readNumber_L52_35 m (tx D (nI a) (nI s) 0 p) val lo hi = (lo, tx D (nI a') (nI s) (nI 2) (nI s)) ∧ m_X8_number_L42_28 m (rx E (nI a) w val (nI s)) (nI (a - s)) c lo hi = (nI 0, rx E (nI s) (nI 2) x (nI s)))) := by
  intro m
  induction m with
  | zero => intro a val _ _ h0; exact absurd h0 (Nat.not_lt_zero _)
  | succ m ih =>
    intro a val hs ha hm
    rw [num_step h ha hs, numE_step h ha hs]
    have fin : ∃ a', a ≤ a' ∧ a' ≤ n ∧ ((∃ x, finC D a s p val lo hi = (x, tx D (nI a') (nI s) 0 p) ∧ finE E a s w val lo hi = (nI 1, rx E (nI a') w x (nI s)) ∧ ¬ x < lo ∧ ¬ hi < x) ∨ (∃ x, finC D a s p val lo hi = (lo, tx D (nI a') (nI s) (nI 2) (nI s)) ∧ finE E a s w val lo hi = (nI 0, rx E (nI s) (nI 2) x (nI s)))) := by
      refine ⟨a, Nat.le_refl _, ha, ?_⟩
      rcases fin_E (D := D) (E := E) (a := a) (s := s) (p := p) (w := w) (val := val) (lo := lo) (hi := hi) with q | q
      · exact Or.inl ⟨val, q⟩
      · exact Or.inr ⟨val, q⟩
    by_cases h1 : n ≤ a
    · rw [if_pos h1, if_pos h1]; exact fin
    · rw [if_neg h1, if_neg h1, ← h.2.2.2 a (by omega)]
      by_cases h2 : m_X8_in E (D 2 a) (nI 48) (nI 57) = 0
      · rw [if_pos h2, if_pos h2]; exact fin
      · rw [if_neg h2, if_neg h2]
        by_cases h3 : 4 ≤ a - s
        · rw [if_pos h3, if_pos h3]
          obtain ⟨a', q1, q2, q3⟩ := ih (a + 1) val (by omega) (by omega) (by omega)
          exact ⟨a', by omega, q2, q3⟩
        · rw [if_neg h3, if_neg h3, show nI 10 * val = val * nI 10 from Int32.mul_comm _ _]
          obtain ⟨a', q1, q2, q3⟩ := ih (a + 1) (val * nI 10 + D 2 a - nI 48) (by omega) (by omega) (by omega)
          exact ⟨a', by omega, q2, q3⟩
theorem in_m1 {σ : SS} : m_X8_in σ (-1) (nI 48) (nI 57) = 0 := by
  unfold m_X8_in; rw [if_pos (by decide +kernel)]; exact nI_0
theorem n1ne : ¬ (nI 1 = 0) := by decide +kernel
theorem n0e : nI 0 = 0 := nI_0
theorem num_E (h : TT D E n) (a : Nat) (ha : a ≤ n) (s0 p w v0 u lo hi : Int32) : ∃ a', a ≤ a' ∧ a' ≤ n ∧ ((∃ x b, b ≤ n ∧ m_X5_readNumber (tx D (nI a) s0 0 p) lo hi = (x, tx D (nI a') (nI b) 0 p) ∧ m_X8_number (rx E (nI a) w v0 u) lo hi = (nI 1, rx E (nI a') w x (nI b)) ∧ ¬ x < lo ∧ ¬ hi < x) ∨ (∃ f q xs xv xu, f ≠ 0 ∧ m_X5_readNumber (tx D (nI a) s0 0 p) lo hi = (lo, tx D (nI a') xs f (nI q)) ∧ m_X8_number (rx E (nI a) w v0 u) lo hi = (nI 0, rx E (nI q) f xv xu))) := by
  obtain ⟨a1, q1, q2, q3⟩ := skip_E h s0 0 p w v0 u a ha
  rcases q3 with ⟨q3, q4, q5, q6⟩ | ⟨q3, q5, q6⟩
  · by_cases hf : m_X8_in E (D 2 a1) (nI 48) (nI 57) = 0
    · refine ⟨a1, q1, q2, Or.inr ⟨nI 1, a1, s0, v0, nI a1, by decide +kernel, ?_, ?_⟩⟩
      · simp only [m_X5_readNumber_151, m_X5_readNumber_143, m_X5_readNumber_123, m_X5_readNumber_109, m_X5_readNumber_99, m_X5_readNumber_91, m_X5_readNumber_69, m_X5_readNumber_59, m_X5_readNumber_51, m_X5_readNumber_L52_35_b, m_X5_readNumber_32, m_X5_readNumber_16, m_X5_readNumber_10, m_X5_readNumber, tx2, if_true, q5, if_neg n1ne, tx4, txL, rlN (show a1 < 2147483648 by have := h.1; omega), fig_in (τ := E), hf, blame0]
      · simp only [m_X8_number_184, m_X8_number_170, m_X8_number_162, m_X8_number_145, m_X8_number_137, m_X8_number_126, m_X8_number_100, m_X8_number_71, m_X8_number_45, m_X8_number_L42_28_b, m_X8_number_26, m_X8_number_14, m_X8_number_9, m_X8_number, q6, rx14, st_rx18, in_any (τ := E), hf, if_true, wrongE]
    · obtain ⟨a', r1, r2, r3⟩ := num_L h a1 p w (D 2 a1) lo hi 2000 a1 (nI 0) (Nat.le_refl _) q2 (by have := h.1; omega)
      rw [Nat.sub_self] at r3
      have e1 : m_X5_readNumber (tx D (nI a) s0 0 p) lo hi = m_X5_readNumber_L52_35 2000 (tx D (nI a1) (nI a1) 0 p) (nI 0) lo hi := by
        simp only [m_X5_readNumber_151, m_X5_readNumber_143, m_X5_readNumber_123, m_X5_readNumber_109, m_X5_readNumber_99, m_X5_readNumber_91, m_X5_readNumber_69, m_X5_readNumber_59, m_X5_readNumber_51, m_X5_readNumber_L52_35_b, m_X5_readNumber_32, m_X5_readNumber_16, m_X5_readNumber_10, m_X5_readNumber, tx2, if_true, q5, if_neg n1ne, tx4, txL, rlN (show a1 < 2147483648 by have := h.1; omega), fig_in (τ := E), if_neg hf, st_tx5]
      have e2 : m_X8_number (rx E (nI a) w v0 u) lo hi = m_X8_number_L42_28 2000 (rx E (nI a1) w (nI 0) (nI a1)) (nI 0) (D 2 a1) lo hi := by
        simp only [m_X8_number_184, m_X8_number_170, m_X8_number_162, m_X8_number_145, m_X8_number_137, m_X8_number_126, m_X8_number_100, m_X8_number_71, m_X8_number_45, m_X8_number_L42_28_b, m_X8_number_26, m_X8_number_14, m_X8_number_9, m_X8_number, q6, rx14, st_rx18, st_rx17, in_any (τ := E), if_neg hf]
      rw [e1, e2]
      refine ⟨a', by omega, r2, ?_⟩
      rcases r3 with ⟨x, r3⟩ | ⟨x, r3, r4⟩
      · exact Or.inl ⟨x, a1, q2, r3⟩
      · exact Or.inr ⟨nI 2, a1, nI a1, x, nI a1, by decide +kernel, r3, r4⟩
  · refine ⟨a1, q1, q2, Or.inr ⟨nI 1, a1, s0, v0, nI a1, by decide +kernel, ?_, ?_⟩⟩
    · simp only [m_X5_readNumber_151, m_X5_readNumber_143, m_X5_readNumber_123, m_X5_readNumber_109, m_X5_readNumber_99, m_X5_readNumber_91, m_X5_readNumber_69, m_X5_readNumber_59, m_X5_readNumber_51, m_X5_readNumber_L52_35_b, m_X5_readNumber_32, m_X5_readNumber_16, m_X5_readNumber_10, m_X5_readNumber, tx2, if_true, q5, n0e, tx4, blame0]
    · simp only [m_X8_number_184, m_X8_number_170, m_X8_number_162, m_X8_number_145, m_X8_number_137, m_X8_number_126, m_X8_number_100, m_X8_number_71, m_X8_number_45, m_X8_number_L42_28_b, m_X8_number_26, m_X8_number_14, m_X8_number_9, m_X8_number, q6, rx14, st_rx18, in_m1, if_true, wrongE]
theorem num_F {a s f p lo hi : Int32} (hf : f ≠ 0) : m_X5_readNumber (tx D a s f p) lo hi = (lo, tx D a s f p) := by
  unfold m_X5_readNumber; rw [tx2, if_neg hf]
theorem end_F {a s f p : Int32} (hf : f ≠ 0) : m_X5_readEnd (tx D a s f p) = tx D a s f p := by
  unfold m_X5_readEnd; rw [tx2, if_neg hf]
theorem end_E (h : TT D E n) (a : Nat) (ha : a ≤ n) (s p w v u : Int32) : ∃ a', a ≤ a' ∧ a' ≤ n ∧ ((m_X5_readEnd (tx D (nI a) s 0 p) = tx D (nI a') s 0 p ∧ m_X8_ends (rx E (nI a) w v u) = (nI 1, rx E (nI a') w v u)) ∨ (m_X5_readEnd (tx D (nI a) s 0 p) = tx D (nI a') s (nI 1) (nI a') ∧ m_X8_ends (rx E (nI a) w v u) = (nI 0, rx E (nI a') (nI 1) v u))) := by
  obtain ⟨a1, q1, q2, q3⟩ := skip_E h s 0 p w v u a ha
  rcases q3 with ⟨q3, q4, q5, q6⟩ | ⟨q3, q5, q6⟩
  · by_cases hf : D 2 a1 = nI 59
    · refine ⟨a1 + 1, by omega, by omega, Or.inl ⟨?_, ?_⟩⟩
      · simp only [m_X5_readEnd_37, m_X5_readEnd_31, m_X5_readEnd_16, m_X5_readEnd_10, m_X5_readEnd, tx2, if_true, q5, if_neg n1ne, tx4, txL, rlN (show a1 < 2147483648 by have := h.1; omega), hf, n1, st_tx4]
      · simp only [m_X8_ends_29, m_X8_ends_17, m_X8_ends_9, m_X8_ends, q6, hf, if_true, rx14, n1, st_rx14]
    · refine ⟨a1, by omega, by omega, Or.inr ⟨?_, ?_⟩⟩
      · simp only [m_X5_readEnd_37, m_X5_readEnd_31, m_X5_readEnd_16, m_X5_readEnd_10, m_X5_readEnd, tx2, if_true, q5, if_neg n1ne, tx4, txL, rlN (show a1 < 2147483648 by have := h.1; omega), if_neg hf, blame0]
      · simp only [m_X8_ends_29, m_X8_ends_17, m_X8_ends_9, m_X8_ends, q6, if_neg hf, rx14, wrongE]
  · refine ⟨a1, by omega, by omega, Or.inr ⟨?_, ?_⟩⟩
    · simp only [m_X5_readEnd_37, m_X5_readEnd_31, m_X5_readEnd_16, m_X5_readEnd_10, m_X5_readEnd, tx2, if_true, q5, n0e, tx4, blame0]
    · simp only [m_X8_ends_29, m_X8_ends_17, m_X8_ends_9, m_X8_ends, q6, if_neg (show ¬ ((-1 : Int32) = nI 59) by decide +kernel), rx14, wrongE]
end RD
