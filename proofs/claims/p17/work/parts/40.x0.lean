/-! seals: the class's words of sets -/
section XA
theorem l_xor (x y : Int64) (i : Nat) : lb (x ^^^ y) i = (lb x i ^^ lb y i) := by unfold lb; rw [Int64.toBitVec_xor, BitVec.getLsbD_xor]
theorem l_shl {n : Nat} (hn : n < 64) (x : Int64) {i : Nat} (hi : i < 64) : lb (x <<< ((nI n).toInt64 &&& 63)) i = (decide (n ≤ i) && lb x (i - n)) := by
  unfold lb
  rw [Int64.toBitVec_shiftLeft, wb_c n hn, wb_tb, wb_sm n hn, BitVec.shiftLeft_eq', BitVec.toNat_ofNat, Nat.mod_eq_of_lt (show n < 2 ^ 64 by omega), BitVec.getLsbD_shiftLeft]
  rcases Nat.lt_or_ge i n with h | h
  · simp [h, Nat.not_le.mpr h]
  · simp [hi, h, Nat.not_lt.mpr h]
theorem wu_n : ∀ n, n < 64 → ((UInt64.ofNat n).toBitVec % 64).toNat = n := by decide +kernel
theorem l_ushr {n : Nat} (hn : n < 64) (x : Int64) (i : Nat) : lb (lus x (nI n)) i = lb x (n + i) := by
  unfold lus lb
  rw [wb_cu n hn]
  show (x.toUInt64 >>> UInt64.ofNat n).toBitVec.getLsbD i = x.toUInt64.toBitVec.getLsbD (n + i)
  rw [UInt64.toBitVec_shiftRight]
  show (x.toUInt64.toBitVec >>> ((UInt64.ofNat n).toBitVec % 64).toNat).getLsbD i = _
  rw [wu_n n hn, BitVec.getLsbD_ushiftRight]
theorem l_one : ∀ i, i < 64 → lb 1 i = decide (i = 0) := by decide +kernel
theorem l_ne {z : Int64} : ¬ (z = 0) ↔ ∃ x, x < 64 ∧ lb z x = true := by
  constructor
  · intro h
    refine Classical.byContradiction (fun q => h (l_nil (fun k hk => ?_)))
    cases p : lb z k
    · rfl
    · exact absurd ⟨k, hk, p⟩ q
  · rintro ⟨x, _, h⟩ q
    rw [q, l_0] at h; cases h
theorem ask_b {z : Int64} {x : Nat} (hx : x < 64) : (lg_cmp ((lus z (nI x)) &&& 1) 0 = 0) ↔ lb z x = false := by
  rw [cmp0]
  constructor
  · intro h
    have := congrArg (fun q => lb q 0) h
    simp only [l_and, l_ushr hx, l_one 0 (by omega), l_0, Nat.add_zero] at this
    simpa using this
  · intro h
    refine l_nil (fun k hk => ?_)
    rw [l_and, l_ushr hx, l_one k hk]
    by_cases q : k = 0
    · subst q; rw [Nat.add_zero, h]; rfl
    · rw [decide_eq_false q, Bool.and_false]
theorem nI_or (a b : Nat) : nI a ||| nI b = nI (a ||| b) := by
  apply Int32.toBitVec_inj.mp
  show BitVec.ofNat 32 a ||| BitVec.ofNat 32 b = BitVec.ofNat 32 (a ||| b)
  rw [BitVec.ofNat_or]
theorem nI_and (a b : Nat) : nI a &&& nI b = nI (a &&& b) := by
  apply Int32.toBitVec_inj.mp
  show BitVec.ofNat 32 a &&& BitVec.ofNat 32 b = BitVec.ofNat 32 (a &&& b)
  rw [BitVec.ofNat_and]
theorem shl1 : ∀ k, k < 8 → nI 1 <<< (nI k &&& 31) = nI (2 ^ k) := by decide +kernel
theorem and63 : ∀ s, s < 256 → nI s &&& nI 63 = nI (s % 64) := by decide +kernel
theorem shr6 : ∀ s, s < 256 → nI s >>> (nI 6 &&& 31) = nI (s / 64) := by decide +kernel
theorem cell_E {σ : SS} {t s : Nat} : m_X4_cell σ (nI t) (nI s) = nI (4 * (5 * t + s)) := by
  unfold m_X4_cell; rw [pk_mul, nI_add, pk_mul, show (t * 5 + s) * 4 = 4 * (5 * t + s) by omega]
/-- the sets of a cell -/
def cb (v : Nat → Int64) (j X : Nat) : Bool := lb (v (4 * j + X / 64)) (X % 64)
def jn : Option Nat → Nat → Nat
  | none, A => A
  | some q, A => A ||| 2 ^ q
theorem wf_b : ∀ q, q < 6 → ∀ x, x < 64 → lb (wfN q) x = !(x.testBit q) := by decide +kernel
theorem or_1 : ∀ q, q < 6 → ∀ y, y < 64 → (y.testBit q = true → y ||| 2 ^ q = y) ∧ (y.testBit q = false → y ||| 2 ^ q = y + 2 ^ q) ∧ y ||| 2 ^ q < 64 := by decide +kernel
theorem or_2 : ∀ q, q < 6 → ∀ v, v < 4 → ∀ y, y < 64 → (64 * v + y) ||| 2 ^ q = 64 * v + (y ||| 2 ^ q) := by decide +kernel
theorem or_3 : ∀ q, q < 2 → ∀ v, v < 4 → ∀ y, y < 64 → (64 * v + y) ||| 2 ^ (q + 6) = 64 * (v ||| 2 ^ q) + y := by decide +kernel
theorem or_4 : ∀ q, q < 2 → ∀ v, v < 4 → v ||| 2 ^ q < 4 := by decide +kernel
def cfq (q : Nat) (z : Int64) : Int64 := (z ^^^ (z &&& wfN q)) ||| ((z &&& wfN q) <<< ((nI (2 ^ q)).toInt64 &&& 63))
theorem pw6 : ∀ q, q < 6 → 2 ^ q < 64 := by decide +kernel
theorem cfq_b {q : Nat} (hq : q < 6) {z : Int64} {x : Nat} (hx : x < 64) : lb (cfq q z) x = true ↔ ∃ y, y < 64 ∧ lb z y = true ∧ x = y ||| 2 ^ q := by
  have hp := pw6 q hq
  have hp0 := Nat.two_pow_pos q
  unfold cfq
  rw [l_or, l_xor, l_and, wf_b q hq x hx, l_shl hp _ hx, l_and]
  constructor
  · intro h
    rw [Bool.or_eq_true] at h
    rcases h with h | h
    · cases hz : lb z x
      · rw [hz] at h; simp at h
      · cases ht : x.testBit q
        · rw [hz, ht] at h; simp at h
        · exact ⟨x, hx, hz, ((or_1 q hq x hx).1 ht).symm⟩
    · rw [Bool.and_eq_true, Bool.and_eq_true, decide_eq_true_eq] at h
      obtain ⟨h1, h2, h3⟩ := h
      rw [wf_b q hq _ (by omega)] at h3
      refine ⟨x - 2 ^ q, by omega, h2, ?_⟩
      rw [(or_1 q hq (x - 2 ^ q) (by omega)).2.1 (by simpa using h3)]; omega
  · rintro ⟨y, hy, hz, rfl⟩
    cases ht : y.testBit q
    · rw [(or_1 q hq y hy).2.1 ht, Bool.or_eq_true]
      right
      rw [Nat.add_sub_cancel, hz, wf_b q hq y hy, ht, decide_eq_true (by omega)]; rfl
    · rw [(or_1 q hq y hy).1 ht, hz, ht]; rfl
theorem stL_ni {w : Nat → Nat → Int64} {i i' k : Nat} {v : Int64} (h : i' ≠ i) : stL w i k v i' = w i' := by
  funext k'; exact if_neg (fun q => h q.1)
theorem stL_b {w : Nat → Nat → Int64} {b k0 k x : Nat} {c : Int64} : lb (stL w b k0 (w b k0 ||| c) b k) x = true ↔ lb (w b k) x = true ∨ (k = k0 ∧ lb c x = true) := by
  unfold stL
  by_cases q : k = k0
  · subst q; rw [if_pos ⟨rfl, rfl⟩, l_or, Bool.or_eq_true]
    exact ⟨fun h => h.elim Or.inl (fun h => Or.inr ⟨rfl, h⟩), fun h => h.elim Or.inl (fun h => Or.inr h.2)⟩
  · rw [if_neg (fun p => q p.2)]
    exact ⟨Or.inl, fun h => h.elim id (fun h => absurd h.1 q)⟩
section MV
variable {σ : SS} {a b : Nat}
theorem mv_L (hab : a ≠ b) {f g : Nat} {q : Int32} {tg : Nat → Nat} {cf : Int64 → Int64} (step : ∀ (k0 : S3 → Int32 → Int32 → Int32 → Int32 → S3) (w : Nat → Nat → Int64) (u : Nat), u < 4 → m_X4_moveAll_L3_2_b k0 (σ, w) (nI u) (nI f) (nI g) q = k0 (σ, stL w b (g + tg u) (w b (g + tg u) ||| cf (w a (f + u)))) (nI (u + 1)) (nI f) (nI g) q) : ∀ (m u : Nat) (w : Nat → Nat → Int64), u ≤ 4 → 4 - u < m → ∃ w', m_X4_moveAll_L3_2 m (σ, w) (nI u) (nI f) (nI g) q = (σ, w') ∧ (∀ i, i ≠ b → w' i = w i) ∧ ∀ k x, (lb (w' b k) x = true ↔ lb (w b k) x = true ∨ ∃ v, u ≤ v ∧ v < 4 ∧ k = g + tg v ∧ lb (cf (w a (f + v))) x = true) := by
  intro m
  induction m with
  | zero => intro u w _ h0; exact absurd h0 (Nat.not_lt_zero _)
  | succ m ih =>
    intro u w hu hm
    rw [show m_X4_moveAll_L3_2 (m + 1) = m_X4_moveAll_L3_2_b (m_X4_moveAll_L3_2 m) from rfl]
    by_cases h1 : 4 ≤ u
    · refine ⟨w, ?_, fun i _ => rfl, fun k x => ⟨Or.inl, fun h => h.elim id (fun ⟨v, p1, p2, _⟩ => by omega)⟩⟩
      unfold m_X4_moveAll_L3_2_b
      rw [if_pos ((nle (by omega) (by omega)).mpr h1)]
    · rw [step _ w u (by omega)]
      obtain ⟨w', e1, e2, e3⟩ := ih (u + 1) (stL w b (g + tg u) (w b (g + tg u) ||| cf (w a (f + u)))) (by omega) (by omega)
      refine ⟨w', e1, fun i hi => (e2 i hi).trans (stL_ni hi), fun k x => ?_⟩
      rw [e3, stL_b, stL_ni hab]
      constructor
      · rintro ((h | ⟨h1, h2⟩) | ⟨v, h1, h2, h3⟩)
        · exact Or.inl h
        · exact Or.inr ⟨u, Nat.le_refl _, by omega, h1, h2⟩
        · exact Or.inr ⟨v, by omega, h2, h3⟩
      · rintro (h | ⟨v, h1, h2, h3, h4⟩)
        · exact Or.inl (Or.inl h)
        · by_cases p : v = u
          · subst p; exact Or.inl (Or.inr ⟨h3, h4⟩)
          · exact Or.inr ⟨v, by omega, h2, h3, h4⟩
theorem move_0 (h0 : σ 30 0 = nI a) (h1 : σ 30 1 = nI b) (la : a < 72) (lb' : b < 72) {f g : Nat} (hf : f ≤ 156) (hg : g ≤ 156) (k0 : S3 → Int32 → Int32 → Int32 → Int32 → S3) (w : Nat → Nat → Int64) (u : Nat) (hu : u < 4) : m_X4_moveAll_L3_2_b k0 (σ, w) (nI u) (nI f) (nI g) (-1) = k0 (σ, stL w b (g + id u) (w b (g + id u) ||| id (w a (f + u)))) (nI (u + 1)) (nI f) (nI g) (-1) := by
  simp only [m_X4_moveAll_84, m_X4_moveAll_68, m_X4_moveAll_38, m_X4_moveAll_L3_2_b, m_X4_moveAll, if_neg (show ¬ (nI 4 ≤ nI u) from fun p => by rw [nle (by omega) (by omega)] at p; omega), if_true, h0, h1, rlN (show a < 2147483648 by omega), rlN (show b < 2147483648 by omega), nI_add, rlN (show g + u < 2147483648 by omega), rlN (show f + u < 2147483648 by omega), oI1, id]
theorem move_1 (h0 : σ 30 0 = nI a) (h1 : σ 30 1 = nI b) (la : a < 72) (lb' : b < 72) {f g : Nat} (hf : f ≤ 156) (hg : g ≤ 156) {q : Nat} (hq : q < 6) (k0 : S3 → Int32 → Int32 → Int32 → Int32 → S3) (w : Nat → Nat → Int64) (u : Nat) (hu : u < 4) : m_X4_moveAll_L3_2_b k0 (σ, w) (nI u) (nI f) (nI g) (nI q) = k0 (σ, stL w b (g + id u) (w b (g + id u) ||| cfq q (w a (f + u)))) (nI (u + 1)) (nI f) (nI g) (nI q) := by
  simp only [m_X4_moveAll_84, m_X4_moveAll_68, m_X4_moveAll_38, m_X4_moveAll_L3_2_b, m_X4_moveAll, if_neg (show ¬ (nI 4 ≤ nI u) from fun p => by rw [nle (by omega) (by omega)] at p; omega), if_neg (nI_nm (show q < 8 by omega)), if_neg (show ¬ (nI 6 ≤ nI q) from fun p => by rw [nle (by omega) (by omega)] at p; omega), h0, h1, rlN (show a < 2147483648 by omega), rlN (show b < 2147483648 by omega), nI_add, rlN (show g + u < 2147483648 by omega), rlN (show f + u < 2147483648 by omega), rlN (show q < 2147483648 by omega), shl1 q (by omega), oI1, id, cfq]
theorem move_2 (h0 : σ 30 0 = nI a) (h1 : σ 30 1 = nI b) (la : a < 72) (lb' : b < 72) {f g : Nat} (hf : f ≤ 156) (hg : g ≤ 156) {q : Nat} (hq : q < 2) (k0 : S3 → Int32 → Int32 → Int32 → Int32 → S3) (w : Nat → Nat → Int64) (u : Nat) (hu : u < 4) : m_X4_moveAll_L3_2_b k0 (σ, w) (nI u) (nI f) (nI g) (nI (q + 6)) = k0 (σ, stL w b (g + (u ||| 2 ^ q)) (w b (g + (u ||| 2 ^ q)) ||| id (w a (f + u)))) (nI (u + 1)) (nI f) (nI g) (nI (q + 6)) := by
  have h4 := or_4 q hq u hu
  simp only [m_X4_moveAll_84, m_X4_moveAll_68, m_X4_moveAll_38, m_X4_moveAll_L3_2_b, m_X4_moveAll, if_neg (show ¬ (nI 4 ≤ nI u) from fun p => by rw [nle (by omega) (by omega)] at p; omega), if_neg (nI_nm (show q + 6 < 8 by omega)), if_pos (show nI 6 ≤ nI (q + 6) from (nle (by omega) (by omega)).mpr (by omega)), h0, h1, rlN (show a < 2147483648 by omega), rlN (show b < 2147483648 by omega), nsub (show 6 ≤ q + 6 by omega), Nat.add_sub_cancel, shl1 q (by omega), nI_or, nI_add, rlN (show g + (u ||| 2 ^ q) < 2147483648 by omega), rlN (show f + u < 2147483648 by omega), oI1, id]
def sQ : Option Nat → Int32
  | none => -1
  | some q => nI q
theorem move_E (h0 : σ 30 0 = nI a) (h1 : σ 30 1 = nI b) (hab : a ≠ b) (la : a < 72) (lb' : b < 72) {f g : Nat} (hf : f ≤ 39) (hg : g ≤ 39) (qo : Option Nat) (hq : ∀ q, qo = some q → q < 8) (w : Nat → Nat → Int64) : ∃ w', m_X4_moveAll (σ, w) (nI (4 * f)) (nI (4 * g)) (sQ qo) = (σ, w') ∧ (∀ i, i ≠ b → w' i = w i) ∧ ∀ j X, X < 256 → (cb (w' b) j X = true ↔ cb (w b) j X = true ∨ (j = g ∧ ∃ A, A < 256 ∧ cb (w a) f A = true ∧ X = jn qo A)) := by
  unfold m_X4_moveAll
  cases qo with
  | none =>
    obtain ⟨w', e1, e2, e3⟩ := mv_L hab (move_0 h0 h1 la lb' (show 4 * f ≤ 156 by omega) (show 4 * g ≤ 156 by omega)) 2000 0 w (by omega) (by omega)
    refine ⟨w', e1, e2, fun j X hX => ?_⟩
    unfold cb
    rw [e3]
    refine or_congr Iff.rfl ⟨?_, ?_⟩
    · rintro ⟨v, h1, h2, h3, h4⟩
      have h3' : 4 * j + X / 64 = 4 * g + v := h3
      refine ⟨by omega, X, hX, ?_, rfl⟩
      rw [show X / 64 = v by omega]; exact h4
    · rintro ⟨rfl, A, hA, h3, h4⟩
      have h4' : X = A := h4
      subst h4'
      exact ⟨X / 64, by omega, by omega, rfl, h3⟩
  | some q =>
    have hq8 := hq q rfl
    by_cases hq6 : q < 6
    · obtain ⟨w', e1, e2, e3⟩ := mv_L hab (move_1 h0 h1 la lb' (show 4 * f ≤ 156 by omega) (show 4 * g ≤ 156 by omega) hq6) 2000 0 w (by omega) (by omega)
      refine ⟨w', e1, e2, fun j X hX => ?_⟩
      unfold cb
      rw [e3]
      refine or_congr Iff.rfl ⟨?_, ?_⟩
      · rintro ⟨v, h1, h2, h3, h4⟩
        have h3' : 4 * j + X / 64 = 4 * g + v := h3
        obtain ⟨y, hy, h5, h6⟩ := (cfq_b hq6 (by omega)).mp h4
        refine ⟨by omega, 64 * v + y, by omega, ?_, ?_⟩
        · rw [show (64 * v + y) / 64 = v by omega, show (64 * v + y) % 64 = y by omega]; exact h5
        · show X = (64 * v + y) ||| 2 ^ q
          rw [or_2 q hq6 v h2 y hy]; omega
      · rintro ⟨rfl, A, hA, h3, h4⟩
        have h4' : X = A ||| 2 ^ q := h4
        have k1 := or_2 q hq6 (A / 64) (by omega) (A % 64) (by omega)
        have k2 := (or_1 q hq6 (A % 64) (by omega)).2.2
        rw [show 64 * (A / 64) + A % 64 = A by omega] at k1
        rw [k1] at h4'
        refine ⟨A / 64, by omega, by omega, ?_, (cfq_b hq6 (by omega)).mpr ⟨A % 64, by omega, h3, by omega⟩⟩
        show 4 * j + X / 64 = 4 * j + A / 64
        omega
    · obtain ⟨r, rfl⟩ : ∃ r, q = r + 6 := ⟨q - 6, by omega⟩
      obtain ⟨w', e1, e2, e3⟩ := mv_L hab (tg := fun v => v ||| 2 ^ r) (move_2 h0 h1 la lb' (show 4 * f ≤ 156 by omega) (show 4 * g ≤ 156 by omega) (show r < 2 by omega)) 2000 0 w (by omega) (by omega)
      refine ⟨w', e1, e2, fun j X hX => ?_⟩
      unfold cb
      rw [e3]
      refine or_congr Iff.rfl ⟨?_, ?_⟩
      · rintro ⟨v, h1, h2, h3, h4⟩
        have h3' : 4 * j + X / 64 = 4 * g + (v ||| 2 ^ r) := h3
        have k4 := or_4 r (by omega) v h2
        refine ⟨by omega, 64 * v + X % 64, by omega, ?_, ?_⟩
        · rw [show (64 * v + X % 64) / 64 = v by omega, show (64 * v + X % 64) % 64 = X % 64 by omega]; exact h4
        · show X = (64 * v + X % 64) ||| 2 ^ (r + 6)
          rw [or_3 r (by omega) v h2 (X % 64) (by omega)]; omega
      · rintro ⟨rfl, A, hA, h3, h4⟩
        have h4' : X = A ||| 2 ^ (r + 6) := h4
        have k1 := or_3 r (by omega) (A / 64) (by omega) (A % 64) (by omega)
        have k4 := or_4 r (by omega) (A / 64) (by omega)
        rw [show 64 * (A / 64) + A % 64 = A by omega] at k1
        rw [k1] at h4'
        refine ⟨A / 64, by omega, by omega, ?_, ?_⟩
        · show 4 * j + X / 64 = 4 * j + (A / 64 ||| 2 ^ r)
          omega
        · show lb (w a (4 * f + A / 64)) (X % 64) = true
          rw [show X % 64 = A % 64 by omega]; exact h3
end MV
end XA
