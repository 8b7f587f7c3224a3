theorem wb_shl (n : Nat) {k : Nat} (hk : k < 64) : lN n <<< ((nI k).toInt64 &&& 63) = lN (n * 2 ^ k) := by
  rw [wb_c k hk]
  apply wb_inj
  rw [Int64.toBitVec_shiftLeft, wb_tb, wb_tb, wb_tb, wb_sm k hk]
  apply BitVec.eq_of_toNat_eq
  rw [BitVec.shiftLeft_eq', BitVec.toNat_shiftLeft, BitVec.toNat_ofNat, BitVec.toNat_ofNat, BitVec.toNat_ofNat, Nat.mod_eq_of_lt (show k < 2 ^ 64 by omega), Nat.shiftLeft_eq, Nat.mul_mod, Nat.mod_mod, ← Nat.mul_mod]
/-! sets of towns and months stayed, as longs -/
def lb (x : Int64) (k : Nat) : Bool := x.toBitVec.getLsbD k
theorem l_ext {x y : Int64} (h : ∀ i, i < 64 → lb x i = lb y i) : x = y := Int64.toBitVec_inj.mp (BitVec.eq_of_getLsbD_eq (fun i hi => h i hi))
theorem l_or (x y : Int64) (i : Nat) : lb (x ||| y) i = (lb x i || lb y i) := by unfold lb; rw [Int64.toBitVec_or, BitVec.getLsbD_or]
theorem l_and (x y : Int64) (i : Nat) : lb (x &&& y) i = (lb x i && lb y i) := by unfold lb; rw [Int64.toBitVec_and, BitVec.getLsbD_and]
theorem l_0 (i : Nat) : lb 0 i = false := BitVec.getLsbD_zero
theorem l_big {x : Int64} {i : Nat} (h : 64 ≤ i) : lb x i = false := BitVec.getLsbD_of_ge _ _ h
def lB (n : Nat) : Int64 := (1 : Int64) <<< ((nI n).toInt64 &&& 63)
theorem l_bit {n : Nat} (hn : n < 64) (k : Nat) : lb (lB n) k = decide (k = n) := by
  unfold lB
  rw [show (1 : Int64) = lN 1 from rfl, wb_shl 1 hn, Nat.one_mul]
  unfold lb
  rw [wb_tb, BitVec.getLsbD_ofNat, Nat.testBit_two_pow]
  by_cases q : k = n
  · subst q; simp [hn]
  · simp [q, Ne.symm q]
theorem l_shr {n : Nat} (hn : n < 64) (x : Int64) {i : Nat} (hi : n + i < 64) : lb (x >>> ((nI n).toInt64 &&& 63)) i = lb x (n + i) := by
  unfold lb
  rw [Int64.toBitVec_shiftRight, wb_c n hn]
  show (x.toBitVec.sshiftRight ((lN n).toBitVec.smod 64).toNat).getLsbD i = _
  rw [wb_tb, wb_sm n hn, BitVec.toNat_ofNat, Nat.mod_eq_of_lt (by omega), BitVec.getLsbD_sshiftRight]
  simp [hi, show ¬ 64 ≤ i by omega]
theorem l_31 : ∀ i, i < 64 → lb 31 i = decide (i < 5) := by decide +kernel
theorem cmp0 {x : Int64} : lg_cmp x 0 = 0 ↔ x = 0 := by
  unfold lg_cmp
  by_cases h : x > 0
  · rw [if_pos h]
    exact ⟨fun q => absurd q (by decide +kernel), fun q => by rw [q] at h; exact absurd h (by decide +kernel)⟩
  · rw [if_neg h]
    by_cases h2 : x = 0
    · rw [if_pos h2]; exact ⟨fun _ => h2, fun _ => rfl⟩
    · rw [if_neg h2]; exact ⟨fun q => absurd q (by decide +kernel), fun q => absurd q h2⟩
theorem l_nil {x : Int64} (h : ∀ k, k < 64 → lb x k = false) : x = 0 := l_ext (fun i hi => by rw [h i hi, l_0])
section GO
variable {C E : SS}
theorem bit_E {σ : SS} {t p : Nat} : m_X8_bit σ (nI t) (nI p) = lB (5 * t + p) := by
  unfold m_X8_bit lB; rw [pk_mul, nI_add]
theorem has_E {σ : SS} {L : Int64} {t p : Nat} (ht : t < 8) (hp : p < 5) : m_X8_has σ L (nI t) (nI p) = 0 ↔ lb L (5 * t + p) = false := by
  unfold m_X8_has
  rw [bit_E]
  have key : (L &&& lB (5 * t + p) = 0) ↔ lb L (5 * t + p) = false := by
    constructor
    · intro h
      have := congrArg (fun z => lb z (5 * t + p)) h
      simp only [l_and, l_bit (show 5 * t + p < 64 by omega), l_0] at this
      simpa using this
    · intro h
      refine l_nil (fun k hk => ?_)
      rw [l_and, l_bit (show 5 * t + p < 64 by omega)]
      by_cases q : k = 5 * t + p
      · subst q; rw [h]; rfl
      · rw [decide_eq_false q, Bool.and_false]
  by_cases q : lg_cmp (L &&& lB (5 * t + p)) 0 = 0
  · rw [if_pos q]; exact ⟨fun _ => key.mp (cmp0.mp q), fun _ => n0e⟩
  · rw [if_neg q]; exact ⟨fun p => absurd p n1ne, fun p => absurd (cmp0.mpr (key.mpr p)) q⟩
def anyp (L : Int64) (t : Nat) : Bool := lb L (5 * t) || lb L (5 * t + 1) || lb L (5 * t + 2) || lb L (5 * t + 3) || lb L (5 * t + 4)
theorem anyp_iff {L : Int64} {t : Nat} : anyp L t = true ↔ ∃ p, p < 5 ∧ lb L (5 * t + p) = true := by
  unfold anyp
  simp only [Bool.or_eq_true]
  constructor
  · rintro ((((h | h) | h) | h) | h)
    · exact ⟨0, by omega, h⟩
    · exact ⟨1, by omega, h⟩
    · exact ⟨2, by omega, h⟩
    · exact ⟨3, by omega, h⟩
    · exact ⟨4, by omega, h⟩
  · rintro ⟨p, hp, h⟩
    rcases (show p = 0 ∨ p = 1 ∨ p = 2 ∨ p = 3 ∨ p = 4 by omega) with rfl | rfl | rfl | rfl | rfl
    · exact Or.inl (Or.inl (Or.inl (Or.inl h)))
    · exact Or.inl (Or.inl (Or.inl (Or.inr h)))
    · exact Or.inl (Or.inl (Or.inr h))
    · exact Or.inl (Or.inr h)
    · exact Or.inr h
theorem part0 {L : Int64} {t : Nat} (ht : t < 8) : ((L >>> ((nI (5 * t)).toInt64 &&& 63)) &&& (31 : Int64) = 0) ↔ anyp L t = false := by
  have bits : ∀ k, k < 64 → lb ((L >>> ((nI (5 * t)).toInt64 &&& 63)) &&& (31 : Int64)) k = (decide (k < 5) && lb L (5 * t + k)) := fun k hk => by
    rw [l_and, l_31 k hk]
    by_cases q : k < 5
    · rw [l_shr (show 5 * t < 64 by omega) L (show 5 * t + k < 64 by omega), decide_eq_true q, Bool.and_true, Bool.true_and]
    · rw [decide_eq_false q, Bool.and_false, Bool.false_and]
  constructor
  · intro h
    cases q : anyp L t
    · rfl
    · obtain ⟨p, hp, h2⟩ := anyp_iff.mp q
      have := bits p (by omega)
      rw [h, l_0, decide_eq_true hp, h2] at this
      cases this
  · intro h
    refine l_nil (fun k hk => ?_)
    rw [bits k hk]
    by_cases q : k < 5
    · cases w : lb L (5 * t + k)
      · rw [Bool.and_false]
      · have := anyp_iff.mpr ⟨k, q, w⟩
        rw [h] at this; cases this
    · rw [decide_eq_false q, Bool.false_and]
theorem towns_L {σ : SS} {L : Int64} : ∀ (m u : Nat) (s : Int32), u ≤ 8 → 8 - u < m → (∀ k, bt s k = (decide (k < u) && anyp L k)) → ∀ k, bt (m_X8_towns_L4_3 m σ (nI u) s L) k = (decide (k < 8) && anyp L k) := by
  intro m
  induction m with
  | zero => intro u s _ h0; exact absurd h0 (Nat.not_lt_zero _)
  | succ m ih =>
    intro u s hu hm hs k
    rw [show m_X8_towns_L4_3 (m + 1) = m_X8_towns_L4_3_b (m_X8_towns_L4_3 m) from rfl]
    unfold m_X8_towns_L4_3_b
    rw [pk_mul, oI1, n1, or_nz]
    by_cases h1 : 8 ≤ u
    · rw [if_pos ((nle (by omega) (by omega)).mpr h1), hs k, show u = 8 by omega]
    · rw [if_neg (fun q => h1 ((nle (by omega) (by omega)).mp q))]
      cases q : anyp L u
      · rw [if_pos (cmp0.mpr ((part0 (by omega)).mpr q))]
        refine ih (u + 1) s (by omega) (by omega) (fun k => ?_) k
        rw [hs k]
        by_cases p : k = u
        · subst p; rw [q, Bool.and_false, Bool.and_false]
        · rw [show decide (k < u + 1) = decide (k < u) by rw [decide_eq_decide]; omega]
      · rw [if_neg (fun p => by rw [cmp0, part0 (by omega), q] at p; cases p)]
        refine ih (u + 1) _ (by omega) (by omega) (fun k => ?_) k
        rw [b_or, hs k, b_one (by omega)]
        by_cases p : k = u
        · subst p; rw [q, decide_eq_true (rfl : k = k), decide_eq_true (show k < k + 1 by omega), Bool.or_true]; rfl
        · rw [decide_eq_false p, Bool.or_false, show decide (k < u + 1) = decide (k < u) by rw [decide_eq_decide]; omega]
theorem towns_E {σ : SS} {L : Int64} (k : Nat) : bt (m_X8_towns σ L) k = (decide (k < 8) && anyp L k) := by
  unfold m_X8_towns
  exact towns_L 2000 0 (nI 0) (by omega) (by omega) (fun k => by rw [b_n0, decide_eq_false (show ¬ k < 0 by omega), Bool.false_and]) k
/-- goes: what is added at a town's walks -/
def innA (w : Int32) (o : Bool) (to : Int64) : Nat → Int64
  | 0 => to
  | u + 1 => innA w o to u ||| (if o && bt w u then lB (5 * u) else 0)
def midA (w : Int32) (o : Bool) (T R t : Nat) (ok : Bool) (fr to : Int64) : Nat → Int64
  | 0 => to
  | p + 1 => if lb fr (5 * t + p) then innA w o (midA w o T R t ok fr to p ||| (if decide (p < R) && ok then lB (5 * t + p + 1) else 0)) T else midA w o T R t ok fr to p
theorem l_orz (x : Int64) : x ||| 0 = x := l_ext (fun i _ => by rw [l_or, l_0, Bool.or_false])
theorem d_eq {a b : Int32} (h : a = b) : decide (a = b) = true := decide_eq_true h
theorem inn_L0 {T : Nat} (hT : T ≤ 8) (h2 : E 60 2 = nI T) {w p t sh only : Int32} {fr to : Int64} (k0 : SS → Int32 → Int64 → Int64 → Int32 → Int32 → Int64) (k1 : SS → Int32 → Int32 → Int32 → Int64 → Int64 → Int32 → Int32 → Int64) : ∀ (m u : Nat), u ≤ T → T - u < m → m_X8_goes_L91_199 k0 k1 m E (nI u) (innA w (decide (only = -1)) to u) p w t fr sh only = k1 E (p + nI 1) w t (innA w (decide (only = -1)) to T) fr sh only := by
  intro m
  induction m with
  | zero => intro u _ h0; exact absurd h0 (Nat.not_lt_zero _)
  | succ m ih =>
    intro u hu hm
    rw [show m_X8_goes_L91_199 k0 k1 (m + 1) = m_X8_goes_L91_199_b k0 k1 (m_X8_goes_L91_199 k0 k1 m) from rfl]
    unfold m_X8_goes_L91_199_b
    rw [r2, h2, oI1, n1]
    by_cases h1 : T ≤ u
    · rw [if_pos ((nle (by omega) (by omega)).mpr h1), show u = T by omega]
    · rw [if_neg (fun q => h1 ((nle (by omega) (by omega)).mp q))]
      have ih' := ih (u + 1) (by omega) (by omega)
      have e : innA w (decide (only = -1)) to (u + 1) = innA w (decide (only = -1)) to u ||| (if decide (only = -1) && bt w u then lB (5 * u) else 0) := rfl
      rw [e] at ih'
      by_cases q : only = -1
      · rw [if_pos q]
        rw [decide_eq_true q, Bool.true_and] at ih'
        rw [decide_eq_true q]
        cases p2 : bt w u
        · rw [if_neg (fun z => by rw [b_ask1 (by omega), p2] at z; cases z)]
          rw [p2, if_neg (show ¬ (false = true) by decide)] at ih'
          exact ih'
        · rw [if_pos ((b_ask1 (by omega)).mpr p2), bit_E, Nat.add_zero]
          rw [p2, if_pos (rfl : true = true)] at ih'
          exact ih'
      · rw [if_neg q]
        rw [decide_eq_false q, Bool.false_and, if_neg (show ¬ (false = true) by decide)] at ih'
        rw [decide_eq_false q]
        exact ih'
theorem inn_L1 {T : Nat} (hT : T ≤ 8) (h2 : E 60 2 = nI T) {w p t sh only : Int32} {fr to : Int64} (k0 : SS → Int32 → Int64 → Int64 → Int32 → Int32 → Int64) (k1 : SS → Int32 → Int32 → Int32 → Int64 → Int64 → Int32 → Int32 → Int64) : ∀ (m u : Nat), u ≤ T → T - u < m → m_X8_goes_L91_148 k0 k1 m E (nI u) (innA w (decide (only = -1)) to u) p w t fr sh only = k1 E (p + nI 1) w t (innA w (decide (only = -1)) to T) fr sh only := by
  intro m
  induction m with
  | zero => intro u _ h0; exact absurd h0 (Nat.not_lt_zero _)
  | succ m ih =>
    intro u hu hm
    rw [show m_X8_goes_L91_148 k0 k1 (m + 1) = m_X8_goes_L91_148_b k0 k1 (m_X8_goes_L91_148 k0 k1 m) from rfl]
    unfold m_X8_goes_L91_148_b
    rw [r2, h2, oI1, n1]
    by_cases h1 : T ≤ u
    · rw [if_pos ((nle (by omega) (by omega)).mpr h1), show u = T by omega]
    · rw [if_neg (fun q => h1 ((nle (by omega) (by omega)).mp q))]
      have ih' := ih (u + 1) (by omega) (by omega)
      have e : innA w (decide (only = -1)) to (u + 1) = innA w (decide (only = -1)) to u ||| (if decide (only = -1) && bt w u then lB (5 * u) else 0) := rfl
      rw [e] at ih'
      by_cases q : only = -1
      · rw [if_pos q]
        rw [decide_eq_true q, Bool.true_and] at ih'
        rw [decide_eq_true q]
        cases p2 : bt w u
        · rw [if_neg (fun z => by rw [b_ask1 (by omega), p2] at z; cases z)]
          rw [p2, if_neg (show ¬ (false = true) by decide)] at ih'
          exact ih'
        · rw [if_pos ((b_ask1 (by omega)).mpr p2), bit_E, Nat.add_zero]
          rw [p2, if_pos (rfl : true = true)] at ih'
          exact ih'
      · rw [if_neg q]
        rw [decide_eq_false q, Bool.false_and, if_neg (show ¬ (false = true) by decide)] at ih'
        rw [decide_eq_false q]
        exact ih'
theorem inn_L2 {T : Nat} (hT : T ≤ 8) (h2 : E 60 2 = nI T) {w p t sh only : Int32} {fr to : Int64} (k0 : SS → Int32 → Int64 → Int64 → Int32 → Int32 → Int64) (k1 : SS → Int32 → Int32 → Int32 → Int64 → Int64 → Int32 → Int32 → Int64) : ∀ (m u : Nat), u ≤ T → T - u < m → m_X8_goes_L91_99 k0 k1 m E (nI u) (innA w (decide (only = -1)) to u) p w t fr sh only = k1 E (p + nI 1) w t (innA w (decide (only = -1)) to T) fr sh only := by
  intro m
  induction m with
  | zero => intro u _ h0; exact absurd h0 (Nat.not_lt_zero _)
  | succ m ih =>
    intro u hu hm
    rw [show m_X8_goes_L91_99 k0 k1 (m + 1) = m_X8_goes_L91_99_b k0 k1 (m_X8_goes_L91_99 k0 k1 m) from rfl]
    unfold m_X8_goes_L91_99_b
    rw [r2, h2, oI1, n1]
    by_cases h1 : T ≤ u
    · rw [if_pos ((nle (by omega) (by omega)).mpr h1), show u = T by omega]
    · rw [if_neg (fun q => h1 ((nle (by omega) (by omega)).mp q))]
      have ih' := ih (u + 1) (by omega) (by omega)
      have e : innA w (decide (only = -1)) to (u + 1) = innA w (decide (only = -1)) to u ||| (if decide (only = -1) && bt w u then lB (5 * u) else 0) := rfl
      rw [e] at ih'
      by_cases q : only = -1
      · rw [if_pos q]
        rw [decide_eq_true q, Bool.true_and] at ih'
        rw [decide_eq_true q]
        cases p2 : bt w u
        · rw [if_neg (fun z => by rw [b_ask1 (by omega), p2] at z; cases z)]
          rw [p2, if_neg (show ¬ (false = true) by decide)] at ih'
          exact ih'
        · rw [if_pos ((b_ask1 (by omega)).mpr p2), bit_E, Nat.add_zero]
          rw [p2, if_pos (rfl : true = true)] at ih'
          exact ih'
      · rw [if_neg q]
        rw [decide_eq_false q, Bool.false_and, if_neg (show ¬ (false = true) by decide)] at ih'
        rw [decide_eq_false q]
        exact ih'
theorem inn_L3 {T : Nat} (hT : T ≤ 8) (h2 : E 60 2 = nI T) {w p t sh only : Int32} {fr to : Int64} (k0 : SS → Int32 → Int64 → Int64 → Int32 → Int32 → Int64) (k1 : SS → Int32 → Int32 → Int32 → Int64 → Int64 → Int32 → Int32 → Int64) : ∀ (m u : Nat), u ≤ T → T - u < m → m_X8_goes_L91_46 k0 k1 m E (nI u) (innA w (decide (only = -1)) to u) p w t fr sh only = k1 E (p + nI 1) w t (innA w (decide (only = -1)) to T) fr sh only := by
  intro m
  induction m with
  | zero => intro u _ h0; exact absurd h0 (Nat.not_lt_zero _)
  | succ m ih =>
    intro u hu hm
    rw [show m_X8_goes_L91_46 k0 k1 (m + 1) = m_X8_goes_L91_46_b k0 k1 (m_X8_goes_L91_46 k0 k1 m) from rfl]
    unfold m_X8_goes_L91_46_b
    rw [r2, h2, oI1, n1]
    by_cases h1 : T ≤ u
    · rw [if_pos ((nle (by omega) (by omega)).mpr h1), show u = T by omega]
    · rw [if_neg (fun q => h1 ((nle (by omega) (by omega)).mp q))]
      have ih' := ih (u + 1) (by omega) (by omega)
      have e : innA w (decide (only = -1)) to (u + 1) = innA w (decide (only = -1)) to u ||| (if decide (only = -1) && bt w u then lB (5 * u) else 0) := rfl
      rw [e] at ih'
      by_cases q : only = -1
      · rw [if_pos q]
        rw [decide_eq_true q, Bool.true_and] at ih'
        rw [decide_eq_true q]
        cases p2 : bt w u
        · rw [if_neg (fun z => by rw [b_ask1 (by omega), p2] at z; cases z)]
          rw [p2, if_neg (show ¬ (false = true) by decide)] at ih'
          exact ih'
        · rw [if_pos ((b_ask1 (by omega)).mpr p2), bit_E, Nat.add_zero]
          rw [p2, if_pos (rfl : true = true)] at ih'
          exact ih'
      · rw [if_neg q]
        rw [decide_eq_false q, Bool.false_and, if_neg (show ¬ (false = true) by decide)] at ih'
        rw [decide_eq_false q]
        exact ih'
theorem mid_L {T R t : Nat} (hT : T ≤ 8) (h2 : E 60 2 = nI T) (hR : R ≤ 4) (h0 : E 60 0 = nI R) (ht : t < 8) {w sh only : Int32} {fr to : Int64} (k0 : SS → Int32 → Int64 → Int64 → Int32 → Int32 → Int64) : ∀ (m p : Nat), p ≤ 5 → 5 - p < m → m_X8_goes_L29_19 k0 m E (nI p) w (nI t) (midA w (decide (only = -1)) T R t (decide (only = -1) || decide (only = nI t)) fr to p) fr sh only = k0 E (nI (t + 1)) (midA w (decide (only = -1)) T R t (decide (only = -1) || decide (only = nI t)) fr to 5) fr sh only := by
  intro m
  induction m with
  | zero => intro p _ h0; exact absurd h0 (Nat.not_lt_zero _)
  | succ m ih =>
    intro p hp hm
    rw [show m_X8_goes_L29_19 k0 (m + 1) = m_X8_goes_L29_19_b k0 (m_X8_goes_L29_19 k0 m) from rfl]
    unfold m_X8_goes_L29_19_b
    rw [oI1, n1 t, n1 p, r0, h0]
    by_cases h1 : 5 ≤ p
    · rw [if_pos ((nle (by omega) (by omega)).mpr h1), show p = 5 by omega]
    · rw [if_neg (fun q => h1 ((nle (by omega) (by omega)).mp q))]
      have ih' := ih (p + 1) (by omega) (by omega)
      have e : midA w (decide (only = -1)) T R t (decide (only = -1) || decide (only = nI t)) fr to (p + 1) = if lb fr (5 * t + p) then innA w (decide (only = -1)) (midA w (decide (only = -1)) T R t (decide (only = -1) || decide (only = nI t)) fr to p ||| (if decide (p < R) && (decide (only = -1) || decide (only = nI t)) then lB (5 * t + p + 1) else 0)) T else midA w (decide (only = -1)) T R t (decide (only = -1) || decide (only = nI t)) fr to p := rfl
      rw [e] at ih'
      have k5 : m_X8_bit E (nI t) (nI (p + 1)) = lB (5 * t + p + 1) := by rw [bit_E]; rfl
      cases q : lb fr (5 * t + p)
      · rw [if_pos ((has_E ht (by omega)).mpr q)]
        rw [q, if_neg (show ¬ (false = true) by decide)] at ih'
        exact ih'
      · rw [if_neg (fun z => by rw [has_E ht (by omega), q] at z; cases z)]
        rw [q, if_pos (rfl : true = true)] at ih'
        have il : ∀ x : Int64, innA w (decide (only = -1)) x 0 = x := fun x => rfl
        by_cases g1 : R ≤ p
        · rw [if_pos ((nle (by omega) (by omega)).mpr g1)]
          rw [decide_eq_false (show ¬ p < R by omega), Bool.false_and, if_neg (show ¬ (false = true) by decide)] at ih'
          have z := inn_L3 hT h2 (w := w) (p := nI p) (t := nI t) (sh := sh) (only := only) (fr := fr) (to := midA w (decide (only = -1)) T R t (decide (only = -1) || decide (only = nI t)) fr to p ||| 0) k0 (m_X8_goes_L29_19 k0 m) 2000 0 (by omega) (by omega)
          rw [il, n1] at z
          exact z.trans ih'
        · rw [if_neg (fun z => g1 ((nle (by omega) (by omega)).mp z))]
          rw [decide_eq_true (show p < R by omega), Bool.true_and] at ih'
          by_cases g2 : only = -1
          · rw [if_pos g2, k5]
            rw [show (decide (only = -1) || decide (only = nI t)) = true by rw [decide_eq_true g2]; rfl, if_pos (rfl : true = true)] at ih'
            rw [show (decide (only = -1) || decide (only = nI t)) = true by rw [decide_eq_true g2]; rfl]
            have z := inn_L2 hT h2 (w := w) (p := nI p) (t := nI t) (sh := sh) (only := only) (fr := fr) (to := midA w (decide (only = -1)) T R t true fr to p ||| lB (5 * t + p + 1)) k0 (m_X8_goes_L29_19 k0 m) 2000 0 (by omega) (by omega)
            rw [il, n1] at z
            exact z.trans ih'
          · rw [if_neg g2]
            by_cases g3 : only = nI t
            · rw [if_pos g3, k5]
              rw [show (decide (only = -1) || decide (only = nI t)) = true by rw [decide_eq_true g3, Bool.or_true], if_pos (rfl : true = true)] at ih'
              rw [show (decide (only = -1) || decide (only = nI t)) = true by rw [decide_eq_true g3, Bool.or_true]]
              have z := inn_L0 hT h2 (w := w) (p := nI p) (t := nI t) (sh := sh) (only := only) (fr := fr) (to := midA w (decide (only = -1)) T R t true fr to p ||| lB (5 * t + p + 1)) k0 (m_X8_goes_L29_19 k0 m) 2000 0 (by omega) (by omega)
              rw [il, n1] at z
              exact z.trans ih'
            · rw [if_neg g3]
              rw [show (decide (only = -1) || decide (only = nI t)) = false by rw [decide_eq_false g2, decide_eq_false g3]; rfl, if_neg (show ¬ (false = true) by decide)] at ih'
              rw [show (decide (only = -1) || decide (only = nI t)) = false by rw [decide_eq_false g2, decide_eq_false g3]; rfl]
              have z := inn_L1 hT h2 (w := w) (p := nI p) (t := nI t) (sh := sh) (only := only) (fr := fr) (to := midA w (decide (only = -1)) T R t false fr to p ||| 0) k0 (m_X8_goes_L29_19 k0 m) 2000 0 (by omega) (by omega)
              rw [il, n1] at z
              exact z.trans ih'
noncomputable def outA (E : SS) (sh only : Int32) (T R : Nat) (fr : Int64) : Nat → Int64
  | 0 => 0
  | t + 1 => midA (m_X8_walks E (nI t) sh) (decide (only = -1)) T R t (decide (only = -1) || decide (only = nI t)) fr (outA E sh only T R fr t) 5
theorem out_L {T R : Nat} (hT : T ≤ 8) (h2 : E 60 2 = nI T) (hR : R ≤ 4) (h0 : E 60 0 = nI R) {sh only : Int32} {fr : Int64} : ∀ (m t : Nat), t ≤ T → T - t < m → m_X8_goes_L6_3 m E (nI t) (outA E sh only T R fr t) fr sh only = outA E sh only T R fr T := by
  intro m
  induction m with
  | zero => intro t _ h0; exact absurd h0 (Nat.not_lt_zero _)
  | succ m ih =>
    intro t ht hm
    rw [show m_X8_goes_L6_3 (m + 1) = m_X8_goes_L6_3_b (m_X8_goes_L6_3 m) from rfl]
    unfold m_X8_goes_L6_3_b
    rw [r2, h2]
    by_cases h1 : T ≤ t
    · rw [if_pos ((nle (by omega) (by omega)).mpr h1), show t = T by omega]
    · rw [if_neg (fun q => h1 ((nle (by omega) (by omega)).mp q))]
      have z := mid_L hT h2 hR h0 (t := t) (by omega) (w := m_X8_walks E (nI t) sh) (sh := sh) (only := only) (fr := fr) (to := outA E sh only T R fr t) (m_X8_goes_L6_3 m) 2000 0 (by omega) (by omega)
      rw [show midA (m_X8_walks E (nI t) sh) (decide (only = -1)) T R t (decide (only = -1) || decide (only = nI t)) fr (outA E sh only T R fr t) 0 = outA E sh only T R fr t from rfl] at z
      exact z.trans (ih (t + 1) (by omega) (by omega))
theorem goes_A {T R : Nat} (hT : T ≤ 8) (h2 : E 60 2 = nI T) (hR : R ≤ 4) (h0 : E 60 0 = nI R) (sh only : Int32) (fr : Int64) : m_X8_goes E fr sh only = outA E sh only T R fr T := by
  unfold m_X8_goes
  exact out_L hT h2 hR h0 2000 0 (by omega) (by omega)
theorem inn_b {w : Int32} {o : Bool} {to : Int64} {k : Nat} : ∀ n, n ≤ 8 → (lb (innA w o to n) k = true ↔ (lb to k = true ∨ (o = true ∧ ∃ u, u < n ∧ bt w u = true ∧ k = 5 * u))) := by
  intro n
  induction n with
  | zero => intro _; exact ⟨Or.inl, fun h => h.elim id (fun ⟨_, u, hu, _⟩ => absurd hu (Nat.not_lt_zero _))⟩
  | succ n ih =>
    intro hn
    have e : innA w o to (n + 1) = innA w o to n ||| (if o && bt w n then lB (5 * n) else 0) := rfl
    rw [e, l_or, Bool.or_eq_true, ih (by omega)]
    constructor
    · rintro ((h | ⟨h1, u, h2, h3, h4⟩) | h)
      · exact Or.inl h
      · exact Or.inr ⟨h1, u, by omega, h3, h4⟩
      · cases q : (o && bt w n)
        · rw [q, if_neg (show ¬ (false = true) by decide), l_0] at h; cases h
        · rw [q, if_pos (rfl : true = true), l_bit (show 5 * n < 64 by omega), decide_eq_true_eq] at h
          rw [Bool.and_eq_true] at q
          exact Or.inr ⟨q.1, n, by omega, q.2, h⟩
    · rintro (h | ⟨h1, u, h2, h3, h4⟩)
      · exact Or.inl (Or.inl h)
      · by_cases q : u = n
        · subst q
          refine Or.inr ?_
          rw [h1, h3, Bool.and_true, if_pos (rfl : true = true), l_bit (show 5 * u < 64 by omega), decide_eq_true_eq]; exact h4
        · exact Or.inl (Or.inr ⟨h1, u, by omega, h3, h4⟩)
theorem mid_b {w : Int32} {o : Bool} {T R t : Nat} {ok : Bool} {fr to : Int64} {k : Nat} (hT : T ≤ 8) (ht : t < 8) : ∀ n, n ≤ 5 → (lb (midA w o T R t ok fr to n) k = true ↔ (lb to k = true ∨ ∃ p, p < n ∧ lb fr (5 * t + p) = true ∧ ((p < R ∧ ok = true ∧ k = 5 * t + p + 1) ∨ (o = true ∧ ∃ u, u < T ∧ bt w u = true ∧ k = 5 * u)))) := by
  intro n
  induction n with
  | zero => intro _; exact ⟨Or.inl, fun h => h.elim id (fun ⟨p, hp, _⟩ => absurd hp (Nat.not_lt_zero _))⟩
  | succ n ih =>
    intro hn
    have e : midA w o T R t ok fr to (n + 1) = if lb fr (5 * t + n) then innA w o (midA w o T R t ok fr to n ||| (if decide (n < R) && ok then lB (5 * t + n + 1) else 0)) T else midA w o T R t ok fr to n := rfl
    rw [e]
    cases q : lb fr (5 * t + n)
    · rw [if_neg (show ¬ (false = true) by decide), ih (by omega)]
      constructor
      · rintro (h | ⟨p, h1, h2⟩)
        · exact Or.inl h
        · exact Or.inr ⟨p, by omega, h2⟩
      · rintro (h | ⟨p, h1, h2, h3⟩)
        · exact Or.inl h
        · by_cases z : p = n
          · subst z; rw [q] at h2; cases h2
          · exact Or.inr ⟨p, by omega, h2, h3⟩
    · rw [if_pos (rfl : true = true), inn_b T hT, l_or, Bool.or_eq_true, ih (by omega)]
      constructor
      · rintro (((h | ⟨p, h1, h2⟩) | h) | h)
        · exact Or.inl h
        · exact Or.inr ⟨p, by omega, h2⟩
        · cases z : (decide (n < R) && ok)
          · rw [z, if_neg (show ¬ (false = true) by decide), l_0] at h; cases h
          · rw [z, if_pos (rfl : true = true), l_bit (show 5 * t + n + 1 < 64 by omega), decide_eq_true_eq] at h
            rw [Bool.and_eq_true, decide_eq_true_eq] at z
            exact Or.inr ⟨n, by omega, q, Or.inl ⟨z.1, z.2, h⟩⟩
        · exact Or.inr ⟨n, by omega, q, Or.inr h⟩
      · rintro (h | ⟨p, h1, h2, h3⟩)
        · exact Or.inl (Or.inl (Or.inl h))
        · by_cases z : p = n
          · subst z
            rcases h3 with ⟨h4, h5, h6⟩ | h3
            · refine Or.inl (Or.inr ?_)
              rw [decide_eq_true h4, h5, Bool.and_true, if_pos (rfl : true = true), l_bit (show 5 * t + p + 1 < 64 by omega), decide_eq_true_eq]; exact h6
            · exact Or.inr h3
          · exact Or.inl (Or.inl (Or.inr ⟨p, by omega, h2, h3⟩))
theorem out_b {sh only : Int32} {T R : Nat} {fr : Int64} {k : Nat} (hT : T ≤ 8) : ∀ n, n ≤ T → (lb (outA E sh only T R fr n) k = true ↔ ∃ t p, t < n ∧ p < 5 ∧ lb fr (5 * t + p) = true ∧ ((p < R ∧ (only = -1 ∨ only = nI t) ∧ k = 5 * t + p + 1) ∨ (only = -1 ∧ ∃ u, u < T ∧ bt (m_X8_walks E (nI t) sh) u = true ∧ k = 5 * u))) := by
  intro n
  induction n with
  | zero => intro _; rw [show outA E sh only T R fr 0 = 0 from rfl, l_0]; exact ⟨fun h => (by cases h), fun ⟨t, p, ht, _⟩ => absurd ht (Nat.not_lt_zero _)⟩
  | succ n ih =>
    intro hn
    have e : outA E sh only T R fr (n + 1) = midA (m_X8_walks E (nI n) sh) (decide (only = -1)) T R n (decide (only = -1) || decide (only = nI n)) fr (outA E sh only T R fr n) 5 := rfl
    rw [e, mid_b hT (show n < 8 by omega) 5 (by omega), ih (by omega)]
    simp only [Bool.or_eq_true, decide_eq_true_eq]
    constructor
    · rintro (⟨t, p, h1, h2⟩ | ⟨p, h1, h2⟩)
      · exact ⟨t, p, by omega, h2⟩
      · exact ⟨n, p, by omega, h1, h2⟩
    · rintro ⟨t, p, h1, h2, h3⟩
      by_cases z : t = n
      · subst z; exact Or.inr ⟨p, h2, h3⟩
      · exact Or.inl ⟨t, p, by omega, h2, h3⟩
/-- what goes tells, bit by bit -/
theorem goes_b {T R : Nat} (hT : T ≤ 8) (h2 : E 60 2 = nI T) (hR : R ≤ 4) (h0 : E 60 0 = nI R) (sh only : Int32) (fr : Int64) (k : Nat) : lb (m_X8_goes E fr sh only) k = true ↔ ∃ t p, t < T ∧ p < 5 ∧ lb fr (5 * t + p) = true ∧ ((p < R ∧ (only = -1 ∨ only = nI t) ∧ k = 5 * t + p + 1) ∨ (only = -1 ∧ ∃ u, u < T ∧ bt (m_X8_walks E (nI t) sh) u = true ∧ k = 5 * u)) := by
  rw [goes_A hT h2 hR h0]; exact out_b hT T (Nat.le_refl _)
end GO
