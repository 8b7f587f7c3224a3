/-! seals: both sides -/
section XD
theorem bt_nI {n i : Nat} (hi : i < 32) : bt (nI n) i = n.testBit i := by
  unfold bt
  show (BitVec.ofNat 32 n).getLsbD i = _
  rw [BitVec.getLsbD_ofNat, decide_eq_true hi, Bool.true_and]
def RelS (T R set : Nat) (v e : Nat → Int64) : Prop := (∀ t s X, t < T → s ≤ R → X < 256 → (cb v (5 * t + s) X = true ↔ ∃ S, S < 256 ∧ S &&& set = X ∧ lb (e S) (5 * t + s) = true)) ∧ ∀ S k, S < 256 → lb (e S) k = true → ∃ t s, t < T ∧ s ≤ R ∧ k = 5 * t + s
theorem jn_and {set t S : Nat} : (S ||| 2 ^ t) &&& set = jn (if set.testBit t then some t else none) (S &&& set) := by
  cases q : set.testBit t
  · show (S ||| 2 ^ t) &&& set = S &&& set
    apply Nat.eq_of_testBit_eq
    intro i
    rw [Nat.testBit_and, Nat.testBit_or, Nat.testBit_two_pow, Nat.testBit_and]
    by_cases p : t = i
    · subst p; rw [q]; simp
    · simp [p]
  · show (S ||| 2 ^ t) &&& set = (S &&& set) ||| 2 ^ t
    apply Nat.eq_of_testBit_eq
    intro i
    rw [Nat.testBit_and, Nat.testBit_or, Nat.testBit_two_pow, Nat.testBit_or, Nat.testBit_and, Nat.testBit_two_pow]
    by_cases p : t = i
    · subst p; rw [q]; simp
    · simp [p]
theorem and_l {S set : Nat} (h : S < 256) : S &&& set < 256 := Nat.lt_of_le_of_lt Nat.and_le_left h
theorem wk_lt {E : SS} {mo : Int32} {S t : Nat} (hS : S < 256) (ht : t < 8) : S ||| wkN E mo t < 256 := by
  unfold wkN
  by_cases q : m_X8_hasWork E (nI t) mo = 0
  · rw [if_pos q, Nat.or_zero]; exact hS
  · rw [if_neg q]; exact or_8 S hS t ht
theorem Rel_step {T R set : Nat} (hT : T ≤ 8) (hR : R ≤ 4) {v e v' e' : Nat → Int64} {ex : Nat → Int32} {E : SS} {mo : Int32} (h : RelS T R set v e) {qC : Nat → Option Nat} (hq : ∀ t, t < T → qC t = if set.testBit t && !(decide (m_X8_hasWork E (nI t) mo = 0)) then some t else none) (hex : ∀ t, t < T → ex t = m_X8_walks E (nI t) (E 62 5)) (hv : ∀ j X, j < 40 → X < 256 → (cb v' j X = true ↔ ∃ t s, t < T ∧ s ≤ R ∧ ctr ex v (qC t) T R t s j X)) (he : ∀ S' k, S' < 256 → (lb (e' S') k = true ↔ ∃ S1, S1 < 256 ∧ adE E mo T R e S1 S' k)) : RelS T R set v' e' := by
  have kn : ∀ t S, t < T → (S ||| wkN E mo t) &&& set = jn (qC t) (S &&& set) := fun t S ht => by
    rw [hq t ht]
    unfold wkN
    by_cases q : m_X8_hasWork E (nI t) mo = 0
    · rw [if_pos q, Nat.or_zero, decide_eq_true q, Bool.not_true, Bool.and_false]; rfl
    · rw [if_neg q, decide_eq_false q, Bool.not_false, Bool.and_true]; exact jn_and
  refine ⟨fun t s X ht hs hX => ?_, fun S k hS hk => ?_⟩
  · rw [hv _ X (by omega) hX]
    constructor
    · rintro ⟨t1, s1, h1, h2, h3 | h3⟩
      · obtain ⟨u, p1, p2, p3, p4⟩ := h3
        obtain ⟨S, q1, q2, q3⟩ := (h.1 t1 s1 X h1 h2 hX).mp p4
        refine ⟨S, q1, q2, (he S _ q1).mpr ⟨S, q1, Or.inr ⟨rfl, t1, h1, ⟨s1, by omega, q3⟩, u, p1, ?_, p3⟩⟩⟩
        rw [← hex t1 h1]; exact p2
      · obtain ⟨p1, p2, A, p3, p4, p5⟩ := h3
        obtain ⟨S, q1, q2, q3⟩ := (h.1 t1 s1 A h1 h2 p3).mp p4
        have lt := wk_lt (E := E) (mo := mo) q1 (show t1 < 8 by omega)
        refine ⟨S ||| wkN E mo t1, lt, ?_, (he _ _ lt).mpr ⟨S, q1, Or.inl ⟨t1, h1, rfl, s1, p1, q3, p2⟩⟩⟩
        rw [kn t1 S h1, q2]; exact p5.symm
    · rintro ⟨S, q1, q2, q3⟩
      obtain ⟨S1, p1, p2⟩ := (he S _ q1).mp q3
      rcases p2 with ⟨t', a1, a2, p, a3, a4, a5⟩ | ⟨a1, t', a2, ⟨p, a3, a4⟩, u, a5, a6, a7⟩
      · have e1 : t = t' := by omega
        subst e1
        refine ⟨t, p, ht, by omega, Or.inr ⟨a3, a5, S1 &&& set, and_l p1, (h.1 t p _ ht (by omega) (and_l p1)).mpr ⟨S1, p1, rfl, a4⟩, ?_⟩⟩
        rw [← kn t S1 ht, ← a2]; exact q2.symm
      · subst a1
        obtain ⟨t2, s2, b1, b2, b3⟩ := h.2 S _ p1 a4
        have e1 : t' = t2 := by omega
        have e2 : p = s2 := by omega
        subst e1; subst e2
        refine ⟨t', p, a2, b2, Or.inl ⟨u, a5, by rw [hex t' a2]; exact a6, a7, (h.1 t' p X a2 b2 hX).mpr ⟨S, p1, q2, a4⟩⟩⟩
  · obtain ⟨S1, p1, p2⟩ := (he S k hS).mp hk
    rcases p2 with ⟨t', a1, a2, p, a3, a4, a5⟩ | ⟨a1, t', a2, _, u, a5, a6, a7⟩
    · exact ⟨t', p + 1, a1, by omega, by omega⟩
    · exact ⟨u, 0, a5, by omega, by omega⟩
theorem Rel_found {T R set : Nat} (hT : T ≤ 8) (hR : R ≤ 4) (hs : set < 256) {v e : Nat → Int64} (h : RelS T R set v e) : (∃ t s, t < T ∧ s ≤ R ∧ cb v (5 * t + s) set = true) ↔ ∃ S, S < 256 ∧ ¬ (e S = 0) ∧ S &&& set = set := by
  constructor
  · rintro ⟨t, s, h1, h2, h3⟩
    obtain ⟨S, q1, q2, q3⟩ := (h.1 t s set h1 h2 hs).mp h3
    exact ⟨S, q1, l_ne.mpr ⟨5 * t + s, by omega, q3⟩, q2⟩
  · rintro ⟨S, q1, q2, q3⟩
    obtain ⟨x, _, p2⟩ := l_ne.mp q2
    obtain ⟨t, s, b1, b2, b3⟩ := h.2 S x q1 p2
    subst b3
    exact ⟨t, s, b1, b2, (h.1 t s set b1 b2 hs).mpr ⟨S, q1, q3, p2⟩⟩
theorem fnd_L {E : SS} {w : Nat → Nat → Int64} {set u : Nat} (hs : set < 256) (k0 k1 : S3 → Int32 → Int32 → Int32 × S3) : ∀ (m h : Nat), h ≤ 256 → 256 - h < m → ((∃ S, h ≤ S ∧ S < 256 ∧ ¬ (w 69 S = 0) ∧ S &&& set = set) → (m_X8_seals_L89_57 k0 k1 m (E, w) (nI h) (nI u) (nI set)).1 = nI u) ∧ ((¬ ∃ S, h ≤ S ∧ S < 256 ∧ ¬ (w 69 S = 0) ∧ S &&& set = set) → m_X8_seals_L89_57 k0 k1 m (E, w) (nI h) (nI u) (nI set) = k1 (m_X8_sealsOn (E, w) (E 62 1 + nI u)) (nI (u + 1)) (nI set)) := by
  intro m
  induction m with
  | zero => intro t _ q; exact absurd q (Nat.not_lt_zero _)
  | succ m ih =>
    intro h hh hm
    rw [show m_X8_seals_L89_57 k0 k1 (m + 1) = m_X8_seals_L89_57_b k0 k1 (m_X8_seals_L89_57 k0 k1 m) from rfl]
    unfold m_X8_seals_L89_57_b
    by_cases g1 : 256 ≤ h
    · rw [if_pos ((nle (by omega) (by omega)).mpr g1)]
      refine ⟨fun ⟨S, p1, p2, _⟩ => by omega, fun _ => ?_⟩
      unfold m_X8_seals_69
      rw [r1, oI1, n1]
    · rw [if_neg (fun q => g1 ((nle (by omega) (by omega)).mp q)), rlN (show h < 2147483648 by omega), oI1, n1]
      obtain ⟨i1, i2⟩ := ih (h + 1) (by omega) (by omega)
      have skip : (w 69 h = 0 ∨ ¬ (h &&& set = set)) → ((∃ S, h ≤ S ∧ S < 256 ∧ ¬ (w 69 S = 0) ∧ S &&& set = set) ↔ ∃ S, h + 1 ≤ S ∧ S < 256 ∧ ¬ (w 69 S = 0) ∧ S &&& set = set) := fun q => by
        refine ⟨fun ⟨S, p1, p2, p3, p4⟩ => ⟨S, ?_, p2, p3, p4⟩, fun ⟨S, p1, p2⟩ => ⟨S, by omega, p2⟩⟩
        by_cases z : S = h
        · subst z; exact (q.elim (fun q => absurd q p3) (fun q => absurd p4 q))
        · omega
      by_cases q : w 69 h = 0
      · rw [if_pos (cmp0.mpr q)]
        exact ⟨fun p => i1 ((skip (Or.inl q)).mp p), fun p => i2 (fun z => p ((skip (Or.inl q)).mpr z))⟩
      · rw [if_neg (fun p => q (cmp0.mp p)), nI_and]
        have lt : h &&& set < 2147483648 := Nat.lt_of_le_of_lt Nat.and_le_left (by omega)
        by_cases p : h &&& set = set
        · rw [if_pos (by rw [p])]
          exact ⟨fun _ => rfl, fun z => absurd ⟨h, Nat.le_refl _, by omega, q, p⟩ z⟩
        · rw [if_neg (fun z => p ((neq lt (by omega)).mp z))]
          exact ⟨fun z => i1 ((skip (Or.inr p)).mp z), fun z => i2 (fun y => z ((skip (Or.inr p)).mpr y))⟩
/-- the class's two rows -/
def S30 (C : SS) : Prop := ∃ a b, C 30 0 = nI a ∧ C 30 1 = nI b ∧ ((a = 31 ∧ b = 32) ∨ (a = 32 ∧ b = 31))
theorem both_L {C0 E : SS} {c T R r set : Nat} (hc : c = 46 ∨ c = 52) (D : DR C0 E c 60 T r) (hR : R ≤ 4) (h0 : E 60 0 = nI R) (hs : set < 256) (h31 : C0 3 1 = E 62 1) (h45 : ∀ t, t < T → C0 45 t = m_X8_walks E (nI t) (E 62 5)) {x y : Int32} (k0 : S3 → Int32 → Int32 → Int32 × S3) : ∀ (m u : Nat) (σ : SS) (a b : Nat) (w wE : Nat → Nat → Int64), u ≤ 61 → 61 - u < m → (∀ i, i ≠ 30 → σ i = C0 i) → σ 30 0 = nI a → σ 30 1 = nI b → ((a = 31 ∧ b = 32) ∨ (a = 32 ∧ b = 31)) → RelS T R set (w a) (wE 69) → (m_X4_fewestMonths_L67_37 m (σ, w) (nI u) x y c 45 3 (nI set)).1 = (m_X8_seals_L81_50 k0 m (E, wE) (nI u) (nI set)).1 ∧ S30 (m_X4_fewestMonths_L67_37 m (σ, w) (nI u) x y c 45 3 (nI set)).2.1 := by
  have hT := D.2.2.2.2.1
  have h2 := D.2.2.2.1
  intro m
  induction m with
  | zero => intro u σ a b w wE _ q; exact absurd q (Nat.not_lt_zero _)
  | succ m ih =>
    intro u σ a b w wE hu hm hσ ha hb hab hRel
    have D' : DR σ E c 60 T r := D.cg hc (fun i p1 p2 => hσ i (by omega)) rfl
    rw [show m_X4_fewestMonths_L67_37 (m + 1) = m_X4_fewestMonths_L67_37_b (m_X4_fewestMonths_L67_37 m) from rfl, show m_X8_seals_L81_50 k0 (m + 1) = m_X8_seals_L81_50_b k0 (m_X8_seals_L81_50 k0 m) from rfl]
    unfold m_X4_fewestMonths_L67_37_b m_X8_seals_L81_50_b
    have s30 : S30 σ := ⟨a, b, ha, hb, hab⟩
    have la : a < 72 := by omega
    have lb' : b < 72 := by omega
    have hne : a ≠ b := by omega
    have hab' : (b = 31 ∧ a = 32) ∨ (b = 32 ∧ a = 31) := by omega
    by_cases g1 : 61 ≤ u
    · rw [if_pos ((nlt (by omega) (by omega)).mpr (show 60 < u by omega)), if_pos ((nle (by omega) (by omega)).mpr g1)]
      exact ⟨rfl, s30⟩
    · rw [if_neg (fun q => by rw [nlt (by omega) (by omega)] at q; omega), if_neg (fun q => g1 ((nle (by omega) (by omega)).mp q))]
      have hc2 : σ c 2 = nI T := D'.2.2.1
      have hc0 : σ c 0 = nI R := D'.1.trans h0
      have u1 : u + 1 ≤ 61 := by omega
      have u2 : 61 - (u + 1) < m := by omega
      obtain ⟨i1, i2⟩ := fnd_L (E := E) (w := wE) (u := u) hs k0 (m_X8_seals_L81_50 k0 m) 2000 0 (by omega) (by omega)
      have fe : (∃ S, 0 ≤ S ∧ S < 256 ∧ ¬ (wE 69 S = 0) ∧ S &&& set = set) ↔ ∃ t s, t < T ∧ s ≤ R ∧ cb (w a) (5 * t + s) set = true := by
        rw [Rel_found hT hR hs hRel]
        exact ⟨fun ⟨S, _, p⟩ => ⟨S, p⟩, fun ⟨S, p⟩ => ⟨S, Nat.zero_le _, p⟩⟩
      by_cases q : ∃ t s, t < T ∧ s ≤ R ∧ cb (w a) (5 * t + s) set = true
      · rw [if_neg (fun p => (hold_E ha la hT hc2 hR hc0 hs).mp p q), i1 (fe.mpr q)]
        exact ⟨rfl, s30⟩
      · rw [if_pos ((hold_E ha la hT hc2 hR hc0 hs).mpr q), i2 (fun p => q (fe.mp p))]
        unfold m_X4_fewestMonths_54
        have e31 : σ 3 1 = E 62 1 := (congrFun (hσ 3 (by decide)) 1).trans h31
        rw [show (σ, w).1 3 1 = E 62 1 from e31, oI1, n1]
        obtain ⟨w', e1, e2, e3⟩ := spC_E ha hb hne la lb' hT hc2 hR hc0 45 (E 62 1 + nI u) (nI set) w
        obtain ⟨wE', f1, f2, f3⟩ := onE_E h2 hT h0 hR (E 62 1 + nI u) wE
        rw [e1, f1]
        refine ih (u + 1) _ b a w' wE' u1 u2 (fun i hi => ?_) ?_ st_eq hab' ?_
        · funext k; rw [st_ni hi, st_ni hi]; exact congrFun (hσ i hi) k
        · rw [st_nk (by decide), st_eq]
        · refine Rel_step hT hR hRel (qC := fun t => if bt (nI set) t && !(decide (m_X0_worksIn σ c (nI t) (E 62 1 + nI u) = 0)) then some t else none) (ex := σ 45) (E := E) (mo := E 62 1 + nI u) (fun t ht => ?_) (fun t ht => ?_) e3 f3
          · show (if bt (nI set) t && !(decide (m_X0_worksIn σ c (nI t) (E 62 1 + nI u) = 0)) then some t else none) = _
            have t8' : t < 8 := Nat.lt_of_lt_of_le ht hT
            rw [bt_nI (Nat.lt_of_lt_of_le t8' (by decide)), (work_E D' t8' _).1]
          · exact (congrFun (hσ 45 (by decide)) t).trans (h45 t ht)
theorem mask_8 : ∀ T, T < 9 → ∀ i, i < 32 → bt (nI 1 <<< (nI T &&& 31) - nI 1) i = decide (i < T) := by decide +kernel
theorem mask_n : ∀ T, T < 9 → nI 1 <<< (nI T &&& 31) - nI 1 = nI (2 ^ T - 1) := by decide +kernel
theorem pw8 : ∀ T, T < 9 → 2 ^ T ≤ 256 ∧ 1 ≤ 2 ^ T := by decide +kernel
theorem tset {T : Nat} (hT : T ≤ 8) {x : Int32} : (x &&& ((nI 1 <<< (nI T &&& 31) - nI 1) ^^^ (-1)) = 0) ↔ ∃ j, j < 2 ^ T ∧ x = nI j := by
  constructor
  · intro h
    refine ⟨x.toBitVec.toNat, ?_, ?_⟩
    · apply Nat.lt_pow_two_of_testBit
      intro i hi
      rw [BitVec.testBit_toNat]
      rcases Nat.lt_or_ge i 32 with q | q
      · have := congrArg (fun z => bt z i) h
        simp only [b_and, b_xor, mask_8 T (by omega) i q, b_m1 i q, b_0, decide_eq_false (show ¬ i < T by omega)] at this
        have e : (bt x i && (false ^^ true)) = false := this
        cases z : bt x i
        · exact z
        · rw [z] at e; cases e
      · exact b_big q
    · apply Int32.toBitVec_inj.mp
      show x.toBitVec = BitVec.ofNat 32 _
      rw [BitVec.ofNat_toNat]; simp
  · rintro ⟨j, hj, rfl⟩
    apply b_ext
    intro i hi
    rw [b_and, b_xor, mask_8 T (by omega) i hi, b_m1 i hi, b_0, bt_nI hi]
    by_cases q : i < T
    · rw [decide_eq_true q]; simp
    · rw [Nat.testBit_lt_two_pow (Nat.lt_of_lt_of_le hj (Nat.pow_le_pow_right (by omega) (by omega))), Bool.false_and]
theorem ini_L {E : SS} {w : Nat → Nat → Int64} {h s z set : Nat} (e0 : E 62 0 = nI h) (e2 : E 62 2 = nI s) (e4 : E 62 4 = nI z) (hz : z < 256) : ∀ (m k : Nat), k ≤ 256 → 256 - k < m → ∃ k0, m_X8_seals_L33_25 m (E, clN w 69 k) (nI k) (nI set) = m_X8_seals_L81_50 k0 2000 (E, stL (clN w 69 256) 69 z (lB (5 * h + s))) (nI 0) (nI set) := by
  intro m
  induction m with
  | zero => intro t _ q; exact absurd q (Nat.not_lt_zero _)
  | succ m ih =>
    intro k hk hm
    rw [show m_X8_seals_L33_25 (m + 1) = m_X8_seals_L33_25_b (m_X8_seals_L33_25 m) from rfl]
    unfold m_X8_seals_L33_25_b
    by_cases g1 : 256 ≤ k
    · rw [if_pos ((nle (by omega) (by omega)).mpr g1), show k = 256 by omega, r0, r2, r4]
      unfold m_X8_seals_47
      refine ⟨m_X8_seals_L33_25 m, ?_⟩
      rw [show (E, clN w 69 256).1 62 4 = nI z from e4, show (E, clN w 69 256).1 62 0 = nI h from e0, show (E, clN w 69 256).1 62 2 = nI s from e2, bit_E, rlN (by omega)]
    · rw [if_neg (fun q => g1 ((nle (by omega) (by omega)).mp q))]
      unfold m_X8_seals_103
      rw [oI1, n1, rlN (show k < 2147483648 by omega), clN_s]
      exact ih (k + 1) (by omega) (by omega)
theorem Rel_0 {T R set h s z a : Nat} (hT : T ≤ 8) (hR : R ≤ 4) (hh : h < T) (hs : s ≤ R) (hz : z < 256) (hset : set < 256) (w wE : Nat → Nat → Int64) : RelS T R set (stL (clN w a 160) a (4 * (5 * h + s) + (z &&& set) / 64) (lB ((z &&& set) % 64)) a) (stL (clN wE 69 256) 69 z (lB (5 * h + s)) 69) := by
  have hd := and_l (set := set) hz
  have eb : ∀ S k, S < 256 → (lb (stL (clN wE 69 256) 69 z (lB (5 * h + s)) 69 S) k = true ↔ S = z ∧ k = 5 * h + s) := fun S k hS => by
    unfold stL
    by_cases q : S = z
    · rw [if_pos ⟨rfl, q⟩, l_bit (by omega), decide_eq_true_eq]
      exact ⟨fun p => ⟨q, p⟩, fun p => p.2⟩
    · rw [if_neg (fun p => q p.2), clN_eq hS, l_0]
      exact ⟨fun p => (by cases p), fun p => absurd p.1 q⟩
  refine ⟨fun t s' X ht hs' hX => ?_, fun S k hS hk => ?_⟩
  · have c1 : cb (stL (clN w a 160) a (4 * (5 * h + s) + (z &&& set) / 64) (lB ((z &&& set) % 64)) a) (5 * t + s') X = true ↔ 5 * t + s' = 5 * h + s ∧ X = z &&& set := by
      unfold cb stL
      by_cases q : 4 * (5 * t + s') + X / 64 = 4 * (5 * h + s) + (z &&& set) / 64
      · rw [if_pos ⟨rfl, q⟩, l_bit (by omega), decide_eq_true_eq]
        exact ⟨fun p => ⟨by omega, by omega⟩, fun p => by rw [p.2]⟩
      · rw [if_neg (fun p => q p.2), clN_eq (by omega), l_0]
        exact ⟨fun p => (by cases p), fun p => absurd (by rw [p.1, p.2]) q⟩
    rw [c1]
    constructor
    · rintro ⟨p1, p2⟩
      exact ⟨z, hz, p2.symm, (eb z _ hz).mpr ⟨rfl, p1⟩⟩
    · rintro ⟨S, p1, p2, p3⟩
      obtain ⟨q1, q2⟩ := (eb S _ p1).mp p3
      exact ⟨q2, by rw [← q1]; exact p2.symm⟩
  · obtain ⟨q1, q2⟩ := (eb S k hS).mp hk
    exact ⟨h, s, hh, hs, q2⟩
def okv (E : SS) (a b : Int32) : Prop := (rl (E 60 2) = 0 ∨ rl a < rl (E 60 2)) ∧ rl b ≤ rl (E 60 0)
theorem seals_E {C E : SS} (h : RR C E) (h30 : S30 C) (hv : okv E (E 62 0) (E 62 2)) (hx : ∃ x, x < 8 ∧ E 62 0 = nI x) (hy : ∃ x, x ≤ 4 ∧ E 62 2 = nI x) (hl : ∃ x, x ≤ 4 ∧ E 60 0 = nI x) (hz : ∃ x, x ≤ 255 ∧ E 62 4 = nI x) (x : Int32) (w wE : Nat → Nat → Int64) : (m_X7_seals (C, w) x).1 = (m_X8_seals (E, wE) x).1 ∧ S30 (m_X7_seals (C, w) x).2.1 := by
  have hJ := h.2.2.2.2.1
  obtain ⟨c, t, r, hc, ec, D⟩ := h.2.1.get
  obtain ⟨hr, hr8, e0⟩ := hx
  obtain ⟨sy, sy4, e2⟩ := hy
  obtain ⟨R, hR, h60⟩ := hl
  obtain ⟨z, z255, e4⟩ := hz
  have t8 := D.2.2.2.2.1
  obtain ⟨hv1, hv2⟩ := hv
  rw [D.2.2.2.1, e0, rlN (show t < 2147483648 by omega), rlN (show hr < 2147483648 by omega)] at hv1
  rw [e2, h60, rlN (show sy < 2147483648 by omega), rlN (show R < 2147483648 by omega)] at hv2
  have hall : m_X0_allTowns C c = nI 1 <<< (nI t &&& 31) - nI 1 := by unfold m_X0_allTowns; rw [D.2.2.1]
  by_cases hx : ∃ j, j < 2 ^ t ∧ x = nI j
  · obtain ⟨j, hj, rfl⟩ := hx
    have p8 := pw8 t (by omega)
    have g1 : nI j &&& ((m_X0_allTowns C c) ^^^ (-1)) = 0 := by rw [hall]; exact (tset t8).mpr ⟨j, hj, rfl⟩
    have g2 : ¬ (m_X8_in E (nI j) (nI 0) (nI 1 <<< (nI t &&& 31) - nI 1) = 0) := fun q => by
      rw [in0, mask_n t (by omega), nI_toInt (by omega), nI_toInt (by omega), nI_toInt (by omega)] at q; omega
    by_cases g : m_X8_goesOn E = 0
    · have e1 : m_X7_seals (C, w) (nI j) = ((-1000000003 : Int32), (C, w)) := by
        simp only [m_X7_seals_30, m_X7_seals_23, m_X7_seals, ec, if_pos g1, if_neg (fun q => (goOn_E h).mp q g)]
      have e3 : m_X8_seals (E, wE) (nI j) = ((-1000000003 : Int32), (E, wE)) := by
        unfold m_X8_seals
        simp only [r2, D.2.2.2.1, if_neg g2, if_pos g]
      rw [e1, e3]; exact ⟨rfl, h30⟩
    · have t0 : 0 < t := by
        refine Nat.pos_of_ne_zero (fun q => g ?_)
        unfold m_X8_goesOn
        rw [r2, D.2.2.2.1, q, if_pos (show nI 0 ≤ 0 by decide +kernel)]; exact n0e
      obtain ⟨a, b, ha, hb, hab⟩ := h30
      have fo : ∀ i, i ≠ 45 → fxN C E t (E 62 5) 8 i = C i := fun i hi => funext (fun k => by unfold fxN; rw [if_neg (fun q => hi q.1)])
      have D1 : DR (fxN C E t (E 62 5) 8) E c 60 t r := D.cg hc (fun i p1 p2 => fo i (by omega)) rfl
      have e1 : m_X7_seals (C, w) (nI j) = m_X4_fewestMonths (fxN C E t (E 62 5) 8, w) c 45 3 (nI j) := by
        simp only [m_X7_seals_30, m_X7_seals_23, m_X7_seals, ec, if_pos g1, if_pos ((goOn_E h).mpr g), hJ 5 (show 5 < 7 by omega), fill_E hc D, fo 0 (by decide), fst_snd]
      have hd := and_l (set := j) (show z < 256 by omega)
      have e2' : m_X4_fewestMonths (fxN C E t (E 62 5) 8, w) c 45 3 (nI j) = m_X4_fewestMonths_L67_37 2000 (fxN C E t (E 62 5) 8, stL (clN w a 160) a (4 * (5 * hr + sy) + (z &&& j) / 64) (lB ((z &&& j) % 64))) (nI 0) (nI (4 * (5 * hr + sy) + (z &&& j) / 64)) (nI (z &&& j)) c 45 3 (nI j) := by
        have k1 : ¬ (nI (4 * (5 * hr + sy) + (z &&& j) / 64) < 0) := nI_pos (by omega)
        have k2 : nI (4 * (5 * hr + sy) + (z &&& j) / 64) < nI 160 := (nlt (by omega) (by omega)).mpr (by omega)
        simp only [m_X4_fewestMonths, m_X4_fewestMonths_4, m_X4_fewestMonths_34, fo 30 (by decide), fo 3 (by decide), ha, rlN (show a < 2147483648 by omega), clear_E, hJ 0 (show 0 < 7 by omega), hJ 2 (show 2 < 7 by omega), hJ 4 (show 4 < 7 by omega), e0, e2, e4, cell_E, nI_and, shr6 _ hd, and63 _ hd, nI_add, if_neg k1, if_pos k2, rlN (show 4 * (5 * hr + sy) + (z &&& j) / 64 < 2147483648 by omega)]
        rfl
      obtain ⟨k0, e3⟩ := ini_L (E := E) (w := wE) (set := j) e0 e2 e4 (by omega) 2000 0 (by omega) (by omega)
      rw [clN_0] at e3
      have e3' : m_X8_seals (E, wE) (nI j) = m_X8_seals_L33_25 2000 (E, wE) (nI 0) (nI j) := by
        unfold m_X8_seals
        simp only [r2, D.2.2.2.1, if_neg g2, if_neg g]
      rw [e1, e2', e3', e3]
      refine both_L hc D1 hR h60 (show j < 256 by omega) ?_ (fun u hu => ?_) k0 2000 0 _ a b _ _ (by omega) (by omega) (fun i _ => rfl) ?_ ?_ hab (Rel_0 t8 hR (by omega) hv2 (by omega) (by omega) w wE)
      · rw [fo 3 (by decide)]; exact hJ 1 (by omega)
      · unfold fxN; rw [if_pos ⟨rfl, by omega⟩, if_pos hu]
      · rw [fo 30 (by decide)]; exact ha
      · rw [fo 30 (by decide)]; exact hb
  · have e1 : m_X7_seals (C, w) x = ((-1000000001 : Int32), (C, w)) := by
      simp only [m_X7_seals_30, m_X7_seals_23, m_X7_seals, ec, hall, if_neg (fun q => hx ((tset t8).mp q))]
    have e3 : m_X8_seals (E, wE) x = ((-1000000001 : Int32), (E, wE)) := by
      unfold m_X8_seals
      have p8 := pw8 t (by omega)
      have g2 : m_X8_in E x (nI 0) (nI 1 <<< (nI t &&& 31) - nI 1) = 0 := by
        rw [in0, mask_n t (by omega), nI_toInt (by omega), nI_toInt (by omega)]
        refine Classical.byContradiction (fun q => hx ?_)
        obtain ⟨j, p1, p2⟩ := nI_of_le (x := x) (B := 2 ^ t - 1) (by omega) (by omega)
        exact ⟨j, by omega, p2⟩
      simp only [r2, D.2.2.2.1, if_pos g2]
    rw [e1, e3]; exact ⟨rfl, h30⟩
end XD
