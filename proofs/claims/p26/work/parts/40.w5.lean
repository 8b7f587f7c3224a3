/-! told seals: the reference's ways on, was, ask -/
theorem l_andB {x : Int64} {n : Nat} (hn : n < 64) : x &&& lB n = if lb x n then lB n else 0 := by
  apply l_ext
  intro i _
  rw [l_and, l_bit hn]
  by_cases q : i = n
  · subst q
    rw [decide_eq_true rfl, Bool.and_true]
    cases z : lb x i
    · rw [if_neg (show ¬ (false = true) by decide), l_0]
    · rw [if_pos (rfl : true = true), l_bit hn, decide_eq_true rfl]
  · rw [decide_eq_false q, Bool.and_false]
    cases lb x n
    · rw [if_neg (show ¬ (false = true) by decide), l_0]
    · rw [if_pos (rfl : true = true), l_bit hn, decide_eq_false q]
theorem lB_ne {n : Nat} (hn : n < 64) : lB n ≠ 0 := fun h => by
  have := l_bit hn n
  rw [h, l_0, decide_eq_true rfl] at this; cases this
theorem land_ne {x y : Int64} : x &&& y ≠ 0 ↔ ∃ u, u < 64 ∧ lb x u = true ∧ lb y u = true := by
  constructor
  · intro h
    by_cases q : ∃ u, u < 64 ∧ lb x u = true ∧ lb y u = true
    · exact q
    · refine absurd (l_nil (fun k hk => ?_)) h
      rw [l_and]
      cases w : lb x k
      · rfl
      · cases v : lb y k
        · rfl
        · exact absurd ⟨k, hk, w, v⟩ q
  · rintro ⟨u, _, h1, h2⟩ q
    have := l_and x y u
    rw [q, l_0, h1, h2] at this; cases this
section LE
variable {C E : SS} {c T R r : Nat}
theorem led_L {fr to : Int64} {only : Int32} : ∀ (m k : Nat) (acc : Int64), k ≤ 40 → 40 - k < m → (∀ j, lb acc j = true ↔ j < k ∧ lb fr j = true ∧ m_X8_goes E (lB j) (nI 0) only &&& to ≠ 0) → ∀ j, (lb (m_X8_ledTo_L6_3 m E (nI k) acc fr to only) j = true ↔ j < 40 ∧ lb fr j = true ∧ m_X8_goes E (lB j) (nI 0) only &&& to ≠ 0) := by
  intro m
  induction m with
  | zero => intro k acc _ h0; exact absurd h0 (Nat.not_lt_zero _)
  | succ m ih =>
    intro k acc hk hm hA
    rw [show m_X8_ledTo_L6_3 (m + 1) = m_X8_ledTo_L6_3_b (m_X8_ledTo_L6_3 m) from rfl]
    unfold m_X8_ledTo_L6_3_b
    rw [show (1 : Int64) <<< ((nI k).toInt64 &&& 63) = lB k from rfl]
    by_cases h1 : 40 ≤ k
    · have e : k = 40 := by omega
      subst e
      rw [if_pos ((nle (by omega) (by omega)).mpr h1)]; exact hA
    · rw [if_neg (fun q => h1 ((nle (by omega) (by omega)).mp q)), l_andB (show k < 64 by omega), oI1, n1, l_orz]
      cases q : lb fr k
      · rw [if_neg (show ¬ (false = true) by decide), if_pos (cmp0.mpr rfl)]
        refine ih (k + 1) acc (by omega) (by omega) (fun j => ?_)
        rw [hA j]
        constructor
        · rintro ⟨a, b⟩; exact ⟨by omega, b⟩
        · rintro ⟨a, b, d⟩
          by_cases z : j = k
          · subst z; rw [q] at b; cases b
          · exact ⟨by omega, b, d⟩
      · rw [if_pos (rfl : true = true), if_neg (fun z => lB_ne (show k < 64 by omega) (cmp0.mp z))]
        by_cases w : m_X8_goes E (lB k) (nI 0) only &&& to = 0
        · rw [if_pos (cmp0.mpr w)]
          refine ih (k + 1) acc (by omega) (by omega) (fun j => ?_)
          rw [hA j]
          constructor
          · rintro ⟨a, b⟩; exact ⟨by omega, b⟩
          · rintro ⟨a, b, d⟩
            by_cases z : j = k
            · subst z; exact absurd w d
            · exact ⟨by omega, b, d⟩
        · rw [if_neg (fun z => w (cmp0.mp z))]
          refine ih (k + 1) _ (by omega) (by omega) (fun j => ?_)
          rw [l_or, Bool.or_eq_true, hA j, l_bit (show k < 64 by omega), decide_eq_true_eq]
          constructor
          · rintro (⟨a, b⟩ | a)
            · exact ⟨by omega, b⟩
            · subst a; exact ⟨by omega, q, w⟩
          · rintro ⟨a, b, d⟩
            by_cases z : j = k
            · exact Or.inr z
            · exact Or.inl ⟨by omega, b, d⟩
theorem led_b (fr to : Int64) (only : Int32) (j : Nat) : lb (m_X8_ledTo E fr to only) j = true ↔ j < 40 ∧ lb fr j = true ∧ m_X8_goes E (lB j) (nI 0) only &&& to ≠ 0 := by
  unfold m_X8_ledTo
  exact led_L 2000 0 0 (by omega) (by omega) (fun j => by rw [l_0]; exact ⟨fun z => (by cases z), fun z => absurd z.1 (Nat.not_lt_zero _)⟩) j
noncomputable def wb (E : SS) (T : Nat) : Nat → Int64
  | 0 => wayE E T (-1) 48
  | d + 1 => m_X8_ledTo E (wayE E T (-1) (47 - d)) (wb E T d) (m_X8_onlyIn E (nI (47 - d)) (-1))
noncomputable def wyE (E : SS) (T m : Nat) : Int64 := wb E T (48 - m)
theorem wyE_s {m : Nat} (hm : m < 48) : wyE E T m = m_X8_ledTo E (wayE E T (-1) m) (wyE E T (m + 1)) (m_X8_onlyIn E (nI m) (-1)) := by
  have e : ∀ d, d = 48 - (m + 1) → wb E T (d + 1) = m_X8_ledTo E (wayE E T (-1) m) (wb E T d) (m_X8_onlyIn E (nI m) (-1)) := fun d hd => by
    show m_X8_ledTo E (wayE E T (-1) (47 - d)) (wb E T d) (m_X8_onlyIn E (nI (47 - d)) (-1)) = _
    rw [show 47 - d = m by omega]
  unfold wyE
  rw [show 48 - m = (48 - (m + 1)) + 1 by omega]
  exact e _ rfl
noncomputable def wyN (E : SS) (T : Nat) (w : Nat → Int64) (m : Nat) : Nat → Int64 := fun k => if m ≤ k ∧ k ≤ 48 then wyE E T k else wN E T (-1) w 48 k
theorem wy_s {w : Nat → Int64} {mo m : Nat} (hmo : mo < 48) : m_X8_waysOn_L9_8 (m + 1) (E, wyN E T w (mo + 1)) (nI mo) = m_X8_waysOn_L9_8 m (E, wyN E T w mo) (ix mo) := by
  have g : ¬ (nI mo < 0) := nI_pos (by omega)
  have e1 : wyN E T w (mo + 1) mo = wayE E T (-1) mo := by unfold wyN wN; rw [if_neg (by omega), if_pos (by omega)]
  have e2 : wyN E T w (mo + 1) (mo + 1) = wyE E T (mo + 1) := by unfold wyN; rw [if_pos (by omega)]
  have e3 : vp_updL (wyN E T w (mo + 1)) mo (wyE E T mo) = wyN E T w mo := by
    funext k; unfold vp_updL wyN
    by_cases q : k = mo
    · subst q; rw [if_pos rfl, if_pos (by omega)]
    · rw [if_neg q]
      by_cases z : mo + 1 ≤ k ∧ k ≤ 48
      · rw [if_pos z, if_pos (by omega)]
      · rw [if_neg z, if_neg (by omega)]
  rw [show m_X8_waysOn_L9_8 (m + 1) = m_X8_waysOn_L9_8_b (m_X8_waysOn_L9_8 m) from rfl]
  simp only [m_X8_waysOn_30, m_X8_waysOn_L9_8_b, m_X8_waysOn_5, m_X8_waysOn, if_neg g, rlN (show mo < 2147483648 by omega), n1, rlN (show mo + 1 < 2147483648 by omega), e1, e2, ← wyE_s hmo, e3, ix_s]
theorem wy_L {w : Nat → Int64} : ∀ (mo m : Nat), mo < 48 → mo + 1 < m → m_X8_waysOn_L9_8 m (E, wyN E T w (mo + 1)) (nI mo) = (E, wyN E T w 0) := by
  intro mo
  induction mo with
  | zero =>
    intro m h1 h2
    obtain ⟨m', rfl⟩ : ∃ m', m = m' + 1 + 1 := ⟨m - 2, by omega⟩
    rw [wy_s h1, show m_X8_waysOn_L9_8 (m' + 1) = m_X8_waysOn_L9_8_b (m_X8_waysOn_L9_8 m') from rfl]
    unfold m_X8_waysOn_L9_8_b
    rw [if_pos (show ix 0 < 0 by decide +kernel)]
  | succ mo ih =>
    intro m h1 h2
    obtain ⟨m', rfl⟩ : ∃ m', m = m' + 1 := ⟨m - 1, by omega⟩
    rw [wy_s h1, show ix (mo + 1) = nI mo from rfl]
    exact ih m' (by omega) (by omega)
theorem waysOn_A (hT : T ≤ 8) (h2 : E 60 2 = nI T) (w : Nat → Int64) : m_X8_waysOn (E, w) = (E, wyN E T w 0) := by
  unfold m_X8_waysOn m_X8_waysOn_5
  rw [fitsBut_A hT h2]
  have e : wN E T (-1) w 48 = wyN E T w (47 + 1) := by
    funext k; unfold wyN
    by_cases q : 47 + 1 ≤ k ∧ k ≤ 48
    · rw [if_pos q, show k = 48 by omega]; unfold wN; rw [if_pos (by omega)]; rfl
    · rw [if_neg q]
  show m_X8_waysOn_L9_8 2000 (E, wN E T (-1) w 48) (nI 47) = _
  rw [e]; exact wy_L 47 2000 (by omega) (by omega)
theorem all_b : ∀ T, T < 9 → ∀ k, k < 32 → bt ((nI 1 <<< (nI T &&& 31)) - nI 1) k = decide (k < T) := by decide +kernel
/-- class and reference, bit by bit -/
theorem way_b (h : RR C E) (D : DR C E c 60 T r) (hR : R ≤ 4) (h0 : E 60 0 = nI R) : ∀ (d mo : Nat), mo ≤ 48 → d = 48 - mo → ∀ t p, t < T → p < 5 → (lb (wyE E T mo) (5 * t + p) = true ↔ lb (wayE E T (-1) mo) (5 * t + p) = true ∧ bt (rowB C E c T R mo p) t = true) := by
  have hT := D.2.2.2.2.1
  have h2 := D.2.2.2.1
  intro d
  induction d with
  | zero =>
    intro mo hmo hd t p ht hp
    have e : mo = 48 := by omega
    subst e
    rw [show wyE E T 48 = wayE E T (-1) 48 from rfl, show rowB C E c T R 48 p = (nI 1 <<< (nI T &&& 31)) - nI 1 from rfl, all_b T (by omega) t (by omega), decide_eq_true ht]
    exact ⟨fun z => ⟨z, rfl⟩, fun z => z.1⟩
  | succ d ih =>
    intro mo hmo hd t p ht hp
    have hm : mo < 48 := by omega
    have IH := ih (mo + 1) (by omega) (by omega)
    have hO := notes_E h D hm (-1)
    rw [wyE_s hm, led_b, rowB_s hm, land_ne]
    have ew : wayE E T (-1) (mo + 1) = m_X8_goes E (wayE E T (-1) mo) (nI 0) (m_X8_onlyIn E (nI mo) (-1)) := rfl
    -- the bits that one bit leads to
    have one : ∀ k, lb (m_X8_goes E (lB (5 * t + p)) (nI 0) (m_X8_onlyIn E (nI mo) (-1))) k = true ↔ ((p < R ∧ (m_X8_onlyIn E (nI mo) (-1) = -1 ∨ m_X8_onlyIn E (nI mo) (-1) = nI t) ∧ k = 5 * t + p + 1) ∨ (m_X8_onlyIn E (nI mo) (-1) = -1 ∧ ∃ u, u < T ∧ bt (m_X8_walks E (nI t) (nI 0)) u = true ∧ k = 5 * u)) := fun k => by
      rw [goes_b hT h2 hR h0]
      constructor
      · rintro ⟨t', p', a1, a2, a3, a4⟩
        rw [l_bit (by omega), decide_eq_true_eq] at a3
        have e1 : t' = t := by omega
        have e2 : p' = p := by omega
        subst e1; subst e2; exact a4
      · intro a4
        exact ⟨t, p, ht, hp, by rw [l_bit (by omega), decide_eq_true rfl], a4⟩
    have on : lb (wayE E T (-1) mo) (5 * t + p) = true → ∀ k, lb (m_X8_goes E (lB (5 * t + p)) (nI 0) (m_X8_onlyIn E (nI mo) (-1))) k = true → lb (wayE E T (-1) (mo + 1)) k = true := fun z k hk => by
      rw [ew, goes_b hT h2 hR h0]
      exact ⟨t, p, ht, hp, z, (one k).mp hk⟩
    unfold stepB
    rw [b_or, Bool.or_eq_true]
    constructor
    · rintro ⟨_, z, u, _, u1, u2⟩
      refine ⟨z, ?_⟩
      rcases (one u).mp u1 with ⟨a1, a2, a3⟩ | ⟨a1, v, a2, a3, a4⟩
      · subst a3
        have w := ((IH t (p + 1) ht (by omega)).mp (by rw [show 5 * t + (p + 1) = 5 * t + p + 1 by omega]; exact u2)).2
        refine Or.inr ?_
        rw [if_pos a1, b_and, w, Bool.true_and]
        rcases hO with ⟨o1, o2, o3⟩ | ⟨t0, o0, o1, o2, o3⟩ | ⟨o1, o2, o3⟩
        · rw [o2, b_nn255 t (by omega), decide_eq_true (show t < 8 by omega)]
        · rw [o2, b_one (by omega)]
          rcases a2 with a | a
          · rw [o1] at a; exact absurd a (nI_nm (by omega))
          · rw [o1] at a; exact decide_eq_true ((neq (by omega) (by omega)).mp a).symm
        · rcases a2 with a | a
          · rw [o1] at a; exact absurd a m2m1
          · rw [o1] at a; exact absurd a (nI_nm2 (by omega))
      · subst a4
        have w := ((IH v 0 a2 (by omega)).mp u2).2
        refine Or.inl ?_
        rcases hO with ⟨o1, o2, o3⟩ | ⟨t0, o0, o1, o2, o3⟩ | ⟨o1, o2, o3⟩
        · rw [o3, if_neg (show ¬ (false = true) by decide), ent_b 8 (by omega)]
          refine ⟨by omega, and_ne0.mpr ⟨v, ?_, w⟩⟩
          unfold wk; rw [if_pos ht]; exact a3
        · rw [o1] at a1; exact absurd a1 (nI_nm (by omega))
        · rw [o1] at a1; exact absurd a1 m2m1
    · rintro ⟨z, w⟩
      refine ⟨by omega, z, ?_⟩
      rcases w with w | w
      · rcases hO with ⟨o1, o2, o3⟩ | ⟨t0, o0, o1, o2, o3⟩ | ⟨o1, o2, o3⟩
        · rw [o3, if_neg (show ¬ (false = true) by decide), ent_b 8 (by omega)] at w
          obtain ⟨v, v1, v2⟩ := and_ne0.mp w.2
          unfold wk at v1; rw [if_pos ht] at v1
          have hv := walks_lt D (show t < 8 by omega) (nI 0) v1
          have u1 := (one (5 * v)).mpr (Or.inr ⟨o1, v, hv, v1, rfl⟩)
          exact ⟨5 * v, by omega, u1, (IH v 0 hv (by omega)).mpr ⟨on z _ u1, v2⟩⟩
        · rw [o3, if_pos (rfl : true = true), b_n0] at w; cases w
        · rw [o3, if_pos (rfl : true = true), b_n0] at w; cases w
      · by_cases a1 : p < R
        · rw [if_pos a1, b_and, Bool.and_eq_true] at w
          have a2 : m_X8_onlyIn E (nI mo) (-1) = -1 ∨ m_X8_onlyIn E (nI mo) (-1) = nI t := by
            rcases hO with ⟨o1, o2, o3⟩ | ⟨t0, o0, o1, o2, o3⟩ | ⟨o1, o2, o3⟩
            · exact Or.inl o1
            · rw [o2, b_one (by omega), decide_eq_true_eq] at w
              rw [w.2]; exact Or.inr o1
            · rw [o2, b_n0] at w; cases w.2
          have u1 := (one (5 * t + p + 1)).mpr (Or.inl ⟨a1, a2, rfl⟩)
          refine ⟨5 * t + p + 1, by omega, u1, ?_⟩
          have := (IH t (p + 1) ht (by omega)).mpr ⟨by rw [show 5 * t + (p + 1) = 5 * t + p + 1 by omega]; exact on z _ u1, w.1⟩
          rw [show 5 * t + (p + 1) = 5 * t + p + 1 by omega] at this; exact this
        · rw [if_neg a1, b_n0] at w; cases w
theorem wy_sub (hT : T ≤ 8) : ∀ mo, mo ≤ 48 → ∀ k, lb (wyE E T mo) k = true → lb (wayE E T (-1) mo) k = true := fun mo hmo k hk => by
  by_cases q : mo = 48
  · subst q; exact hk
  · rw [wyE_s (by omega), led_b] at hk; exact hk.2.1
theorem was_b (h : RR C E) (D : DR C E c 60 T r) (hc : c = 46 ∨ c = 52) (hR : R ≤ 4) (h0 : E 60 0 = nI R) {mo : Nat} (hmo : mo ≤ 48) : m_X6_townsAt (m_X6_sweepBoth C c) (nI mo) = m_X8_towns E (wyE E T mo) := by
  have hT := D.2.2.2.2.1
  have hOB := row_OB h D hR h0 (-1) mo hmo
  apply b_ext
  intro k hk
  apply Bool.eq_iff_iff.mpr
  rw [was_C D hc hR h0 hmo, towns_E, Bool.and_eq_true, decide_eq_true_eq, anyp_iff]
  constructor
  · rintro ⟨p, p1, p2, p3⟩
    have hk := hOB.2.1 p k p1 p2
    refine ⟨by omega, p, p1, (way_b h D hR h0 _ mo hmo rfl k p hk p1).mpr ⟨?_, p3⟩⟩
    rw [← hOB.1 k p hk p1]; exact p2
  · rintro ⟨k8, p, p1, p2⟩
    obtain ⟨t', p', u1, u2, u3⟩ := hOB.2.2 _ (wy_sub hT mo hmo _ p2)
    have e1 : t' = k := by omega
    have e2 : p' = p := by omega
    subst e1; subst e2
    have := (way_b h D hR h0 _ mo hmo rfl t' p' u1 u2).mp p2
    exact ⟨p', p1, by rw [hOB.1 t' p' u1 u2]; exact this.1, this.2⟩
theorem was_E (h : RR C E) (hlim : ∃ R, R ≤ 4 ∧ E 60 0 = nI R) (a : Int32) (w : Nat → Int64) : (m_X7_was C a).1 = (m_X8_was (E, w) a).1 := by
  obtain ⟨c, T, r, hc, e0, D⟩ := h.2.1.get
  obtain ⟨R, hR, eR⟩ := hlim
  by_cases h1 : a.toInt < 0 ∨ ((49 : Nat) : Int) ≤ a.toInt
  · have e1 : m_X7_was C a = ((-1000000002 : Int32), C) := by
      unfold m_X7_was
      by_cases q : a < 0
      · rw [if_pos q]
      · rw [if_neg q, if_neg (fun q2 => by rw [lt0] at q; rw [leK (by omega)] at q2; omega)]
    have e2 : m_X8_was (E, w) a = ((-1000000002 : Int32), (E, w)) := by
      unfold m_X8_was; rw [if_pos (in0.mpr (by rw [nI_toInt (by omega), nI_toInt (by omega)]; omega))]
    rw [e1, e2]
  · obtain ⟨y, hy, rfl⟩ := ti_nat h1
    have g3 : ¬ (nI y < 0) := fun q => by rw [lt0] at q; omega
    have g4 : nI y ≤ nI 48 := (nle (by omega) (by omega)).mpr (by omega)
    have g5 : ¬ (m_X8_in (E, w).1 (nI y) (nI 0) (nI 48) = 0) := fun q => by rw [in0, nI_toInt (by omega), nI_toInt (by omega), nI_toInt (by omega)] at q; omega
    unfold m_X7_was m_X8_was
    rw [if_neg g3, if_pos g4, if_neg g5, e0, waysOn_A D.2.2.2.2.1 D.2.2.2.1]
    unfold m_X7_was_12 m_X8_was_12
    show m_X6_townsAt (m_X6_sweepBoth C c) (nI y) = m_X8_towns E (wyN E T w 0 (rl (nI y)))
    rw [was_b h D hc hR eR (show y ≤ 48 by omega), rlN (by omega)]
    unfold wyN; rw [if_pos (by omega)]
/-- ones and bitCount -/
def onA (x : Int32) : Nat → Int32
  | 0 => nI 0
  | k + 1 => onA x k + ((x >>> (nI k &&& 31)) &&& nI 1)
theorem on_L {σ : SS} {x : Int32} : ∀ (m k : Nat), k ≤ 12 → 12 - k < m → m_X8_ones_L4_3 m σ (nI k) (onA x k) x = onA x 12 := by
  intro m
  induction m with
  | zero => intro k _ h0; exact absurd h0 (Nat.not_lt_zero _)
  | succ m ih =>
    intro k hk hm
    rw [show m_X8_ones_L4_3 (m + 1) = m_X8_ones_L4_3_b (m_X8_ones_L4_3 m) from rfl]
    unfold m_X8_ones_L4_3_b
    by_cases h1 : 12 ≤ k
    · rw [if_pos ((nle (by omega) (by omega)).mpr h1), show k = 12 by omega]
    · rw [if_neg (fun q => h1 ((nle (by omega) (by omega)).mp q)), oI1, n1]
      exact ih (k + 1) (by omega) (by omega)
def sel (a b c d e f g h : Bool) : Int32 := (if a then nI 1 else nI 0) ||| (if b then nI 2 else nI 0) ||| (if c then nI 4 else nI 0) ||| (if d then nI 8 else nI 0) ||| (if e then nI 16 else nI 0) ||| (if f then nI 32 else nI 0) ||| (if g then nI 64 else nI 0) ||| (if h then nI 128 else nI 0)
theorem sel_b : ∀ (a b c d e f g h : Bool), (∀ k, k < 32 → bt (sel a b c d e f g h) k = (if k = 0 then a else if k = 1 then b else if k = 2 then c else if k = 3 then d else if k = 4 then e else if k = 5 then f else if k = 6 then g else if k = 7 then h else false)) := by decide +kernel
theorem sel_E {x : Int32} (hx : ∀ k, bt x k = true → k < 8) : x = sel (bt x 0) (bt x 1) (bt x 2) (bt x 3) (bt x 4) (bt x 5) (bt x 6) (bt x 7) := by
  apply b_ext
  intro i hi
  rw [sel_b _ _ _ _ _ _ _ _ i hi]
  by_cases q : i < 8
  · rcases (show i = 0 ∨ i = 1 ∨ i = 2 ∨ i = 3 ∨ i = 4 ∨ i = 5 ∨ i = 6 ∨ i = 7 by omega) with rfl | rfl | rfl | rfl | rfl | rfl | rfl | rfl <;> rfl
  · have e : bt x i = false := by
      cases z : bt x i
      · rfl
      · exact absurd (hx i z) q
    rw [e, if_neg (by omega), if_neg (by omega), if_neg (by omega), if_neg (by omega), if_neg (by omega), if_neg (by omega), if_neg (by omega), if_neg (by omega)]
theorem bc_s (σ : SS) : ∀ (a b c d e f g h : Bool), m_J6_bitCount_0f7a4 σ (sel a b c d e f g h) = onA (sel a b c d e f g h) 12 := by
  unfold m_J6_bitCount_0f7a4; clear σ; decide +kernel
theorem bc_E {σ τ : SS} {x : Int32} (hx : ∀ k, bt x k = true → k < 8) : m_J6_bitCount_0f7a4 σ x = m_X8_ones τ x := by
  rw [show m_X8_ones τ x = onA x 12 by unfold m_X8_ones; exact on_L 2000 0 (by omega) (by omega), sel_E hx]; exact bc_s σ _ _ _ _ _ _ _ _
theorem ask_L {σ : SS} {w : Nat → Int64} (hs : ∀ mo, mo ≤ 48 → m_X6_townsAt σ (nI mo) = m_X8_towns E (w mo)) : ∀ (m mo : Nat) (a b : Int32), mo ≤ 49 → 49 - mo < m → m_X6_widestMonth_L6_4 m σ (nI mo) a b = (m_X8_ask_L10_8 m (E, w) (nI mo) a b).1 := by
  intro m
  induction m with
  | zero => intro mo a b _ h0; exact absurd h0 (Nat.not_lt_zero _)
  | succ m ih =>
    intro mo a b hmo hm
    rw [show m_X6_widestMonth_L6_4 (m + 1) = m_X6_widestMonth_L6_4_b (m_X6_widestMonth_L6_4 m) from rfl, show m_X8_ask_L10_8 (m + 1) = m_X8_ask_L10_8_b (m_X8_ask_L10_8 m) from rfl]
    unfold m_X6_widestMonth_L6_4_b m_X8_ask_L10_8_b
    by_cases h1 : 48 < mo
    · have g := (nlt (a := 48) (b := mo) (by omega) (by omega)).mpr h1
      rw [if_pos g, if_pos g]
    · have g : ¬ (nI 48 < nI mo) := fun q => h1 ((nlt (by omega) (by omega)).mp q)
      have e : m_J6_bitCount_0f7a4 σ (m_X6_townsAt σ (nI mo)) = m_X8_ones E (m_X8_towns E (w mo)) := by
        rw [hs mo (by omega)]
        refine bc_E (fun k hk => ?_)
        rw [towns_E, Bool.and_eq_true, decide_eq_true_eq] at hk; exact hk.1
      rw [if_neg g, if_neg g, e, oI1, n1, rlN (show mo < 2147483648 by omega)]
      show (if m_X8_ones E (m_X8_towns E (w mo)) ≤ a then _ else _) = (if m_X8_ones E (m_X8_towns E (w mo)) ≤ a then _ else _ : Int32 × S2).1
      by_cases q : m_X8_ones E (m_X8_towns E (w mo)) ≤ a
      · rw [if_pos q, if_pos q]; exact ih (mo + 1) _ _ (by omega) (by omega)
      · rw [if_neg q, if_neg q]; exact ih (mo + 1) _ _ (by omega) (by omega)
theorem ask_E (h : RR C E) (hlim : ∃ R, R ≤ 4 ∧ E 60 0 = nI R) (w : Nat → Int64) : (m_X7_ask C).1 = (m_X8_ask (E, w)).1 := by
  obtain ⟨c, T, r, hc, e0, D⟩ := h.2.1.get
  obtain ⟨R, hR, eR⟩ := hlim
  unfold m_X7_ask m_X8_ask
  rw [e0, waysOn_A D.2.2.2.2.1 D.2.2.2.1]
  unfold m_X7_ask_5 m_X8_ask_3 m_X6_widestMonth
  exact ask_L (fun mo hmo => by rw [was_b h D hc hR eR hmo]; unfold wyN; rw [if_pos (by omega)]) 2000 1 (nI 1) (-1) (by omega) (by omega)
end LE
