/-! told seals: the sweep from behind, was -/
def entF (f : Nat → Int32) (set : Int32) : Nat → Int32
  | 0 => nI 0
  | u + 1 => if f u &&& set = 0 then entF f set u else entF f set u ||| (nI 1 <<< (nI u &&& 31))
theorem entF_cg {f g : Nat → Int32} {set : Int32} : ∀ n, (∀ u, u < n → f u = g u) → entF f set n = entF g set n := by
  intro n
  induction n with
  | zero => intro _; rfl
  | succ n ih =>
    intro h
    show (if f n &&& set = 0 then entF f set n else entF f set n ||| (nI 1 <<< (nI n &&& 31))) = (if g n &&& set = 0 then entF g set n else entF g set n ||| (nI 1 <<< (nI n &&& 31)))
    rw [h n (by omega), ih (fun u hu => h u (by omega))]
theorem ent_L {σ : SS} {set : Int32} : ∀ (m u : Nat), u ≤ 8 → 8 - u < m → m_X6_entriesTo_L4_3 m σ (nI u) (entF (σ 36) set u) set = entF (σ 36) set 8 := by
  intro m
  induction m with
  | zero => intro u _ h0; exact absurd h0 (Nat.not_lt_zero _)
  | succ m ih =>
    intro u hu hm
    rw [show m_X6_entriesTo_L4_3 (m + 1) = m_X6_entriesTo_L4_3_b (m_X6_entriesTo_L4_3 m) from rfl]
    unfold m_X6_entriesTo_L4_3_b
    by_cases h1 : 8 ≤ u
    · rw [if_pos ((nle (by omega) (by omega)).mpr h1), show u = 8 by omega]
    · rw [if_neg (fun q => h1 ((nle (by omega) (by omega)).mp q)), rlN (show u < 2147483648 by omega), oI1, n1]
      have ih' := ih (u + 1) (by omega) (by omega)
      rw [show entF (σ 36) set (u + 1) = if σ 36 u &&& set = 0 then entF (σ 36) set u else entF (σ 36) set u ||| (nI 1 <<< (nI u &&& 31)) from rfl] at ih'
      by_cases q : σ 36 u &&& set = 0
      · rw [if_pos q]; rw [if_pos q] at ih'; exact ih'
      · rw [if_neg q]; rw [if_neg q] at ih'; exact ih'
theorem ent_E {σ : SS} {set : Int32} : m_X6_entriesTo σ set = entF (σ 36) set 8 := by
  unfold m_X6_entriesTo; exact ent_L 2000 0 (by omega) (by omega)
theorem ent_b {f : Nat → Int32} {set : Int32} {k : Nat} : ∀ n, n ≤ 8 → (bt (entF f set n) k = true ↔ k < n ∧ f k &&& set ≠ 0) := by
  intro n
  induction n with
  | zero => intro _; rw [show entF f set 0 = nI 0 from rfl, b_n0]; exact ⟨fun z => (by cases z), fun z => absurd z.1 (Nat.not_lt_zero _)⟩
  | succ n ih =>
    intro hn
    by_cases q : f n &&& set = 0
    · rw [show entF f set (n + 1) = entF f set n from if_pos q, ih (by omega)]
      constructor
      · rintro ⟨a, b⟩; exact ⟨by omega, b⟩
      · rintro ⟨a, b⟩
        by_cases z : k = n
        · subst z; exact absurd q b
        · exact ⟨by omega, b⟩
    · rw [show entF f set (n + 1) = entF f set n ||| (nI 1 <<< (nI n &&& 31)) from if_neg q, b_or, Bool.or_eq_true, ih (by omega), b_one (by omega), decide_eq_true_eq]
      constructor
      · rintro (⟨a, b⟩ | a)
        · exact ⟨by omega, b⟩
        · subst a; exact ⟨by omega, q⟩
      · rintro ⟨a, b⟩
        by_cases z : k = n
        · exact Or.inr z
        · exact Or.inl ⟨by omega, b⟩
theorem and_ne0 {x y : Int32} : x &&& y ≠ 0 ↔ ∃ u, bt x u = true ∧ bt y u = true := by
  constructor
  · intro h
    by_cases q : ∃ u, bt x u = true ∧ bt y u = true
    · exact q
    · refine absurd (b_nil (fun k => ?_)) h
      rw [b_and]
      cases w : bt x k
      · rfl
      · cases v : bt y k
        · rfl
        · exact absurd ⟨k, w, v⟩ q
  · rintro ⟨u, h1, h2⟩ q
    have := congrArg (fun z => bt z u) q
    simp only [b_and, h1, h2, b_0] at this
    cases this
noncomputable def wk (E : SS) (T : Nat) (u : Nat) : Int32 := if u < T then m_X8_walks E (nI u) (nI 0) else nI 0
noncomputable def stepB (E : SS) (T R : Nat) (set : Int32) (b : Bool) (M : Nat → Int32) : Nat → Int32 := fun p => (if b then nI 0 else entF (wk E T) (M 0) 8) ||| (if p < R then M (p + 1) &&& set else nI 0)
noncomputable def beh (C E : SS) (c T R : Nat) : Nat → Nat → Int32
  | 0 => fun _ => (nI 1 <<< (nI T &&& 31)) - nI 1
  | d + 1 => stepB E T R (m_X6_staysIn C c (nI (47 - d)) (-1)) (decide (m_X6_isTold C (nI (47 - d)) (-1) = nI 1)) (beh C E c T R d)
noncomputable def rowB (C E : SS) (c T R m : Nat) : Nat → Int32 := beh C E c T R (48 - m)
section BE
variable {C E : SS} {c T R r : Nat}
theorem rowB_s {m : Nat} (hm : m < 48) : rowB C E c T R m = stepB E T R (m_X6_staysIn C c (nI m) (-1)) (decide (m_X6_isTold C (nI m) (-1) = nI 1)) (rowB C E c T R (m + 1)) := by
  have e : ∀ d, d = 48 - (m + 1) → beh C E c T R (d + 1) = stepB E T R (m_X6_staysIn C c (nI m) (-1)) (decide (m_X6_isTold C (nI m) (-1) = nI 1)) (beh C E c T R d) := fun d hd => by
    show stepB E T R (m_X6_staysIn C c (nI (47 - d)) (-1)) (decide (m_X6_isTold C (nI (47 - d)) (-1) = nI 1)) (beh C E c T R d) = _
    rw [show 47 - d = m by omega]
  unfold rowB
  rw [show 48 - m = (48 - (m + 1)) + 1 by omega]
  exact e _ rfl
noncomputable def bhS (σ : SS) (B : Nat → Nat → Int32) (mo s : Nat) : SS := fun i k => if i = 38 ∧ ((5 * (mo + 1) ≤ k ∧ k < 245) ∨ (5 * mo ≤ k ∧ k < 5 * mo + s)) then B (k / 5) (k % 5) else σ i k
variable {S : SS} {B : Nat → Nat → Int32}
theorem bhS_o {mo s i k : Nat} (hi : i ≠ 38) : bhS S B mo s i k = S i k := if_neg (fun q => hi q.1)
theorem bhS_f {mo s i : Nat} (hi : i ≠ 38) : bhS S B mo s i = S i := funext (fun k => bhS_o hi)
theorem bhS_r {mo s m p : Nat} (hp : p < 5) (hm : mo + 1 ≤ m) (hm2 : m ≤ 48) : bhS S B mo s 38 (5 * m + p) = B m p := by
  unfold bhS; rw [if_pos ⟨rfl, Or.inl ⟨by omega, by omega⟩⟩, show (5 * m + p) / 5 = m by omega, show (5 * m + p) % 5 = p by omega]
theorem bhS_s {mo s : Nat} (hs : s < 5) {v : Int32} (hv : v = B mo s) : st (bhS S B mo s) 38 (5 * mo + s) v = bhS S B mo (s + 1) := by
  funext i k; unfold st bhS
  by_cases h1 : i = 38
  · subst h1
    by_cases h2 : k = 5 * mo + s
    · subst h2; rw [if_pos ⟨rfl, rfl⟩, if_pos ⟨rfl, Or.inr ⟨by omega, by omega⟩⟩, show (5 * mo + s) / 5 = mo by omega, show (5 * mo + s) % 5 = s by omega, hv]
    · rw [if_neg (fun q => h2 q.2)]
      by_cases h3 : (5 * (mo + 1) ≤ k ∧ k < 245) ∨ (5 * mo ≤ k ∧ k < 5 * mo + s)
      · rw [if_pos ⟨rfl, h3⟩, if_pos ⟨rfl, by omega⟩]
      · rw [if_neg (fun q => h3 q.2), if_neg (fun q => by omega)]
  · rw [if_neg (fun q => h1 q.1), if_neg (fun q => h1 q.1), if_neg (fun q => h1 q.1)]
theorem bhS_n {mo : Nat} (hmo : mo < 48) : bhS S B (mo + 1) 5 = bhS S B mo 0 := by
  funext i k; unfold bhS
  by_cases h : i = 38 ∧ 5 * (mo + 1) ≤ k ∧ k < 245
  · rw [if_pos ⟨h.1, by omega⟩, if_pos ⟨h.1, by omega⟩]
  · rw [if_neg (fun q => by omega), if_neg (fun q => by omega)]
theorem bi_1 (hc : c = 46 ∨ c = 52) (hR : R ≤ 4) (h0 : S c 0 = nI R) {mo : Nat} (hmo : mo < 48) {W Y : Int32} (hB : ∀ p, p < 5 → W ||| (if p < R then B (mo + 1) (p + 1) &&& Y else nI 0) = B mo p) (k0 k1 : SS → Int32 → Nat → SS) : ∀ (m s : Nat), s ≤ 5 → 5 - s < m → m_X6_sweepBehind_L81_37 k0 k1 m (bhS S B mo s) (nI s) W Y (nI (5 * (mo + 1))) (nI (5 * mo)) (nI mo) c = k1 (bhS S B mo 5) (ix mo) c := by
  intro m
  induction m with
  | zero => intro s _ h0; exact absurd h0 (Nat.not_lt_zero _)
  | succ m ih =>
    intro s hs hm
    rw [show m_X6_sweepBehind_L81_37 k0 k1 (m + 1) = m_X6_sweepBehind_L81_37_b k0 k1 (m_X6_sweepBehind_L81_37 k0 k1 m) from rfl]
    by_cases h1 : 5 ≤ s
    · have e : s = 5 := by omega
      subst e
      simp only [m_X6_sweepBehind_140, m_X6_sweepBehind_122, m_X6_sweepBehind_103, m_X6_sweepBehind_L81_84_b, m_X6_sweepBehind_75, m_X6_sweepBehind_56, m_X6_sweepBehind_L81_37_b, m_X6_sweepBehind_L30_7_b, m_X6_sweepBehind_L2_2_b, m_X6_sweepBehind, if_pos (show nI 5 ≤ nI 5 from (nle (by omega) (by omega)).mpr (by omega)), ix_s]
    · have g1 : ¬ (nI 5 ≤ nI s) := fun q => h1 ((nle (by omega) (by omega)).mp q)
      have ec : bhS S B mo s c 0 = nI R := by rw [bhS_o (by omega)]; exact h0
      have k1' : nI (5 * (mo + 1)) + nI s = nI (5 * (mo + 1) + s) := nI_add _ _
      have k2' : nI (5 * mo) + nI s = nI (5 * mo + s) := nI_add _ _
      have ih' := ih (s + 1) (by omega) (by omega)
      have hb := hB s (by omega)
      by_cases q : R ≤ s
      · rw [if_neg (by omega)] at hb
        simp only [m_X6_sweepBehind_140, m_X6_sweepBehind_122, m_X6_sweepBehind_103, m_X6_sweepBehind_L81_84_b, m_X6_sweepBehind_75, m_X6_sweepBehind_56, m_X6_sweepBehind_L81_37_b, m_X6_sweepBehind_L30_7_b, m_X6_sweepBehind_L2_2_b, m_X6_sweepBehind, if_neg g1, ec, if_pos (show nI R ≤ nI s from (nle (by omega) (by omega)).mpr q), k2', rlN (show 5 * mo + s < 2147483648 by omega), oI1, n1]
        rw [bhS_s (by omega) hb]
        exact ih'
      · rw [if_pos (by omega)] at hb
        have er : bhS S B mo s 38 (5 * (mo + 1) + s + 1) = B (mo + 1) (s + 1) := bhS_r (p := s + 1) (by omega) (by omega) (by omega)
        simp only [m_X6_sweepBehind_140, m_X6_sweepBehind_122, m_X6_sweepBehind_103, m_X6_sweepBehind_L81_84_b, m_X6_sweepBehind_75, m_X6_sweepBehind_56, m_X6_sweepBehind_L81_37_b, m_X6_sweepBehind_L30_7_b, m_X6_sweepBehind_L2_2_b, m_X6_sweepBehind, if_neg g1, ec, if_neg (show ¬ (nI R ≤ nI s) from fun z => q ((nle (by omega) (by omega)).mp z)), k1', k2', rlN (show 5 * mo + s < 2147483648 by omega), oI1, n1, rlN (show 5 * (mo + 1) + s + 1 < 2147483648 by omega), er]
        rw [bhS_s (by omega) hb]
        exact ih'
theorem bi_0 (hc : c = 46 ∨ c = 52) (hR : R ≤ 4) (h0 : S c 0 = nI R) {mo : Nat} (hmo : mo < 48) {Y : Int32} (hB : ∀ p, p < 5 → nI 0 ||| (if p < R then B (mo + 1) (p + 1) &&& Y else nI 0) = B mo p) (k0 k1 : SS → Int32 → Nat → SS) : ∀ (m s : Nat), s ≤ 5 → 5 - s < m → m_X6_sweepBehind_L81_84 k0 k1 m (bhS S B mo s) (nI s) Y (nI (5 * (mo + 1))) (nI (5 * mo)) (nI mo) c = k1 (bhS S B mo 5) (ix mo) c := by
  intro m
  induction m with
  | zero => intro s _ h0; exact absurd h0 (Nat.not_lt_zero _)
  | succ m ih =>
    intro s hs hm
    rw [show m_X6_sweepBehind_L81_84 k0 k1 (m + 1) = m_X6_sweepBehind_L81_84_b k0 k1 (m_X6_sweepBehind_L81_84 k0 k1 m) from rfl]
    by_cases h1 : 5 ≤ s
    · have e : s = 5 := by omega
      subst e
      simp only [m_X6_sweepBehind_140, m_X6_sweepBehind_122, m_X6_sweepBehind_103, m_X6_sweepBehind_L81_84_b, m_X6_sweepBehind_75, m_X6_sweepBehind_56, m_X6_sweepBehind_L81_37_b, m_X6_sweepBehind_L30_7_b, m_X6_sweepBehind_L2_2_b, m_X6_sweepBehind, if_pos (show nI 5 ≤ nI 5 from (nle (by omega) (by omega)).mpr (by omega)), ix_s]
    · have g1 : ¬ (nI 5 ≤ nI s) := fun q => h1 ((nle (by omega) (by omega)).mp q)
      have ec : bhS S B mo s c 0 = nI R := by rw [bhS_o (by omega)]; exact h0
      have k1' : nI (5 * (mo + 1)) + nI s = nI (5 * (mo + 1) + s) := nI_add _ _
      have k2' : nI (5 * mo) + nI s = nI (5 * mo + s) := nI_add _ _
      have ih' := ih (s + 1) (by omega) (by omega)
      have hb := hB s (by omega)
      by_cases q : R ≤ s
      · rw [if_neg (by omega)] at hb
        simp only [m_X6_sweepBehind_140, m_X6_sweepBehind_122, m_X6_sweepBehind_103, m_X6_sweepBehind_L81_84_b, m_X6_sweepBehind_75, m_X6_sweepBehind_56, m_X6_sweepBehind_L81_37_b, m_X6_sweepBehind_L30_7_b, m_X6_sweepBehind_L2_2_b, m_X6_sweepBehind, if_neg g1, ec, if_pos (show nI R ≤ nI s from (nle (by omega) (by omega)).mpr q), k2', rlN (show 5 * mo + s < 2147483648 by omega), oI1, n1]
        rw [bhS_s (by omega) hb]
        exact ih'
      · rw [if_pos (by omega)] at hb
        have er : bhS S B mo s 38 (5 * (mo + 1) + s + 1) = B (mo + 1) (s + 1) := bhS_r (p := s + 1) (by omega) (by omega) (by omega)
        simp only [m_X6_sweepBehind_140, m_X6_sweepBehind_122, m_X6_sweepBehind_103, m_X6_sweepBehind_L81_84_b, m_X6_sweepBehind_75, m_X6_sweepBehind_56, m_X6_sweepBehind_L81_37_b, m_X6_sweepBehind_L30_7_b, m_X6_sweepBehind_L2_2_b, m_X6_sweepBehind, if_neg g1, ec, if_neg (show ¬ (nI R ≤ nI s) from fun z => q ((nle (by omega) (by omega)).mp z)), k1', k2', rlN (show 5 * mo + s < 2147483648 by omega), oI1, n1, rlN (show 5 * (mo + 1) + s + 1 < 2147483648 by omega), er]
        rw [bhS_s (by omega) hb]
        exact ih'
theorem bo_s (hc : c = 46 ∨ c = 52) (hR : R ≤ 4) (h0 : S c 0 = nI R) (h36 : ∀ u, u < 8 → S 36 u = wk E T u) (hs : ∀ i, i = 33 ∨ i = 34 ∨ i = 35 ∨ i = c ∨ i = c + 2 → S i = C i) (k0 : SS → Int32 → Nat → SS) {mo m : Nat} (hmo : mo < 48) : m_X6_sweepBehind_L30_7 k0 (m + 1) (bhS S (rowB C E c T R) mo 0) (nI mo) c = m_X6_sweepBehind_L30_7 k0 m (bhS S (rowB C E c T R) mo 5) (ix mo) c := by
  have bs : ∀ i, i = 33 ∨ i = 34 ∨ i = 35 ∨ i = c ∨ i = c + 2 → bhS S (rowB C E c T R) mo 0 i = C i := fun i hi => (bhS_f (by omega)).trans (hs i hi)
  have et : m_X6_isTold (bhS S (rowB C E c T R) mo 0) (nI mo) (-1) = m_X6_isTold C (nI mo) (-1) := told_cg (bs 33 (by omega)) (bs 35 (by omega)) _ _
  have es : m_X6_staysIn (bhS S (rowB C E c T R) mo 0) c (nI mo) (-1) = m_X6_staysIn C c (nI mo) (-1) := stays_cg (bs 33 (by omega)) (bs 34 (by omega)) (bs 35 (by omega)) (bs c (by omega)) (bs (c + 2) (by omega)) _ _
  have k1 : nI mo * nI 5 + nI 5 = nI (5 * (mo + 1)) := by rw [pk_mul, nI_add]; congr 1; omega
  have k2 : nI mo * nI 5 = nI (5 * mo) := by rw [pk_mul]; congr 1; omega
  have er : bhS S (rowB C E c T R) mo 0 38 (5 * (mo + 1)) = rowB C E c T R (mo + 1) 0 := bhS_r (m := mo + 1) (p := 0) (by omega) (by omega) (by omega)
  have en : m_X6_entriesTo (bhS S (rowB C E c T R) mo 0) (rowB C E c T R (mo + 1) 0) = entF (wk E T) (rowB C E c T R (mo + 1) 0) 8 := by
    rw [ent_E, bhS_f (by decide)]; exact entF_cg 8 h36
  have g : ¬ (nI mo < 0) := nI_pos (by omega)
  rw [show m_X6_sweepBehind_L30_7 k0 (m + 1) = m_X6_sweepBehind_L30_7_b k0 (m_X6_sweepBehind_L30_7 k0 m) from rfl]
  unfold m_X6_sweepBehind_L30_7_b
  rw [if_neg g, et, es, k1, k2, rlN (show 5 * (mo + 1) < 2147483648 by omega), er, en]
  by_cases q : m_X6_isTold C (nI mo) (-1) = 0
  · rw [if_pos q]
    have qb := told0.mp q
    exact bi_1 hc hR h0 hmo (fun p hp => by rw [rowB_s hmo]; show _ = (if _ then nI 0 else _) ||| _; rw [qb, if_neg (show ¬ (false = true) by decide)]) k0 _ 2000 0 (by omega) (by omega)
  · rw [if_neg q]
    have qb : decide (m_X6_isTold C (nI mo) (-1) = nI 1) = true := by
      cases w : decide (m_X6_isTold C (nI mo) (-1) = nI 1)
      · exact absurd (told0.mpr w) q
      · rfl
    exact bi_0 hc hR h0 hmo (fun p hp => by rw [rowB_s hmo]; show _ = (if _ then nI 0 else _) ||| _; rw [qb, if_pos (rfl : true = true)]) k0 _ 2000 0 (by omega) (by omega)
theorem bo_L (hc : c = 46 ∨ c = 52) (hR : R ≤ 4) (h0 : S c 0 = nI R) (h36 : ∀ u, u < 8 → S 36 u = wk E T u) (hs : ∀ i, i = 33 ∨ i = 34 ∨ i = 35 ∨ i = c ∨ i = c + 2 → S i = C i) (k0 : SS → Int32 → Nat → SS) : ∀ (mo m : Nat), mo < 48 → mo + 1 < m → m_X6_sweepBehind_L30_7 k0 m (bhS S (rowB C E c T R) mo 0) (nI mo) c = bhS S (rowB C E c T R) 0 5 := by
  intro mo
  induction mo with
  | zero =>
    intro m h1 h2
    obtain ⟨m', rfl⟩ : ∃ m', m = m' + 1 + 1 := ⟨m - 2, by omega⟩
    rw [bo_s hc hR h0 h36 hs k0 h1, show m_X6_sweepBehind_L30_7 k0 (m' + 1) = m_X6_sweepBehind_L30_7_b k0 (m_X6_sweepBehind_L30_7 k0 m') from rfl]
    unfold m_X6_sweepBehind_L30_7_b
    rw [if_pos (show ix 0 < 0 by decide +kernel)]
  | succ mo ih =>
    intro m h1 h2
    obtain ⟨m', rfl⟩ : ∃ m', m = m' + 1 := ⟨m - 1, by omega⟩
    rw [bo_s hc hR h0 h36 hs k0 h1, bhS_n (by omega), show ix (mo + 1) = nI mo from rfl]
    exact ih m' (by omega) (by omega)
theorem bb_L (hc : c = 46 ∨ c = 52) (hR : R ≤ 4) (h0 : S c 0 = nI R) (h2 : S c 2 = nI T) (h36 : ∀ u, u < 8 → S 36 u = wk E T u) (hs : ∀ i, i = 33 ∨ i = 34 ∨ i = 35 ∨ i = c ∨ i = c + 2 → S i = C i) : ∀ (m s : Nat), s ≤ 5 → 5 - s < m → m_X6_sweepBehind_L2_2 m (bhS S (rowB C E c T R) 48 s) (nI s) c = bhS S (rowB C E c T R) 0 5 := by
  intro m
  induction m with
  | zero => intro s _ h0; exact absurd h0 (Nat.not_lt_zero _)
  | succ m ih =>
    intro s hs' hm
    rw [show m_X6_sweepBehind_L2_2 (m + 1) = m_X6_sweepBehind_L2_2_b (m_X6_sweepBehind_L2_2 m) from rfl]
    unfold m_X6_sweepBehind_L2_2_b
    by_cases h1 : 5 ≤ s
    · rw [if_pos ((nle (by omega) (by omega)).mpr h1), show s = 5 by omega, bhS_n (mo := 47) (by omega)]
      exact bo_L hc hR h0 h36 hs _ 47 2000 (by omega) (by omega)
    · rw [if_neg (fun q => h1 ((nle (by omega) (by omega)).mp q))]
      unfold m_X6_sweepBehind_140 m_X0_allTowns
      rw [bhS_o (show c ≠ 38 by omega), h2, nI_add, rlN (show 240 + s < 2147483648 by omega), show 240 + s = 5 * 48 + s from rfl, bhS_s (by omega) (show (nI 1 <<< (nI T &&& 31)) - nI 1 = rowB C E c T R 48 s from rfl), oI1, n1]
      exact ih (s + 1) (by omega) (by omega)
theorem behind_E (hc : c = 46 ∨ c = 52) (hR : R ≤ 4) (h0 : S c 0 = nI R) (h2 : S c 2 = nI T) (h36 : ∀ u, u < 8 → S 36 u = wk E T u) (hs : ∀ i, i = 33 ∨ i = 34 ∨ i = 35 ∨ i = c ∨ i = c + 2 → S i = C i) : m_X6_sweepBehind S c = bhS S (rowB C E c T R) 0 5 := by
  have := bb_L hc hR h0 h2 h36 hs 2000 0 (by omega) (by omega)
  rw [show bhS S (rowB C E c T R) 48 0 = S by funext i k; unfold bhS; rw [if_neg (fun q => by omega)]] at this
  unfold m_X6_sweepBehind; exact this
theorem both_E (D : DR C E c 60 T r) (hc : c = 46 ∨ c = 52) (hR : R ≤ 4) (h0 : E 60 0 = nI R) : m_X6_sweepBoth C c = bhS (swN (fyN C E T (nI 0) 8) C E c T R (-1) 245) (rowB C E c T R) 0 5 := by
  unfold m_X6_sweepBoth m_X6_sweepBoth_3 m_X6_sweepBoth_7
  rw [ahead_E D hc hR h0]
  have so : ∀ i, i ≠ 36 → i ≠ 37 → swN (fyN C E T (nI 0) 8) C E c T R (-1) 245 i = C i := fun i h1 h2 => funext (fun k => by rw [swN_o h2]; unfold fyN; rw [if_neg (fun q => h1 q.1)])
  refine behind_E hc hR ?_ ?_ ?_ (fun i hi => so i (by omega) (by omega))
  · rw [so c (by omega) (by omega), D.1]; exact h0
  · rw [so c (by omega) (by omega)]; exact D.2.2.1
  · intro u hu
    rw [swN_o (by decide)]; unfold fyN wk; rw [if_pos ⟨rfl, hu⟩]
theorem ta_L {σ : SS} {mo : Nat} (hmo : mo ≤ 48) : ∀ (m u : Nat), u ≤ 5 → 5 - u < m → m_X6_townsAt_L4_3 m σ (nI u) (un (fun p => σ 37 (5 * mo + p) &&& σ 38 (5 * mo + p)) u) (nI mo) = un (fun p => σ 37 (5 * mo + p) &&& σ 38 (5 * mo + p)) 5 := by
  intro m
  induction m with
  | zero => intro u _ h0; exact absurd h0 (Nat.not_lt_zero _)
  | succ m ih =>
    intro u hu hm
    rw [show m_X6_townsAt_L4_3 (m + 1) = m_X6_townsAt_L4_3_b (m_X6_townsAt_L4_3 m) from rfl]
    unfold m_X6_townsAt_L4_3_b
    rw [oI1, n1, pk_mul, nI_add, rlN (show mo * 5 + u < 2147483648 by omega), show mo * 5 + u = 5 * mo + u by omega]
    by_cases h1 : 5 ≤ u
    · rw [if_pos ((nle (by omega) (by omega)).mpr h1), show u = 5 by omega]
    · rw [if_neg (fun q => h1 ((nle (by omega) (by omega)).mp q))]
      exact ih (u + 1) (by omega) (by omega)
theorem ta_E {σ : SS} {mo : Nat} (hmo : mo ≤ 48) : m_X6_townsAt σ (nI mo) = un (fun p => σ 37 (5 * mo + p) &&& σ 38 (5 * mo + p)) 5 := by
  unfold m_X6_townsAt; exact ta_L hmo 2000 0 (by omega) (by omega)
/-- what the class answers for a month, bit by bit -/
theorem was_C (D : DR C E c 60 T r) (hc : c = 46 ∨ c = 52) (hR : R ≤ 4) (h0 : E 60 0 = nI R) {mo : Nat} (hmo : mo ≤ 48) (k : Nat) : bt (m_X6_townsAt (m_X6_sweepBoth C c) (nI mo)) k = true ↔ ∃ p, p < 5 ∧ bt (rowA C E c T R (-1) mo p) k = true ∧ bt (rowB C E c T R mo p) k = true := by
  rw [ta_E hmo, both_E D hc hR h0, un_b]
  have e : ∀ p, p < 5 → bhS (swN (fyN C E T (nI 0) 8) C E c T R (-1) 245) (rowB C E c T R) 0 5 37 (5 * mo + p) = rowA C E c T R (-1) mo p := fun p hp => by rw [bhS_o (by decide)]; exact swN_r hp (by omega)
  have f : ∀ p, p < 5 → bhS (swN (fyN C E T (nI 0) 8) C E c T R (-1) 245) (rowB C E c T R) 0 5 38 (5 * mo + p) = rowB C E c T R mo p := fun p hp => by
    unfold bhS; rw [if_pos ⟨rfl, by omega⟩, show (5 * mo + p) / 5 = mo by omega, show (5 * mo + p) % 5 = p by omega]
  constructor
  · rintro ⟨p, h1, h2⟩
    rw [e p h1, f p h1, b_and, Bool.and_eq_true] at h2
    exact ⟨p, h1, h2.1, h2.2⟩
  · rintro ⟨p, h1, h2, h3⟩
    refine ⟨p, h1, ?_⟩
    rw [e p h1, f p h1, b_and, h2, h3]; rfl
end BE
