/-! reach -/
section RE
variable {C E : SS}
theorem b_orA (x y z : Int32) : (x ||| y) ||| z = x ||| (y ||| z) := by apply b_ext; intro i hi; rw [b_or, b_or, b_or, b_or, Bool.or_assoc]
/-- the union of what f tells of the members of a set -/
def orx (f : Nat → Int32) (s : Int32) : Nat → Int32
  | 0 => nI 0
  | n + 1 => if bt s n then orx f s n ||| f n else orx f s n
theorem orx_cg {f g : Nat → Int32} {s : Int32} : ∀ n, (∀ u, u < n → f u = g u) → orx f s n = orx g s n := by
  intro n
  induction n with
  | zero => intro _; rfl
  | succ n ih => intro h; show (if bt s n then orx f s n ||| f n else orx f s n) = (if bt s n then orx g s n ||| g n else orx g s n); rw [ih (fun u hu => h u (by omega)), h n (by omega)]
theorem orx_cut {f : Nat → Int32} {s : Int32} {t : Nat} : ∀ n, t ≤ n → (∀ u, t ≤ u → f u = nI 0) → orx f s n = orx f s t := by
  intro n
  induction n with
  | zero => intro h _; rw [show t = 0 by omega]
  | succ n ih =>
    intro h hf
    by_cases q : t = n + 1
    · rw [q]
    · show (if bt s n then orx f s n ||| f n else orx f s n) = _
      rw [hf n (by omega), or_nz, ite_self]; exact ih (by omega) hf
theorem orx_bt {f : Nat → Int32} {s : Int32} {k : Nat} : ∀ n, bt (orx f s n) k = true → ∃ u, u < n ∧ bt s u = true ∧ bt (f u) k = true := by
  intro n
  induction n with
  | zero => intro h; rw [show orx f s 0 = nI 0 from rfl, b_n0] at h; cases h
  | succ n ih =>
    intro h
    have e : orx f s (n + 1) = if bt s n then orx f s n ||| f n else orx f s n := rfl
    rw [e] at h
    cases q : bt s n
    · rw [q, if_neg (show ¬ (false = true) by decide)] at h
      obtain ⟨u, a, b, c⟩ := ih h
      exact ⟨u, by omega, b, c⟩
    · rw [q, if_pos (rfl : true = true), b_or, Bool.or_eq_true] at h
      rcases h with h | h
      · obtain ⟨u, a, b, c⟩ := ih h
        exact ⟨u, by omega, b, c⟩
      · exact ⟨n, by omega, q, h⟩
theorem exits_L {σ : SS} {a : Nat} (s : Int32) : ∀ (m u : Nat), u ≤ 8 → 8 - u < m → m_X7_exitsOf_L4_3 m σ (nI u) (orx (σ a) s u) s a = orx (σ a) s 8 := by
  intro m
  induction m with
  | zero => intro u _ h0; exact absurd h0 (Nat.not_lt_zero _)
  | succ m ih =>
    intro u hu hm
    rw [show m_X7_exitsOf_L4_3 (m + 1) = m_X7_exitsOf_L4_3_b (m_X7_exitsOf_L4_3 m) from rfl]
    unfold m_X7_exitsOf_L4_3_b
    by_cases h1 : 8 ≤ u
    · rw [if_pos ((nle (by omega) (by omega)).mpr h1), show u = 8 by omega]
    · rw [if_neg (fun q => h1 ((nle (by omega) (by omega)).mp q)), oI1, n1, rlN (show u < 2147483648 by omega)]
      have ih' := ih (u + 1) (by omega) (by omega)
      have e : orx (σ a) s (u + 1) = if bt s u then orx (σ a) s u ||| σ a u else orx (σ a) s u := rfl
      rw [e] at ih'
      cases q : bt s u
      · rw [q, if_neg (show ¬ (false = true) by decide)] at ih'
        rw [if_pos ((b_ask0 (by omega)).mpr q)]; exact ih'
      · rw [q, if_pos (rfl : true = true)] at ih'
        rw [if_neg (fun p => by rw [b_ask0 (by omega), q] at p; cases p)]; exact ih'
theorem exits_E {σ : SS} {a : Nat} (s : Int32) : m_X7_exitsOf σ s a = orx (σ a) s 8 := by
  unfold m_X7_exitsOf; exact exits_L s 2000 0 (by omega) (by omega)
/-- a month further, from every town of a set -/
noncomputable def sx (E : SS) (t : Nat) (sh s : Int32) : Int32 := s ||| orx (fun u => m_X8_walks E (nI u) sh) s t
theorem sx_C {t : Nat} (ht : t ≤ 8) (sh s : Int32) : s ||| m_X7_exitsOf (fxN C E t sh 8) s 45 = sx E t sh s := by
  rw [exits_E]
  have e : ∀ u, u < 8 → fxN C E t sh 8 45 u = if u < t then m_X8_walks E (nI u) sh else nI 0 := fun u hu => by unfold fxN; rw [if_pos ⟨rfl, hu⟩]
  rw [orx_cg (g := fun u => if u < t then m_X8_walks E (nI u) sh else nI 0) 8 (fun u hu => e u hu), orx_cut (t := t) 8 ht (fun u hu => if_neg (by omega)), orx_cg (g := fun u => m_X8_walks E (nI u) sh) t (fun u hu => if_pos hu)]
  rfl
theorem more_L {t : Nat} (ht : t ≤ 8) (hE : E 60 2 = nI t) (k0 : SS → Int32 → Int32 → Int32 → Int32) (k s a : Int32) : ∀ (m u : Nat), u ≤ t → t - u < m → m_X8_reach_L55_35 k0 m E (nI u) (s ||| orx (fun u => m_X8_walks E (nI u) (E 62 5)) s u) k s a = k0 E (k + nI 1) (sx E t (E 62 5) s) a := by
  intro m
  induction m with
  | zero => intro u _ h0; exact absurd h0 (Nat.not_lt_zero _)
  | succ m ih =>
    intro u hu hm
    rw [show m_X8_reach_L55_35 k0 (m + 1) = m_X8_reach_L55_35_b k0 (m_X8_reach_L55_35 k0 m) from rfl]
    unfold m_X8_reach_L55_35_b
    rw [r2, hE, r5, oI1, n1]
    by_cases h1 : t ≤ u
    · rw [if_pos ((nle (by omega) (by omega)).mpr h1), show u = t by omega]; rfl
    · rw [if_neg (fun q => h1 ((nle (by omega) (by omega)).mp q))]
      have ih' := ih (u + 1) (by omega) (by omega)
      have e : orx (fun u => m_X8_walks E (nI u) (E 62 5)) s (u + 1) = if bt s u then orx (fun u => m_X8_walks E (nI u) (E 62 5)) s u ||| m_X8_walks E (nI u) (E 62 5) else orx (fun u => m_X8_walks E (nI u) (E 62 5)) s u := rfl
      rw [e] at ih'
      cases q : bt s u
      · rw [q, if_neg (show ¬ (false = true) by decide)] at ih'
        rw [if_neg (fun p => by rw [b_ask1 (by omega), q] at p; cases p), or_nz]; exact ih'
      · rw [q, if_pos (rfl : true = true)] at ih'
        rw [if_pos ((b_ask1 (by omega)).mpr q), b_orA]; exact ih'
theorem more_E {t : Nat} (ht : t ≤ 8) (hE : E 60 2 = nI t) (k0 : SS → Int32 → Int32 → Int32 → Int32) (k s a : Int32) : m_X8_reach_L55_35 k0 2000 E (nI 0) s k s a = k0 E (k + nI 1) (sx E t (E 62 5) s) a := by
  have := more_L ht hE k0 k s a 2000 0 (by omega) (by omega)
  rw [show orx (fun u => m_X8_walks E (nI u) (E 62 5)) s 0 = nI 0 from rfl, or_nz] at this
  exact this
noncomputable def itr (E : SS) (t : Nat) (sh s : Int32) : Nat → Int32
  | 0 => s
  | k + 1 => sx E t sh (itr E t sh s k)
/-- how many members below n -/
def cnt (w : Int32) : Nat → Nat
  | 0 => 0
  | n + 1 => cnt w n + (if bt w n then 1 else 0)
theorem cnt_le {w : Int32} : ∀ n, cnt w n ≤ n := by
  intro n
  induction n with
  | zero => exact Nat.le_refl _
  | succ n ih => show cnt w n + (if bt w n then 1 else 0) ≤ n + 1; split <;> omega
theorem cnt_mono {a b : Int32} : ∀ n, (∀ k, k < n → bt a k = true → bt b k = true) → cnt a n ≤ cnt b n := by
  intro n
  induction n with
  | zero => intro _; exact Nat.le_refl _
  | succ n ih =>
    intro h
    have h1 := ih (fun k hk => h k (by omega))
    have h2 := h n (by omega)
    show cnt a n + (if bt a n then 1 else 0) ≤ cnt b n + (if bt b n then 1 else 0)
    cases q : bt a n
    · cases bt b n <;> simp <;> omega
    · rw [h2 q]; simp; omega
theorem cnt_lt {a b : Int32} {k : Nat} (ha : bt a k = false) (hb : bt b k = true) : ∀ n, k < n → (∀ k, k < n → bt a k = true → bt b k = true) → cnt a n < cnt b n := by
  intro n
  induction n with
  | zero => intro h; omega
  | succ n ih =>
    intro hk h
    show cnt a n + (if bt a n then 1 else 0) < cnt b n + (if bt b n then 1 else 0)
    by_cases q : k = n
    · subst q
      have h1 := cnt_mono (a := a) (b := b) k (fun j hj => h j (by omega))
      rw [ha, hb]; simp; omega
    · have h1 := ih (by omega) (fun j hj => h j (by omega))
      have h2 := h n (by omega)
      cases q2 : bt a n
      · cases bt b n <;> simp <;> omega
      · rw [h2 q2]; simp; omega
theorem cnt_pos {a : Int32} {k : Nat} (ha : bt a k = true) : ∀ n, k < n → 1 ≤ cnt a n := by
  intro n
  induction n with
  | zero => intro h; omega
  | succ n ih =>
    intro hk
    show 1 ≤ cnt a n + (if bt a n then 1 else 0)
    by_cases q : k = n
    · subst q; rw [ha]; simp
    · have := ih (by omega); omega
section ST
variable {c t r : Nat}
theorem sx_sub {sh s : Int32} {k : Nat} (h : bt s k = true) : bt (sx E t sh s) k = true := by unfold sx; rw [b_or, h]; rfl
theorem sx_new (D : DR C E c 60 t r) {sh s : Int32} {k : Nat} (h : bt (sx E t sh s) k = true) : bt s k = true ∨ k < t := by
  unfold sx at h
  rw [b_or, Bool.or_eq_true] at h
  rcases h with h | h
  · exact Or.inl h
  · obtain ⟨u, hu, _, h3⟩ := orx_bt t h
    exact Or.inr (walks_lt D (by have := D.2.2.2.2.1; omega) sh h3)
theorem itr_st {sh s : Int32} {j : Nat} (h : itr E t sh s (j + 1) = itr E t sh s j) : ∀ i, itr E t sh s (j + i) = itr E t sh s j := by
  intro i
  induction i with
  | zero => rfl
  | succ i ih =>
    show sx E t sh (itr E t sh s (j + i)) = _
    rw [ih]; exact h
theorem itr_up {sh s : Int32} {a j : Nat} (h : bt (itr E t sh s j) a = true) : ∀ i, bt (itr E t sh s (j + i)) a = true := by
  intro i
  induction i with
  | zero => exact h
  | succ i ih => exact sx_sub ih
theorem stableT (D : DR C E c 60 t r) (sh : Int32) {x : Nat} (hx : x < t) : ∃ j, j < t ∧ itr E t sh (nI 1 <<< (nI x &&& 31)) (j + 1) = itr E t sh (nI 1 <<< (nI x &&& 31)) j := by
  have t8 := D.2.2.2.2.1
  have main : ∀ k, (∃ j, j < k ∧ itr E t sh (nI 1 <<< (nI x &&& 31)) (j + 1) = itr E t sh (nI 1 <<< (nI x &&& 31)) j) ∨ k + 1 ≤ cnt (itr E t sh (nI 1 <<< (nI x &&& 31)) k) t := by
    intro k
    induction k with
    | zero => exact Or.inr (cnt_pos (k := x) (by show bt (nI 1 <<< (nI x &&& 31)) x = true; rw [b_one (by omega)]; simp) t hx)
    | succ k ih =>
      rcases ih with ⟨j, h1, h2⟩ | h
      · exact Or.inl ⟨j, by omega, h2⟩
      · by_cases q : ∀ i, i < t → bt (itr E t sh (nI 1 <<< (nI x &&& 31)) (k + 1)) i = true → bt (itr E t sh (nI 1 <<< (nI x &&& 31)) k) i = true
        · refine Or.inl ⟨k, by omega, b_ext (fun i _ => ?_)⟩
          cases q1 : bt (itr E t sh (nI 1 <<< (nI x &&& 31)) k) i
          · cases q2 : bt (itr E t sh (nI 1 <<< (nI x &&& 31)) (k + 1)) i
            · rfl
            · rcases sx_new D q2 with p | p
              · rw [q1] at p; cases p
              · rw [q i p q2] at q1; cases q1
          · exact sx_sub q1
        · obtain ⟨i, q⟩ := Classical.not_forall.mp q
          obtain ⟨hi, q⟩ := Classical.not_imp.mp q
          obtain ⟨q1, q2⟩ := Classical.not_imp.mp q
          have q3 : bt (itr E t sh (nI 1 <<< (nI x &&& 31)) k) i = false := by
            cases w : bt (itr E t sh (nI 1 <<< (nI x &&& 31)) k) i
            · rfl
            · exact absurd w q2
          have := cnt_lt q3 q1 t hi (fun j _ hj => sx_sub hj)
          exact Or.inr (by omega)
  rcases main t with h | h
  · exact h
  · have := cnt_le (w := itr E t sh (nI 1 <<< (nI x &&& 31)) t) t
    omega
theorem withinT (D : DR C E c 60 t r) (h0 : 0 < t) (sh : Int32) {x a : Nat} (hx : x < 8) {k : Nat} (h : bt (itr E t sh (nI 1 <<< (nI x &&& 31)) k) a = true) : ∃ j, j < t ∧ j ≤ k ∧ bt (itr E t sh (nI 1 <<< (nI x &&& 31)) j) a = true := by
  have t8 := D.2.2.2.2.1
  have st : ∃ j, j < t ∧ itr E t sh (nI 1 <<< (nI x &&& 31)) (j + 1) = itr E t sh (nI 1 <<< (nI x &&& 31)) j := by
    by_cases q : x < t
    · exact stableT D sh q
    · refine ⟨0, h0, ?_⟩
      show sx E t sh (nI 1 <<< (nI x &&& 31)) = nI 1 <<< (nI x &&& 31)
      unfold sx
      have : orx (fun u => m_X8_walks E (nI u) sh) (nI 1 <<< (nI x &&& 31)) t = nI 0 := by
        have z : ∀ n, n ≤ t → orx (fun u => m_X8_walks E (nI u) sh) (nI 1 <<< (nI x &&& 31)) n = nI 0 := by
          intro n
          induction n with
          | zero => intro _; rfl
          | succ n ih =>
            intro hn
            show (if bt (nI 1 <<< (nI x &&& 31)) n then orx (fun u => m_X8_walks E (nI u) sh) (nI 1 <<< (nI x &&& 31)) n ||| m_X8_walks E (nI n) sh else orx (fun u => m_X8_walks E (nI u) sh) (nI 1 <<< (nI x &&& 31)) n) = nI 0
            rw [b_one (by omega), decide_eq_false (show ¬ n = x by omega), if_neg (show ¬ (false = true) by decide)]
            exact ih (by omega)
        exact z t (Nat.le_refl _)
      rw [this, or_nz]
  obtain ⟨j, h1, h2⟩ := st
  by_cases q : k < t
  · exact ⟨k, q, Nat.le_refl _, h⟩
  · refine ⟨j, h1, by omega, ?_⟩
    have := itr_st h2 (k - j)
    rw [show j + (k - j) = k by omega] at this
    rw [← this]; exact h
theorem rC_hit {σ : SS} (t8 : t ≤ 8) (s2 : σ (rl (σ 0 11)) 2 = nI t) {sh s : Int32} (hs : ∀ w, w ||| m_X7_exitsOf σ w 45 = sx E t sh w) {a K : Nat} (ha : a < 8) (hK : K < t) (hh : bt (itr E t sh s K) a = true) (hm : ∀ j, j < K → bt (itr E t sh s j) a = false) : ∀ (m u : Nat), u ≤ K → K - u < m → (m_X7_reach_L57_25 m σ (nI u) (itr E t sh s u) (nI a)).1 = nI K := by
  intro m
  induction m with
  | zero => intro u _ h0; exact absurd h0 (Nat.not_lt_zero _)
  | succ m ih =>
    intro u hu hm'
    rw [show m_X7_reach_L57_25 (m + 1) = m_X7_reach_L57_25_b (m_X7_reach_L57_25 m) from rfl]
    unfold m_X7_reach_L57_25_b
    rw [s2, if_neg (fun q => by rw [nle (by omega) (by omega)] at q; omega), hs, oI1, n1]
    by_cases q : u = K
    · subst q; rw [if_neg (fun p => by rw [b_ask0 (by omega), hh] at p; cases p)]
    · rw [if_pos ((b_ask0 (by omega)).mpr (hm u (by omega)))]
      exact ih (u + 1) (by omega) (by omega)
theorem rC_miss {σ : SS} (t8 : t ≤ 8) (s2 : σ (rl (σ 0 11)) 2 = nI t) {sh s : Int32} (hs : ∀ w, w ||| m_X7_exitsOf σ w 45 = sx E t sh w) {a : Nat} (ha : a < 8) (hm : ∀ j, j < t → bt (itr E t sh s j) a = false) : ∀ (m u : Nat), u ≤ t → t - u < m → (m_X7_reach_L57_25 m σ (nI u) (itr E t sh s u) (nI a)).1 = -1 := by
  intro m
  induction m with
  | zero => intro u _ h0; exact absurd h0 (Nat.not_lt_zero _)
  | succ m ih =>
    intro u hu hm'
    rw [show m_X7_reach_L57_25 (m + 1) = m_X7_reach_L57_25_b (m_X7_reach_L57_25 m) from rfl]
    unfold m_X7_reach_L57_25_b
    rw [s2, hs, oI1, n1]
    by_cases q : t ≤ u
    · rw [if_pos ((nle (by omega) (by omega)).mpr q)]
    · rw [if_neg (fun p => q ((nle (by omega) (by omega)).mp p)), if_pos ((b_ask0 (by omega)).mpr (hm u (by omega)))]
      exact ih (u + 1) (by omega) (by omega)
theorem rE_hit (t8 : t ≤ 8) (hE : E 60 2 = nI t) {s : Int32} {a K : Nat} (ha : a < 8) (hK : K ≤ 8) (hh : bt (itr E t (E 62 5) s K) a = true) (hm : ∀ j, j < K → bt (itr E t (E 62 5) s j) a = false) : ∀ (m u : Nat), u ≤ K → K - u < m → m_X8_reach_L32_21 m E (nI u) (itr E t (E 62 5) s u) (nI a) = nI K := by
  intro m
  induction m with
  | zero => intro u _ h0; exact absurd h0 (Nat.not_lt_zero _)
  | succ m ih =>
    intro u hu hm'
    rw [show m_X8_reach_L32_21 (m + 1) = m_X8_reach_L32_21_b (m_X8_reach_L32_21 m) from rfl]
    unfold m_X8_reach_L32_21_b
    rw [if_neg (fun q => by rw [nlt (by omega) (by omega)] at q; omega), more_E t8 hE, n1]
    by_cases q : u = K
    · subst q; rw [if_pos ((b_ask1 (by omega)).mpr hh)]
    · rw [if_neg (fun p => by rw [b_ask1 (by omega), hm u (by omega)] at p; cases p)]
      exact ih (u + 1) (by omega) (by omega)
theorem rE_miss (t8 : t ≤ 8) (hE : E 60 2 = nI t) {s : Int32} {a : Nat} (ha : a < 8) (hm : ∀ j, j ≤ 8 → bt (itr E t (E 62 5) s j) a = false) : ∀ (m u : Nat), u ≤ 9 → 9 - u < m → m_X8_reach_L32_21 m E (nI u) (itr E t (E 62 5) s u) (nI a) = -1 := by
  intro m
  induction m with
  | zero => intro u _ h0; exact absurd h0 (Nat.not_lt_zero _)
  | succ m ih =>
    intro u hu hm'
    rw [show m_X8_reach_L32_21 (m + 1) = m_X8_reach_L32_21_b (m_X8_reach_L32_21 m) from rfl]
    unfold m_X8_reach_L32_21_b
    by_cases q : 8 < u
    · rw [if_pos ((nlt (by omega) (by omega)).mpr q)]
    · rw [if_neg (fun p => q ((nlt (by omega) (by omega)).mp p)), more_E t8 hE, n1, if_neg (fun p => by rw [b_ask1 (by omega), hm u (by omega)] at p; cases p)]
      exact ih (u + 1) (by omega) (by omega)
end ST
theorem reach_E (h : RR C E) {x : Nat} (hx : x < 8) (he : E 62 0 = nI x) (a : Int32) : (m_X7_reach C a).1 = m_X8_reach E a := by
  obtain ⟨c, t, r, hc, e0, D⟩ := h.2.1.get
  have t8 := D.2.2.2.2.1
  have hJ := h.2.2.2.2.1
  by_cases h1 : a.toInt < 0 ∨ (t : Int) ≤ a.toInt
  · unfold m_X7_reach m_X8_reach
    rw [e0, if_pos ((townC D.2.2.1 t8).mpr h1), if_pos ((townE D.2.2.2.1 t8).mpr h1)]
  · have g1 : ¬ (m_X0_hasTown C c a = 0) := fun q => h1 ((townC D.2.2.1 t8).mp q)
    have g2 : ¬ (m_X8_isTown E a = 0) := fun q => h1 ((townE D.2.2.2.1 t8).mp q)
    obtain ⟨y, hy, rfl⟩ := ti_nat h1
    by_cases g : E 62 6 = 0
    · have gg : ¬ (m_X8_goesOn E = 0) := by
        unfold m_X8_goesOn; rw [r2, r6, D.2.2.2.1, if_neg (show ¬ (nI t ≤ 0) from nI_nle (by omega) (by omega)), if_pos g]; exact n1ne
      have f3 : ∀ k, fxN C E t (E 62 5) 8 3 k = C 3 k := fun k => by unfold fxN; rw [if_neg (fun q => by omega)]
      have f0 : ∀ k, fxN C E t (E 62 5) 8 0 k = C 0 k := fun k => by unfold fxN; rw [if_neg (fun q => by omega)]
      have fc : fxN C E t (E 62 5) 8 c 2 = nI t := by unfold fxN; rw [if_neg (fun q => by omega)]; exact D.2.2.1
      have e1 : m_X7_reach C (nI y) = m_X7_reach_L57_25 2000 (fxN C E t (E 62 5) 8) (nI 0) (nI 1 <<< (nI x &&& 31)) (nI y) := by
        simp only [m_X7_reach_L57_25_b, m_X7_reach_16, m_X7_reach, e0, if_neg g1, hJ 6 (by omega), if_pos g, hJ 5 (by omega), fill_E hc D, f3, h.here he]
      have e2 : m_X8_reach E (nI y) = m_X8_reach_L32_21 2000 E (nI 0) (nI 1 <<< (nI x &&& 31)) (nI y) := by
        simp only [m_X8_reach_L55_35_b, m_X8_reach_L32_21_b, m_X8_reach, if_neg g2, if_neg gg, r0, he]
      rw [e1, e2]
      have s2 : fxN C E t (E 62 5) 8 (rl (fxN C E t (E 62 5) 8 0 11)) 2 = nI t := by rw [f0, e0]; exact fc
      have hs : ∀ w, w ||| m_X7_exitsOf (fxN C E t (E 62 5) 8) w 45 = sx E t (E 62 5) w := fun w => sx_C t8 _ w
      by_cases q : ∃ k, k ≤ 8 ∧ bt (itr E t (E 62 5) (nI 1 <<< (nI x &&& 31)) k) y = true
      · obtain ⟨k, q1, q2⟩ := q
        obtain ⟨K, ⟨p1, p2⟩, p3⟩ := pk_least (fun k => k ≤ 8 ∧ bt (itr E t (E 62 5) (nI 1 <<< (nI x &&& 31)) k) y = true) ⟨k, q1, q2⟩
        have hm : ∀ j, j < K → bt (itr E t (E 62 5) (nI 1 <<< (nI x &&& 31)) j) y = false := fun j hj => by
          cases w : bt (itr E t (E 62 5) (nI 1 <<< (nI x &&& 31)) j) y
          · rfl
          · exact absurd ⟨by omega, w⟩ (p3 j hj)
        have hK : K < t := by
          obtain ⟨j, w1, w2, w3⟩ := withinT D (by omega) (E 62 5) hx p2
          by_cases w4 : j = K
          · omega
          · rw [hm j (by omega)] at w3; cases w3
        exact (rC_hit t8 s2 hs (by omega) hK p2 hm 2000 0 (by omega) (by omega)).trans (rE_hit t8 D.2.2.2.1 (by omega) p1 p2 hm 2000 0 (by omega) (by omega)).symm
      · have hm : ∀ j, j ≤ 8 → bt (itr E t (E 62 5) (nI 1 <<< (nI x &&& 31)) j) y = false := fun j hj => by
          cases w : bt (itr E t (E 62 5) (nI 1 <<< (nI x &&& 31)) j) y
          · rfl
          · exact absurd ⟨j, hj, w⟩ q
        exact (rC_miss t8 s2 hs (by omega) (fun j hj => hm j (by omega)) 2000 0 (by omega) (by omega)).trans (rE_miss t8 D.2.2.2.1 (by omega) hm 2000 0 (by omega) (by omega)).symm
    · have gg : m_X8_goesOn E = 0 := by
        unfold m_X8_goesOn; rw [r2, r6, D.2.2.2.1, if_neg (show ¬ (nI t ≤ 0) from nI_nle (by omega) (by omega)), if_neg g]; exact n0e
      unfold m_X7_reach m_X8_reach
      rw [e0, if_neg g1, hJ 6 (by omega), if_neg g, if_neg g2, if_pos gg]
end RE
