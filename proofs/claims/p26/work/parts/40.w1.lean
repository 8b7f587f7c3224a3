/-! told seals: ways from the first month on -/
noncomputable def fyN (C E : SS) (t : Nat) (sh : Int32) (n : Nat) : SS := fun i k => if i = 36 ∧ k < n then (if k < t then m_X8_walks E (nI k) sh else nI 0) else C i k
section AN3
variable {C E : SS}
theorem fyN_s {t n : Nat} {sh : Int32} : st (fyN C E t sh n) 36 n (if n < t then m_X8_walks E (nI n) sh else nI 0) = fyN C E t sh (n + 1) := by
  funext i' k'; unfold st fyN
  by_cases h1 : i' = 36
  · subst h1
    by_cases h2 : k' = n
    · subst h2; rw [if_pos ⟨rfl, rfl⟩, if_pos (show 36 = 36 ∧ k' < k' + 1 from ⟨rfl, by omega⟩)]
    · rw [if_neg (fun q => h2 q.2)]
      by_cases h3 : k' < n
      · rw [if_pos (show 36 = 36 ∧ k' < n from ⟨rfl, h3⟩), if_pos (show 36 = 36 ∧ k' < n + 1 from ⟨rfl, by omega⟩)]
      · rw [if_neg (fun q => h3 q.2), if_neg (fun q => by omega)]
  · rw [if_neg (fun q => h1 q.1), if_neg (fun q => h1 q.1), if_neg (fun q => h1 q.1)]
theorem filly_L {c t r : Nat} (hc : c = 46 ∨ c = 52) (D : DR C E c 60 t r) (sh : Int32) : ∀ (m k : Nat), k ≤ 8 → 8 - k < m → m_X0_fillExits_L2_2 m (fyN C E t sh k) (nI k) c 36 sh = fyN C E t sh 8 := by
  have t8 := D.2.2.2.2.1
  intro m
  induction m with
  | zero => intro k _ h0; exact absurd h0 (Nat.not_lt_zero _)
  | succ m ih =>
    intro k hk hm
    have fo : ∀ i j, i ≠ 36 → fyN C E t sh k i j = C i j := fun i j hi => by unfold fyN; rw [if_neg (fun q => hi q.1)]
    have D' : DR (fyN C E t sh k) E c 60 t r := D.cg hc (fun i a b => funext (fun j => fo i j (by omega))) rfl
    rw [show m_X0_fillExits_L2_2 (m + 1) = m_X0_fillExits_L2_2_b (m_X0_fillExits_L2_2 m) from rfl]
    by_cases h1 : 8 ≤ k
    · have e : k = 8 := by omega
      subst e
      simp only [m_X0_fillExits_23, m_X0_fillExits_14, m_X0_fillExits_L2_2_b, m_X0_fillExits, if_pos (show nI 8 ≤ nI 8 from (nle (by omega) (by omega)).mpr (by omega))]
    · have g1 : ¬ (nI 8 ≤ nI k) := fun q => h1 ((nle (by omega) (by omega)).mp q)
      by_cases h2 : t ≤ k
      · simp only [m_X0_fillExits_23, m_X0_fillExits_14, m_X0_fillExits_L2_2_b, m_X0_fillExits, if_neg g1, D'.2.2.1, if_pos (show nI t ≤ nI k from (nle (by omega) (by omega)).mpr h2), rlN (show k < 2147483648 by omega), oI1, n1]
        have := fyN_s (C := C) (E := E) (t := t) (n := k) (sh := sh)
        rw [if_neg (by omega)] at this
        rw [this]; exact ih (k + 1) (by omega) (by omega)
      · simp only [m_X0_fillExits_23, m_X0_fillExits_14, m_X0_fillExits_L2_2_b, m_X0_fillExits, if_neg g1, D'.2.2.1, if_neg (show ¬ (nI t ≤ nI k) from fun q => h2 ((nle (by omega) (by omega)).mp q)), rlN (show k < 2147483648 by omega), oI1, n1, walks_E D' (show k < 8 by omega) sh]
        have := fyN_s (C := C) (E := E) (t := t) (n := k) (sh := sh)
        rw [if_pos (by omega)] at this
        rw [this]; exact ih (k + 1) (by omega) (by omega)
theorem filly_E {c t r : Nat} (hc : c = 46 ∨ c = 52) (D : DR C E c 60 t r) (sh : Int32) : m_X0_fillExits C c 36 sh = fyN C E t sh 8 := by
  have hx := filly_L hc D sh 2000 0 (by omega) (by omega)
  rw [show fyN C E t sh 0 = C by funext i k; unfold fyN; rw [if_neg (fun q => by omega)]] at hx
  unfold m_X0_fillExits; exact hx
end AN3
section FT
variable {C E : SS}
theorem irmN {a n : Nat} (ha : a < 2147483648) (h0 : 0 < n) (hn : n < 2147483648) : irm (nI a) (nI n) = nI (a % n) := pk_rem ha h0 hn
def OS (T : Nat) (only set : Int32) (b : Bool) : Prop := (only = -1 ∧ set = nI 255 ∧ b = false) ∨ (∃ t, t < T ∧ only = nI t ∧ set = nI 1 <<< (nI t &&& 31) ∧ b = true) ∨ (only = -2 ∧ set = nI 0 ∧ b = true)
theorem nI_nm2 {u : Nat} (hu : u < 8) : ¬ ((-2 : Int32) = nI u) := fun q => by
  have := congrArg Int32.toInt q
  rw [nI_toInt (by omega), show (-2 : Int32).toInt = -2 by decide +kernel] at this
  omega
theorem m2m1 : ¬ ((-2 : Int32) = -1) := by decide +kernel
theorem b_nn255 : ∀ i, i < 32 → bt (nI 255) i = decide (i < 8) := by decide +kernel
theorem and_z (x : Int32) : x &&& nI 0 = nI 0 := by apply b_ext; intro i hi; rw [b_and, b_n0, Bool.and_false]
theorem z_and (x : Int32) : nI 0 &&& x = nI 0 := by apply b_ext; intro i hi; rw [b_and, b_n0, Bool.false_and]
theorem and_255 {t : Nat} (ht : t < 8) : nI 255 &&& (nI 1 <<< (nI t &&& 31)) = nI 1 <<< (nI t &&& 31) := by
  apply b_ext; intro i hi
  rw [b_and, b_nn255 i hi, b_one (by omega)]
  by_cases q : i = t
  · rw [decide_eq_true q, Bool.and_true]; exact decide_eq_true (by omega)
  · rw [decide_eq_false q, Bool.and_false]
theorem and_same {t : Nat} : (nI 1 <<< (nI t &&& 31)) &&& (nI 1 <<< (nI t &&& 31)) = nI 1 <<< (nI t &&& 31) := by apply b_ext; intro i hi; rw [b_and, Bool.and_self]
theorem and_diff {t u : Nat} (ht : t < 8) (hu : u < 8) (h : t ≠ u) : (nI 1 <<< (nI t &&& 31)) &&& (nI 1 <<< (nI u &&& 31)) = nI 0 := by
  apply b_ext; intro i hi
  rw [b_and, b_one (by omega), b_one (by omega), b_n0]
  by_cases q : i = t
  · rw [decide_eq_false (show ¬ i = u by omega), Bool.and_false]
  · rw [decide_eq_false q, Bool.false_and]
theorem notes_L {c T r q mo : Nat} (D : DR C E c 60 T r) (hq : q ≤ 8) (hmo : mo < 48) (c0 : C 33 0 = nI q) (e0 : E 58 11 = nI q) (hn : ∀ j, j < q → ∃ t m, t < rl (E 60 2) ∧ m < 48 ∧ C 34 j = nI t ∧ C 35 j = nI m ∧ E 66 j = nI (48 * t + m)) (but : Int32) : ∀ (m u : Nat) (only set : Int32) (b : Bool), u ≤ q → q - u < m → OS T only set b → OS T (m_X8_onlyIn_L5_3 m E (nI u) only (nI mo) but) (m_X6_staysIn_L8_3 m C (nI u) set c (nI mo) but) (b || decide (m_X6_isTold_L2_2 m C (nI u) (nI mo) but = nI 1)) := by
  have T8 := D.2.2.2.2.1
  intro m
  induction m with
  | zero => intro u only set b _ h0; exact absurd h0 (Nat.not_lt_zero _)
  | succ m ih =>
    intro u only set b hu hm hO
    rw [show m_X8_onlyIn_L5_3 (m + 1) = m_X8_onlyIn_L5_3_b (m_X8_onlyIn_L5_3 m) from rfl, show m_X6_staysIn_L8_3 (m + 1) = m_X6_staysIn_L8_3_b (m_X6_staysIn_L8_3 m) from rfl, show m_X6_isTold_L2_2 (m + 1) = m_X6_isTold_L2_2_b (m_X6_isTold_L2_2 m) from rfl]
    unfold m_X8_onlyIn_L5_3_b m_X6_staysIn_L8_3_b m_X6_isTold_L2_2_b
    rw [c0, e0, oI1, n1]
    by_cases h1 : q ≤ u
    · have g := (nle (a := q) (b := u) (by omega) (by omega)).mpr h1
      rw [if_pos g, if_pos g, if_pos g, decide_eq_false n10, Bool.or_false]; exact hO
    · have g : ¬ (nI q ≤ nI u) := fun z => h1 ((nle (by omega) (by omega)).mp z)
      rw [if_neg g, if_neg g, if_neg g]
      by_cases h2 : nI u = but
      · rw [if_pos h2, if_pos h2, if_pos h2]; exact ih (u + 1) only set b (by omega) (by omega) hO
      · rw [if_neg h2, if_neg h2, if_neg h2]
        obtain ⟨t, mm, z1, z2, z3, z4, z5⟩ := hn u (by omega)
        rw [D.2.2.2.1, rlN (by omega)] at z1
        rw [rlN (show u < 2147483648 by omega), z3, z4, z5, irmN (by omega) (by omega) (by omega), show nI (48 * t + mm) / nI 48 = nI ((48 * t + mm) / 48) from pk_div (by omega) (by omega) (by omega), show (48 * t + mm) % 48 = mm by omega, show (48 * t + mm) / 48 = t by omega]
        by_cases h3 : nI mm = nI mo
        · rw [if_pos h3, if_pos h3, if_pos h3, decide_eq_true (rfl : nI 1 = nI 1), Bool.or_true]
          have fin : ∀ only' set', OS T only' set' true → OS T (m_X8_onlyIn_L5_3 m E (nI (u + 1)) only' (nI mo) but) (m_X6_staysIn_L8_3 m C (nI (u + 1)) set' c (nI mo) but) true := fun only' set' hO' => by
            have := ih (u + 1) only' set' true (by omega) (by omega) hO'
            rw [Bool.true_or] at this; exact this
          obtain ⟨w1, w2⟩ := work_E D (show t < 8 by omega) (nI mo)
          rw [w1]
          rcases w2 with p | ⟨p, _⟩
          · rw [p, if_pos n0e, if_pos n0e, and_z]
            exact fin _ _ (Or.inr (Or.inr ⟨rfl, rfl, rfl⟩))
          · rw [p, if_neg n1ne, if_neg n1ne]
            rcases hO with ⟨o1, o2, o3⟩ | ⟨t', o0, o1, o2, o3⟩ | ⟨o1, o2, o3⟩
            · rw [o1, if_pos rfl, o2, and_255 (by omega)]
              exact fin _ _ (Or.inr (Or.inl ⟨t, z1, rfl, rfl, rfl⟩))
            · rw [o1, if_neg (nI_nm (by omega)), o2]
              by_cases h4 : t' = t
              · subst h4
                rw [if_pos rfl, and_same]
                exact fin _ _ (Or.inr (Or.inl ⟨t', z1, rfl, rfl, rfl⟩))
              · rw [if_neg (fun z => h4 ((neq (by omega) (by omega)).mp z)), and_diff (by omega) (by omega) h4]
                exact fin _ _ (Or.inr (Or.inr ⟨rfl, rfl, rfl⟩))
            · rw [o1, if_neg m2m1, if_neg (nI_nm2 (by omega)), o2, z_and]
              exact fin _ _ (Or.inr (Or.inr ⟨rfl, rfl, rfl⟩))
        · rw [if_neg h3, if_neg h3, if_neg h3]; exact ih (u + 1) only set b (by omega) (by omega) hO
theorem notes_E {c T r mo : Nat} (h : RR C E) (D : DR C E c 60 T r) (hmo : mo < 48) (but : Int32) : OS T (m_X8_onlyIn E (nI mo) but) (m_X6_staysIn C c (nI mo) but) (decide (m_X6_isTold C (nI mo) but = nI 1)) := by
  obtain ⟨q, a1, a2, a3, a4⟩ := h.2.2.1.1
  have := notes_L D a1 hmo a2 a3 a4 but 2000 0 (-1) (nI 255) false (by omega) (by omega) (Or.inl ⟨rfl, rfl, rfl⟩)
  rw [Bool.false_or] at this
  exact this
theorem told01 {σ : SS} {a b : Int32} : ∀ (m : Nat) (u : Int32), m_X6_isTold_L2_2 m σ u a b = nI 0 ∨ m_X6_isTold_L2_2 m σ u a b = nI 1 := by
  intro m
  induction m with
  | zero => intro u; exact Or.inl nI_0.symm
  | succ m ih =>
    intro u
    rw [show m_X6_isTold_L2_2 (m + 1) = m_X6_isTold_L2_2_b (m_X6_isTold_L2_2 m) from rfl]
    unfold m_X6_isTold_L2_2_b
    split
    · exact Or.inl rfl
    · split
      · exact ih _
      · split
        · exact Or.inr rfl
        · exact ih _
theorem told0 {σ : SS} {a b : Int32} : (m_X6_isTold σ a b = 0) ↔ decide (m_X6_isTold σ a b = nI 1) = false := by
  unfold m_X6_isTold
  rcases told01 (σ := σ) (a := a) (b := b) 2000 (nI 0) with q | q
  · rw [q]; exact ⟨fun _ => decide_eq_false n10, fun _ => n0e⟩
  · rw [q]; exact ⟨fun z => absurd z n1ne, fun z => by rw [decide_eq_true (rfl : nI 1 = nI 1)] at z; cases z⟩
/-- a month of the class's rows -/
noncomputable def stepA (E : SS) (T R : Nat) (set : Int32) (b : Bool) (M : Nat → Int32) : Nat → Int32 := fun p => if p = 0 then (if b then nI 0 else orx (fun u => m_X8_walks E (nI u) (nI 0)) (un M 5) T) else if p ≤ R then M (p - 1) &&& set else nI 0
theorem stepA_OB {c T r R : Nat} (D : DR C E c 60 T r) (hR : R ≤ 4) (h0 : E 60 0 = nI R) {only set : Int32} {b : Bool} (hO : OS T only set b) {M : Nat → Int32} {L : Int64} (h : OB T M L) : OB T (stepA E T R set b M) (m_X8_goes E L (nI 0) only) := by
  have hT := D.2.2.2.2.1
  have h2 := D.2.2.2.1
  refine ⟨fun t p ht hp => ?_, fun p k hp hb => ?_, fun k hk => ?_⟩
  · apply Bool.eq_iff_iff.mpr
    rw [goes_b hT h2 hR h0]
    unfold stepA
    rcases hO with ⟨o1, o2, o3⟩ | ⟨t0, o0, o1, o2, o3⟩ | ⟨o1, o2, o3⟩
    · subst o1; subst o2; subst o3
      by_cases q : p = 0
      · subst q
        rw [if_pos rfl, if_neg (show ¬ (false = true) by decide), orx_iff]
        constructor
        · rintro ⟨u, u1, u2, u3⟩
          obtain ⟨p', p1, p2⟩ := (un_b 5).mp u2
          rw [h.1 u p' u1 p1] at p2
          exact ⟨u, p', u1, p1, p2, Or.inr ⟨rfl, t, ht, u3, by omega⟩⟩
        · rintro ⟨u, p', w, p1, p2, ⟨_, _, h5⟩ | ⟨_, v, h6, h7, h8⟩⟩
          · omega
          · have ev : v = t := by omega
            subst ev
            exact ⟨u, w, (un_b 5).mpr ⟨p', p1, by rw [h.1 u p' w p1]; exact p2⟩, h7⟩
      · rw [if_neg q]
        by_cases w : p ≤ R
        · rw [if_pos w, b_and, b_nn255 t (by omega), decide_eq_true (show t < 8 by omega), Bool.and_true, h.1 t (p - 1) ht (by omega)]
          constructor
          · intro z; exact ⟨t, p - 1, ht, by omega, z, Or.inl ⟨by omega, Or.inl rfl, by omega⟩⟩
          · rintro ⟨t', p', w1, p1, p2, ⟨_, _, h5⟩ | ⟨_, v, h6, h7, h8⟩⟩
            · have e1 : t' = t := by omega
              have e2 : p' = p - 1 := by omega
              subst e1; subst e2; exact p2
            · omega
        · rw [if_neg w, b_n0]
          constructor
          · intro z; cases z
          · rintro ⟨t', p', w1, p1, p2, ⟨_, _, h5⟩ | ⟨_, v, h6, h7, h8⟩⟩
            · omega
            · omega
    · subst o1; subst o2; subst o3
      have nm := nI_nm (u := t0) (by omega)
      by_cases q : p = 0
      · subst q
        rw [if_pos rfl, if_pos (rfl : true = true), b_n0]
        constructor
        · intro z; cases z
        · rintro ⟨u, p', w, p1, p2, ⟨_, _, h5⟩ | ⟨z, _⟩⟩
          · omega
          · exact absurd z nm
      · rw [if_neg q]
        by_cases w : p ≤ R
        · rw [if_pos w, b_and, Bool.and_eq_true, b_one (by omega), decide_eq_true_eq, h.1 t (p - 1) ht (by omega)]
          constructor
          · rintro ⟨z, z2⟩; subst z2; exact ⟨t, p - 1, ht, by omega, z, Or.inl ⟨by omega, Or.inr rfl, by omega⟩⟩
          · rintro ⟨t', p', w1, p1, p2, ⟨_, h4, h5⟩ | ⟨z, _⟩⟩
            · have e1 : t' = t := by omega
              have e2 : p' = p - 1 := by omega
              subst e1; subst e2
              rcases h4 with z | z
              · exact absurd z nm
              · exact ⟨p2, ((neq (by omega) (by omega)).mp z).symm⟩
            · exact absurd z nm
        · rw [if_neg w, b_n0]
          constructor
          · intro z; cases z
          · rintro ⟨t', p', w1, p1, p2, ⟨_, _, h5⟩ | ⟨z, _⟩⟩
            · omega
            · exact absurd z nm
    · subst o1; subst o2; subst o3
      have e : bt (if p = 0 then (if true = true then nI 0 else orx (fun u => m_X8_walks E (nI u) (nI 0)) (un M 5) T) else if p ≤ R then M (p - 1) &&& nI 0 else nI 0) t = false := by
        rw [if_pos (rfl : true = true), and_z, ite_self, ite_self, b_n0]
      rw [e]
      constructor
      · intro z; cases z
      · rintro ⟨t', p', w1, p1, p2, ⟨_, z | z, _⟩ | ⟨z, _⟩⟩
        · exact absurd z m2m1
        · exact absurd z (nI_nm2 (by omega))
        · exact absurd z m2m1
  · unfold stepA at hb
    by_cases q : p = 0
    · rw [if_pos q] at hb
      cases b
      · rw [if_neg (show ¬ (false = true) by decide), orx_iff] at hb
        obtain ⟨u, u1, _, u3⟩ := hb
        exact walks_lt D (by omega) (nI 0) u3
      · rw [if_pos (rfl : true = true), b_n0] at hb; cases hb
    · rw [if_neg q] at hb
      by_cases w : p ≤ R
      · rw [if_pos w, b_and, Bool.and_eq_true] at hb; exact h.2.1 (p - 1) k (by omega) hb.1
      · rw [if_neg w, b_n0] at hb; cases hb
  · rw [goes_b hT h2 hR h0] at hk
    obtain ⟨t', p', w1, p1, p2, ⟨h4, _, h5⟩ | ⟨_, v, h6, h7, h8⟩⟩ := hk
    · exact ⟨t', p' + 1, w1, by omega, by omega⟩
    · exact ⟨v, 0, h6, by omega, by omega⟩
noncomputable def rowA (C E : SS) (c T R : Nat) (but : Int32) : Nat → Nat → Int32
  | 0 => fun p => if p = 0 ∧ 0 < T then nI 1 else nI 0
  | m + 1 => stepA E T R (m_X6_staysIn C c (nI m) but) (decide (m_X6_isTold C (nI m) but = nI 1)) (rowA C E c T R but m)
noncomputable def wayE (E : SS) (T : Nat) (but : Int32) : Nat → Int64
  | 0 => if T = 0 then 0 else lB 0
  | m + 1 => m_X8_goes E (wayE E T but m) (nI 0) (m_X8_onlyIn E (nI m) but)
theorem b_n1' (k : Nat) : bt (nI 1) k = decide (k = 0) := by
  rcases Nat.lt_or_ge k 32 with h | h
  · exact b_n1 k h
  · rw [b_big h, decide_eq_false (by omega)]
theorem row_OB {c T r R : Nat} (h : RR C E) (D : DR C E c 60 T r) (hR : R ≤ 4) (h0 : E 60 0 = nI R) (but : Int32) : ∀ m, m ≤ 48 → OB T (rowA C E c T R but m) (wayE E T but m) := by
  have hT := D.2.2.2.2.1
  intro m
  induction m with
  | zero =>
    intro _
    have eL : ∀ k, lb (wayE E T but 0) k = (decide (0 < T) && decide (k = 0)) := fun k => by
      show lb (if T = 0 then 0 else lB 0) k = _
      by_cases q : T = 0
      · rw [if_pos q, l_0, decide_eq_false (show ¬ 0 < T by omega), Bool.false_and]
      · rw [if_neg q, l_bit (by omega), decide_eq_true (show 0 < T by omega), Bool.true_and]
    have eM : ∀ p k, bt (rowA C E c T R but 0 p) k = (decide (0 < T) && (decide (p = 0) && decide (k = 0))) := fun p k => by
      show bt (if p = 0 ∧ 0 < T then nI 1 else nI 0) k = _
      by_cases q : p = 0 ∧ 0 < T
      · rw [if_pos q, b_n1', decide_eq_true q.1, decide_eq_true q.2, Bool.true_and, Bool.true_and]
      · rw [if_neg q, b_n0]
        by_cases q2 : 0 < T
        · rw [decide_eq_false (show ¬ p = 0 from fun z => q ⟨z, q2⟩), Bool.false_and, Bool.and_false]
        · rw [decide_eq_false q2, Bool.false_and]
    refine ⟨fun t p ht hp => ?_, fun p k hp hb => ?_, fun k hk => ?_⟩
    · rw [eM, eL]
      congr 1
      by_cases q : p = 0
      · subst q; rw [decide_eq_true (rfl : 0 = 0), Bool.true_and, decide_eq_decide]; omega
      · rw [decide_eq_false q, Bool.false_and]; exact (decide_eq_false (by omega)).symm
    · rw [eM, Bool.and_eq_true, Bool.and_eq_true, decide_eq_true_eq, decide_eq_true_eq, decide_eq_true_eq] at hb; omega
    · rw [eL, Bool.and_eq_true, decide_eq_true_eq, decide_eq_true_eq] at hk
      exact ⟨0, 0, hk.1, by omega, by omega⟩
  | succ m ih =>
    intro hm
    exact stepA_OB D hR h0 (notes_E h D (by omega) but) (ih (by omega))
/-- the class's rows as far as they are filled -/
noncomputable def swN (σ C E : SS) (c T R : Nat) (but : Int32) (N : Nat) : SS := fun i k => if i = 37 ∧ k < N then rowA C E c T R but (k / 5) (k % 5) else σ i k
theorem swN_s {σ : SS} {c T R : Nat} {but : Int32} {N : Nat} : st (swN σ C E c T R but N) 37 N (rowA C E c T R but (N / 5) (N % 5)) = swN σ C E c T R but (N + 1) := by
  funext i' k'; unfold st swN
  by_cases h1 : i' = 37
  · subst h1
    by_cases h2 : k' = N
    · subst h2; rw [if_pos ⟨rfl, rfl⟩, if_pos ⟨rfl, by omega⟩]
    · rw [if_neg (fun q => h2 q.2)]
      by_cases h3 : k' < N
      · rw [if_pos ⟨rfl, h3⟩, if_pos ⟨rfl, by omega⟩]
      · rw [if_neg (fun q => h3 q.2), if_neg (fun q => by omega)]
  · rw [if_neg (fun q => h1 q.1), if_neg (fun q => h1 q.1), if_neg (fun q => h1 q.1)]
theorem un6_L {σ : SS} {a mo : Nat} (hmo : mo ≤ 48) : ∀ (m u : Nat), u ≤ 5 → 5 - u < m → m_X6_union_L4_3 m σ (nI u) (un (fun p => σ a (5 * mo + p)) u) a (nI mo) = un (fun p => σ a (5 * mo + p)) 5 := by
  intro m
  induction m with
  | zero => intro u _ h0; exact absurd h0 (Nat.not_lt_zero _)
  | succ m ih =>
    intro u hu hm
    rw [show m_X6_union_L4_3 (m + 1) = m_X6_union_L4_3_b (m_X6_union_L4_3 m) from rfl]
    unfold m_X6_union_L4_3_b
    rw [oI1, n1, pk_mul, nI_add, rlN (show mo * 5 + u < 2147483648 by omega), show mo * 5 + u = 5 * mo + u by omega]
    by_cases h1 : 5 ≤ u
    · rw [if_pos ((nle (by omega) (by omega)).mpr h1), show u = 5 by omega]
    · rw [if_neg (fun q => h1 ((nle (by omega) (by omega)).mp q))]
      exact ih (u + 1) (by omega) (by omega)
theorem un6_E {σ : SS} {a mo : Nat} (hmo : mo ≤ 48) : m_X6_union σ a (nI mo) = un (fun p => σ a (5 * mo + p)) 5 := by
  unfold m_X6_union; exact un6_L hmo 2000 0 (by omega) (by omega)
end FT
