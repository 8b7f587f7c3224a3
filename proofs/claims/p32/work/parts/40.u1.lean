/-! ===== lN n to 2^64: shifts, and, or, masks, one bit ===== -/
theorem wb_tb (n : Nat) : (lN n).toBitVec = BitVec.ofNat 64 n := rfl
theorem wb_inj {a b : Int64} (h : a.toBitVec = b.toBitVec) : a = b := Int64.toBitVec_inj.mp h
theorem wb_tn {n : Nat} (h : n < 2 ^ 64) : (lN n).toBitVec.toNat = n := by rw [wb_tb, BitVec.toNat_ofNat, Nat.mod_eq_of_lt h]
theorem wb_of (x : Int64) : ∃ n, n < 2 ^ 64 ∧ x = lN n := ⟨x.toBitVec.toNat, x.toBitVec.isLt, wb_inj (by rw [wb_tb]; simp)⟩
theorem wb_of32 (x : Int32) : ∃ n, n < 2 ^ 32 ∧ x = nI n := ⟨x.toBitVec.toNat, x.toBitVec.isLt, Int32.toBitVec_inj.mp (by show _ = BitVec.ofNat 32 _; simp)⟩
theorem wb_c : ∀ k, k < 64 → ((nI k).toInt64 &&& 63) = lN k := by decide +kernel
theorem wb_cu : ∀ k, k < 64 → ((nI k).toInt64.toUInt64 &&& Int64.toUInt64 63) = UInt64.ofNat k := by decide +kernel
theorem wb_sm : ∀ k, k < 64 → (BitVec.ofNat 64 k).smod 64 = BitVec.ofNat 64 k := by decide +kernel
theorem wb_lt2 {a b : Nat} (h : a < b) : 2 ^ a < 2 ^ b := Nat.pow_lt_pow_right (by decide) h
theorem wb_and {a b : Nat} (ha : a < 2 ^ 64) (hb : b < 2 ^ 64) : lN a &&& lN b = lN (a &&& b) := by
  apply wb_inj
  rw [Int64.toBitVec_and, wb_tb, wb_tb, wb_tb]
  apply BitVec.eq_of_toNat_eq
  rw [BitVec.toNat_and, BitVec.toNat_ofNat, BitVec.toNat_ofNat, BitVec.toNat_ofNat, Nat.mod_eq_of_lt ha, Nat.mod_eq_of_lt hb, Nat.mod_eq_of_lt (Nat.and_lt_two_pow _ hb)]
theorem wb_mask {n k : Nat} (hn : n < 2 ^ 64) (hk : k < 64) : lN n &&& lN (2 ^ k - 1) = lN (n % 2 ^ k) := by
  rw [wb_and hn (by have := wb_lt2 hk; omega), Nat.and_two_pow_sub_one_eq_mod]
/-! draws, drift -/
section DF
variable {C E : SS}
theorem irm_n {a n : Nat} (ha : a < 2147483648) (h0 : 0 < n) (hn : n < 2147483648) : irm (nI a) (nI n) = nI (a % n) := pk_rem ha h0 hn
theorem draw_E {s n : Nat} (hs : s < 2147483648) (h0 : 0 < n) (hn : n < 2147483648) (hc : C 0 14 = nI s) (he : E 58 9 = nI s) : ∃ s' w, s' < 2147483648 ∧ w < n ∧ m_X7_draw C (nI n) = (nI w, st C 0 14 (nI s')) ∧ m_X8_draw E (nI n) = (nI w, st E 58 9 (nI s')) := by
  have hN : s * 1103515245 + 12345 < 2 ^ 62 := by omega
  have e0 : ((nI s).toInt64 * (1103515245 : Int64)) + (12345 : Int64) = lN (s * 1103515245 + 12345) := by
    rw [nI_l hs, show (1103515245 : Int64) = lN 1103515245 from rfl, show (12345 : Int64) = lN 12345 from rfl, lN_mul, lN_add]
  have e1 : lN (s * 1103515245 + 12345) &&& (2147483647 : Int64) = lN ((s * 1103515245 + 12345) % 2147483648) := by
    have := wb_mask (n := s * 1103515245 + 12345) (k := 31) (by omega) (by omega)
    exact this
  have e2 : lrm (lN (s * 1103515245 + 12345)) (2147483648 : Int64) = lN ((s * 1103515245 + 12345) % 2147483648) := by
    unfold lrm
    rw [show (2147483648 : Int64) = lN 2147483648 from rfl]
    exact pk_lRem (by omega) (by omega) (by omega)
  have hs' : (s * 1103515245 + 12345) % 2147483648 < 2147483648 := Nat.mod_lt _ (by omega)
  generalize (s * 1103515245 + 12345) % 2147483648 = s' at e1 e2 hs'
  have hd : s' / 65536 < 2147483648 := Nat.lt_of_le_of_lt (Nat.div_le_self _ _) hs'
  have e3 : nI s' / (65536 : Int32) = nI (s' / 65536) := by
    rw [show (65536 : Int32) = nI 65536 from rfl]; exact pk_div hs' (by omega) (by omega)
  have e4 : (lN s' / (65536 : Int64)).toInt32 = nI (s' / 65536) := by
    rw [show (65536 : Int64) = lN 65536 from rfl, pk_lDiv (by omega) (by omega) (by omega), lN_i]
  refine ⟨s', (s' / 65536) % n, hs', Nat.mod_lt _ h0, ?_, ?_⟩
  · simp only [m_X7_draw_14, m_X7_draw, hc, e0, e1, lN_i, st_eq, e3, irm_n hd h0 hn]
    rw [if_neg (nI_nle h0 hn)]
  · simp only [m_X8_draw_16, m_X8_draw, he, e0, e2, lN_i, e4, irm_n hd h0 hn]
theorem drawR (h : RR C E) {n : Nat} (h0 : 0 < n) (hn : n < 2147483648) : ∃ w C' E', w < n ∧ m_X7_draw C (nI n) = (nI w, C') ∧ m_X8_draw E (nI n) = (nI w, E') ∧ RR C' E' ∧ (∀ i k, (i ≠ 0 ∨ k ≠ 14) → C' i k = C i k) ∧ (∀ i k, (i ≠ 58 ∨ k ≠ 9) → E' i k = E i k) := by
  obtain ⟨a1, a2, a3, a4, a5, ⟨s, b1, b2, b3⟩, a7, a8⟩ := h
  obtain ⟨s', w, c1, c2, c3, c4⟩ := draw_E b1 h0 hn b2 b3
  refine ⟨w, _, _, c2, c3, c4, ⟨a1.cg rfl rfl rfl rfl rfl rfl, a2.cg rfl rfl (fun i p1 p2 => ?_) rfl, a3.cg rfl rfl rfl rfl rfl rfl rfl rfl rfl rfl, a4.cg rfl rfl, a5.cg rfl rfl, ⟨s', c1, st_eq, st_eq⟩, a7.cg rfl rfl (fun i p1 p2 => ?_) rfl rfl, a8.cg rfl rfl rfl rfl rfl⟩, fun i k hq => ?_, fun i k hq => ?_⟩
  · funext k; rw [st_ni (by omega)]
  · funext k; rw [st_ni (by omega)]
  · exact if_neg (fun q => by omega)
  · exact if_neg (fun q => by omega)
def lst (w : Int32) : Nat → Int32 → Int32
  | 0, f => f
  | j + 1, f => lst w j (if bt w j then nI j else f)
def ix : Nat → Int32
  | 0 => -1
  | j + 1 => nI j
theorem ix_s (j : Nat) : nI j + Int32.ofInt (-1) = ix j := by
  cases j with
  | zero => decide +kernel
  | succ n => rw [show Int32.ofInt (-1) = (-1 : Int32) by decide +kernel]; exact pk_m1 n
theorem least_L (w : Int32) (σ : SS) : ∀ (m j : Nat) (f : Int32), j ≤ 8 → j < m → m_X8_least_L5_3 m σ (ix j) f w = lst w j f := by
  intro m
  induction m with
  | zero => intro j f _ h0; exact absurd h0 (Nat.not_lt_zero _)
  | succ m ih =>
    intro j f hj hm
    rw [show m_X8_least_L5_3 (m + 1) = m_X8_least_L5_3_b (m_X8_least_L5_3 m) from rfl]
    unfold m_X8_least_L5_3_b
    cases j with
    | zero => rw [if_pos (show ix 0 < 0 by decide +kernel)]; rfl
    | succ j =>
      rw [show ix (j + 1) = nI j from rfl, if_neg (nI_pos (by omega)), ix_s]
      show _ = lst w j (if bt w j then nI j else f)
      cases q : bt w j
      · rw [if_neg (fun p => by rw [b_ask1 (by omega), q] at p; cases p), if_neg (show ¬ (false = true) by decide)]
        exact ih j f (by omega) (by omega)
      · rw [if_pos ((b_ask1 (by omega)).mpr q), if_pos (rfl : true = true)]
        exact ih j (nI j) (by omega) (by omega)
theorem least_E (w : Int32) (σ : SS) : m_X8_least σ w = lst w 8 (-1) := least_L w σ 2000 8 (-1) (by omega) (by omega)
theorem lst_none {w : Int32} : ∀ (n : Nat) (f : Int32), (∀ k, k < n → bt w k = false) → lst w n f = f := by
  intro n
  induction n with
  | zero => intro f _; rfl
  | succ n ih =>
    intro f h
    show lst w n (if bt w n then nI n else f) = f
    rw [h n (by omega), if_neg (show ¬ (false = true) by decide)]
    exact ih f (fun k hk => h k (by omega))
theorem lst_first {w : Int32} {u : Nat} (hu : bt w u = true) (hb : ∀ k, k < u → bt w k = false) : ∀ (n : Nat) (f : Int32), u < n → lst w n f = nI u := by
  intro n
  induction n with
  | zero => intro f h; omega
  | succ n ih =>
    intro f h
    show lst w n (if bt w n then nI n else f) = nI u
    by_cases q : u = n
    · subst q; rw [hu, if_pos (rfl : true = true)]; exact lst_none u _ hb
    · exact ih _ (by omega)
theorem nI_nm {u : Nat} (hu : u < 8) : ¬ (nI u = -1) := fun q => by
  have := congrArg Int32.toInt q
  rw [nI_toInt (by omega), show (-1 : Int32).toInt = -1 by decide +kernel] at this
  omega
theorem go_L0 {t : Nat} (ht : t ≤ 8) {w : Int32} (hw : ∀ k, bt w k = true → k < t) (h2 : C (rl (C 0 11)) 2 = nI t) : ∀ (m u : Nat), u ≤ t → t - u < m → (∀ k, k < u → bt w k = false) → m_X7_driftMonth_L92_259 m C (nI u) w = if lst w 8 (-1) = -1 then C else m_X1_walkMonth C 3 (lst w 8 (-1)) := by
  intro m
  induction m with
  | zero => intro u _ h0; exact absurd h0 (Nat.not_lt_zero _)
  | succ m ih =>
    intro u hu hm hb
    rw [show m_X7_driftMonth_L92_259 (m + 1) = m_X7_driftMonth_L92_259_b (m_X7_driftMonth_L92_259 m) from rfl]
    unfold m_X7_driftMonth_L92_259_b
    rw [h2]
    by_cases h1 : t ≤ u
    · rw [if_pos ((nle (by omega) (by omega)).mpr h1), lst_none 8 (-1) (fun k hk => by
        cases q : bt w k
        · rfl
        · have := hw k q; rw [hb k (by omega)] at q; cases q), if_pos rfl]
    · rw [if_neg (fun q => h1 ((nle (by omega) (by omega)).mp q)), oI1, n1]
      cases q : bt w u
      · rw [if_pos ((b_ask0 (by omega)).mpr q)]
        exact ih (u + 1) (by omega) (by omega) (fun k hk => by
          by_cases p : k = u
          · subst p; exact q
          · exact hb k (by omega))
      · rw [if_neg (fun p => by rw [b_ask0 (by omega), q] at p; cases p), lst_first q hb 8 (-1) (by omega), if_neg (nI_nm (by omega))]
        simp only [m_X7_driftMonth_289, m_X7_driftMonth_281, m_X7_driftMonth_L92_259_b, m_X7_driftMonth_241, m_X7_driftMonth_L92_219_b, m_X7_driftMonth_208, m_X7_driftMonth_203, m_X7_driftMonth_195, m_X7_driftMonth_185, m_X7_driftMonth_177, m_X7_driftMonth_L92_155_b, m_X7_driftMonth_137, m_X7_driftMonth_L92_115_b, m_X7_driftMonth_104, m_X7_driftMonth_92, m_X7_driftMonth_84, m_X7_driftMonth_L92_62_b, m_X7_driftMonth_44, m_X7_driftMonth_L92_22_b, m_X7_driftMonth_11, m_X7_driftMonth_4, m_X7_driftMonth]
theorem go_L1 {t : Nat} (ht : t ≤ 8) {w : Int32} (hw : ∀ k, bt w k = true → k < t) (h2 : C (rl (C 0 11)) 2 = nI t) : ∀ (m u : Nat), u ≤ t → t - u < m → (∀ k, k < u → bt w k = false) → m_X7_driftMonth_L92_219 m C (nI u) w = if lst w 8 (-1) = -1 then C else m_X1_walkMonth C 3 (lst w 8 (-1)) := by
  intro m
  induction m with
  | zero => intro u _ h0; exact absurd h0 (Nat.not_lt_zero _)
  | succ m ih =>
    intro u hu hm hb
    rw [show m_X7_driftMonth_L92_219 (m + 1) = m_X7_driftMonth_L92_219_b (m_X7_driftMonth_L92_219 m) from rfl]
    unfold m_X7_driftMonth_L92_219_b
    rw [h2]
    by_cases h1 : t ≤ u
    · rw [if_pos ((nle (by omega) (by omega)).mpr h1), lst_none 8 (-1) (fun k hk => by
        cases q : bt w k
        · rfl
        · have := hw k q; rw [hb k (by omega)] at q; cases q), if_pos rfl]
    · rw [if_neg (fun q => h1 ((nle (by omega) (by omega)).mp q)), oI1, n1]
      cases q : bt w u
      · rw [if_pos ((b_ask0 (by omega)).mpr q)]
        exact ih (u + 1) (by omega) (by omega) (fun k hk => by
          by_cases p : k = u
          · subst p; exact q
          · exact hb k (by omega))
      · rw [if_neg (fun p => by rw [b_ask0 (by omega), q] at p; cases p), lst_first q hb 8 (-1) (by omega), if_neg (nI_nm (by omega))]
        simp only [m_X7_driftMonth_289, m_X7_driftMonth_281, m_X7_driftMonth_L92_259_b, m_X7_driftMonth_241, m_X7_driftMonth_L92_219_b, m_X7_driftMonth_208, m_X7_driftMonth_203, m_X7_driftMonth_195, m_X7_driftMonth_185, m_X7_driftMonth_177, m_X7_driftMonth_L92_155_b, m_X7_driftMonth_137, m_X7_driftMonth_L92_115_b, m_X7_driftMonth_104, m_X7_driftMonth_92, m_X7_driftMonth_84, m_X7_driftMonth_L92_62_b, m_X7_driftMonth_44, m_X7_driftMonth_L92_22_b, m_X7_driftMonth_11, m_X7_driftMonth_4, m_X7_driftMonth]
theorem go_L2 {t : Nat} (ht : t ≤ 8) {w : Int32} (hw : ∀ k, bt w k = true → k < t) (h2 : C (rl (C 0 11)) 2 = nI t) : ∀ (m u : Nat), u ≤ t → t - u < m → (∀ k, k < u → bt w k = false) → m_X7_driftMonth_L92_155 m C (nI u) w = if lst w 8 (-1) = -1 then C else m_X1_walkMonth C 3 (lst w 8 (-1)) := by
  intro m
  induction m with
  | zero => intro u _ h0; exact absurd h0 (Nat.not_lt_zero _)
  | succ m ih =>
    intro u hu hm hb
    rw [show m_X7_driftMonth_L92_155 (m + 1) = m_X7_driftMonth_L92_155_b (m_X7_driftMonth_L92_155 m) from rfl]
    unfold m_X7_driftMonth_L92_155_b
    rw [h2]
    by_cases h1 : t ≤ u
    · rw [if_pos ((nle (by omega) (by omega)).mpr h1), lst_none 8 (-1) (fun k hk => by
        cases q : bt w k
        · rfl
        · have := hw k q; rw [hb k (by omega)] at q; cases q), if_pos rfl]
    · rw [if_neg (fun q => h1 ((nle (by omega) (by omega)).mp q)), oI1, n1]
      cases q : bt w u
      · rw [if_pos ((b_ask0 (by omega)).mpr q)]
        exact ih (u + 1) (by omega) (by omega) (fun k hk => by
          by_cases p : k = u
          · subst p; exact q
          · exact hb k (by omega))
      · rw [if_neg (fun p => by rw [b_ask0 (by omega), q] at p; cases p), lst_first q hb 8 (-1) (by omega), if_neg (nI_nm (by omega))]
        simp only [m_X7_driftMonth_289, m_X7_driftMonth_281, m_X7_driftMonth_L92_259_b, m_X7_driftMonth_241, m_X7_driftMonth_L92_219_b, m_X7_driftMonth_208, m_X7_driftMonth_203, m_X7_driftMonth_195, m_X7_driftMonth_185, m_X7_driftMonth_177, m_X7_driftMonth_L92_155_b, m_X7_driftMonth_137, m_X7_driftMonth_L92_115_b, m_X7_driftMonth_104, m_X7_driftMonth_92, m_X7_driftMonth_84, m_X7_driftMonth_L92_62_b, m_X7_driftMonth_44, m_X7_driftMonth_L92_22_b, m_X7_driftMonth_11, m_X7_driftMonth_4, m_X7_driftMonth]
theorem go_L3 {t : Nat} (ht : t ≤ 8) {w : Int32} (hw : ∀ k, bt w k = true → k < t) (h2 : C (rl (C 0 11)) 2 = nI t) : ∀ (m u : Nat), u ≤ t → t - u < m → (∀ k, k < u → bt w k = false) → m_X7_driftMonth_L92_115 m C (nI u) w = if lst w 8 (-1) = -1 then C else m_X1_walkMonth C 3 (lst w 8 (-1)) := by
  intro m
  induction m with
  | zero => intro u _ h0; exact absurd h0 (Nat.not_lt_zero _)
  | succ m ih =>
    intro u hu hm hb
    rw [show m_X7_driftMonth_L92_115 (m + 1) = m_X7_driftMonth_L92_115_b (m_X7_driftMonth_L92_115 m) from rfl]
    unfold m_X7_driftMonth_L92_115_b
    rw [h2]
    by_cases h1 : t ≤ u
    · rw [if_pos ((nle (by omega) (by omega)).mpr h1), lst_none 8 (-1) (fun k hk => by
        cases q : bt w k
        · rfl
        · have := hw k q; rw [hb k (by omega)] at q; cases q), if_pos rfl]
    · rw [if_neg (fun q => h1 ((nle (by omega) (by omega)).mp q)), oI1, n1]
      cases q : bt w u
      · rw [if_pos ((b_ask0 (by omega)).mpr q)]
        exact ih (u + 1) (by omega) (by omega) (fun k hk => by
          by_cases p : k = u
          · subst p; exact q
          · exact hb k (by omega))
      · rw [if_neg (fun p => by rw [b_ask0 (by omega), q] at p; cases p), lst_first q hb 8 (-1) (by omega), if_neg (nI_nm (by omega))]
        simp only [m_X7_driftMonth_289, m_X7_driftMonth_281, m_X7_driftMonth_L92_259_b, m_X7_driftMonth_241, m_X7_driftMonth_L92_219_b, m_X7_driftMonth_208, m_X7_driftMonth_203, m_X7_driftMonth_195, m_X7_driftMonth_185, m_X7_driftMonth_177, m_X7_driftMonth_L92_155_b, m_X7_driftMonth_137, m_X7_driftMonth_L92_115_b, m_X7_driftMonth_104, m_X7_driftMonth_92, m_X7_driftMonth_84, m_X7_driftMonth_L92_62_b, m_X7_driftMonth_44, m_X7_driftMonth_L92_22_b, m_X7_driftMonth_11, m_X7_driftMonth_4, m_X7_driftMonth]
theorem go_L4 {t : Nat} (ht : t ≤ 8) {w : Int32} (hw : ∀ k, bt w k = true → k < t) (h2 : C (rl (C 0 11)) 2 = nI t) : ∀ (m u : Nat), u ≤ t → t - u < m → (∀ k, k < u → bt w k = false) → m_X7_driftMonth_L92_62 m C (nI u) w = if lst w 8 (-1) = -1 then C else m_X1_walkMonth C 3 (lst w 8 (-1)) := by
  intro m
  induction m with
  | zero => intro u _ h0; exact absurd h0 (Nat.not_lt_zero _)
  | succ m ih =>
    intro u hu hm hb
    rw [show m_X7_driftMonth_L92_62 (m + 1) = m_X7_driftMonth_L92_62_b (m_X7_driftMonth_L92_62 m) from rfl]
    unfold m_X7_driftMonth_L92_62_b
    rw [h2]
    by_cases h1 : t ≤ u
    · rw [if_pos ((nle (by omega) (by omega)).mpr h1), lst_none 8 (-1) (fun k hk => by
        cases q : bt w k
        · rfl
        · have := hw k q; rw [hb k (by omega)] at q; cases q), if_pos rfl]
    · rw [if_neg (fun q => h1 ((nle (by omega) (by omega)).mp q)), oI1, n1]
      cases q : bt w u
      · rw [if_pos ((b_ask0 (by omega)).mpr q)]
        exact ih (u + 1) (by omega) (by omega) (fun k hk => by
          by_cases p : k = u
          · subst p; exact q
          · exact hb k (by omega))
      · rw [if_neg (fun p => by rw [b_ask0 (by omega), q] at p; cases p), lst_first q hb 8 (-1) (by omega), if_neg (nI_nm (by omega))]
        simp only [m_X7_driftMonth_289, m_X7_driftMonth_281, m_X7_driftMonth_L92_259_b, m_X7_driftMonth_241, m_X7_driftMonth_L92_219_b, m_X7_driftMonth_208, m_X7_driftMonth_203, m_X7_driftMonth_195, m_X7_driftMonth_185, m_X7_driftMonth_177, m_X7_driftMonth_L92_155_b, m_X7_driftMonth_137, m_X7_driftMonth_L92_115_b, m_X7_driftMonth_104, m_X7_driftMonth_92, m_X7_driftMonth_84, m_X7_driftMonth_L92_62_b, m_X7_driftMonth_44, m_X7_driftMonth_L92_22_b, m_X7_driftMonth_11, m_X7_driftMonth_4, m_X7_driftMonth]
theorem go_L5 {t : Nat} (ht : t ≤ 8) {w : Int32} (hw : ∀ k, bt w k = true → k < t) (h2 : C (rl (C 0 11)) 2 = nI t) : ∀ (m u : Nat), u ≤ t → t - u < m → (∀ k, k < u → bt w k = false) → m_X7_driftMonth_L92_22 m C (nI u) w = if lst w 8 (-1) = -1 then C else m_X1_walkMonth C 3 (lst w 8 (-1)) := by
  intro m
  induction m with
  | zero => intro u _ h0; exact absurd h0 (Nat.not_lt_zero _)
  | succ m ih =>
    intro u hu hm hb
    rw [show m_X7_driftMonth_L92_22 (m + 1) = m_X7_driftMonth_L92_22_b (m_X7_driftMonth_L92_22 m) from rfl]
    unfold m_X7_driftMonth_L92_22_b
    rw [h2]
    by_cases h1 : t ≤ u
    · rw [if_pos ((nle (by omega) (by omega)).mpr h1), lst_none 8 (-1) (fun k hk => by
        cases q : bt w k
        · rfl
        · have := hw k q; rw [hb k (by omega)] at q; cases q), if_pos rfl]
    · rw [if_neg (fun q => h1 ((nle (by omega) (by omega)).mp q)), oI1, n1]
      cases q : bt w u
      · rw [if_pos ((b_ask0 (by omega)).mpr q)]
        exact ih (u + 1) (by omega) (by omega) (fun k hk => by
          by_cases p : k = u
          · subst p; exact q
          · exact hb k (by omega))
      · rw [if_neg (fun p => by rw [b_ask0 (by omega), q] at p; cases p), lst_first q hb 8 (-1) (by omega), if_neg (nI_nm (by omega))]
        simp only [m_X7_driftMonth_289, m_X7_driftMonth_281, m_X7_driftMonth_L92_259_b, m_X7_driftMonth_241, m_X7_driftMonth_L92_219_b, m_X7_driftMonth_208, m_X7_driftMonth_203, m_X7_driftMonth_195, m_X7_driftMonth_185, m_X7_driftMonth_177, m_X7_driftMonth_L92_155_b, m_X7_driftMonth_137, m_X7_driftMonth_L92_115_b, m_X7_driftMonth_104, m_X7_driftMonth_92, m_X7_driftMonth_84, m_X7_driftMonth_L92_62_b, m_X7_driftMonth_44, m_X7_driftMonth_L92_22_b, m_X7_driftMonth_11, m_X7_driftMonth_4, m_X7_driftMonth]
/-- behind the draws: he stays or goes -/
noncomputable def finC' (C : SS) (v : Int32) : SS := if v = 0 then (if m_X1_mayStay C 3 (rl (C 0 11)) = 0 then (if lst (m_X1_walks C 3 (rl (C 0 11))) 8 (-1) = -1 then C else m_X1_walkMonth C 3 (lst (m_X1_walks C 3 (rl (C 0 11))) 8 (-1))) else (m_X1_stayMonth C 3 (rl (C 0 11))).2) else (if lst (m_X1_walks C 3 (rl (C 0 11))) 8 (-1) = -1 then C else m_X1_walkMonth C 3 (lst (m_X1_walks C 3 (rl (C 0 11))) 8 (-1)))
noncomputable def finE' (E : SS) (v : Int32) : SS := if v = 0 then (if m_X8_mayStay E = 0 then (if lst (m_X8_walks E (E 62 0) (E 62 5)) 8 (-1) = -1 then E else m_X8_goesTo E (lst (m_X8_walks E (E 62 0) (E 62 5)) 8 (-1))) else (m_X8_stays E).2) else (if lst (m_X8_walks E (E 62 0) (E 62 5)) 8 (-1) = -1 then E else m_X8_goesTo E (lst (m_X8_walks E (E 62 0) (E 62 5)) 8 (-1)))
theorem lst_lt {w : Int32} {t : Nat} (hw : ∀ k, bt w k = true → k < t) : ∀ (n : Nat) (f : Int32), (f = -1 ∨ ∃ u, u < t ∧ f = nI u) → (lst w n f = -1 ∨ ∃ u, u < t ∧ lst w n f = nI u) := by
  intro n
  induction n with
  | zero => intro f h; exact h
  | succ n ih =>
    intro f h
    show lst w n (if bt w n then nI n else f) = -1 ∨ ∃ u, u < t ∧ lst w n (if bt w n then nI n else f) = nI u
    apply ih
    cases q : bt w n
    · exact h
    · exact Or.inr ⟨n, hw n q, rfl⟩
theorem fin_RR (h : RR C E) {x : Nat} (hx : x < 8) (he : E 62 0 = nI x) (v : Int32) : RR (finC' C v) (finE' E v) ∧ ∃ x', x' < 8 ∧ finE' E v 62 0 = nI x' := by
  obtain ⟨c, t, r, hc, e0, D⟩ := h.2.1.get
  have t8 := D.2.2.2.2.1
  have wJ := walksJ h hx he
  have go : RR (if lst (m_X1_walks C 3 (rl (C 0 11))) 8 (-1) = -1 then C else m_X1_walkMonth C 3 (lst (m_X1_walks C 3 (rl (C 0 11))) 8 (-1))) (if lst (m_X8_walks E (E 62 0) (E 62 5)) 8 (-1) = -1 then E else m_X8_goesTo E (lst (m_X8_walks E (E 62 0) (E 62 5)) 8 (-1))) ∧ ∃ x', x' < 8 ∧ (if lst (m_X8_walks E (E 62 0) (E 62 5)) 8 (-1) = -1 then E else m_X8_goesTo E (lst (m_X8_walks E (E 62 0) (E 62 5)) 8 (-1))) 62 0 = nI x' := by
    rw [wJ, he]
    rcases lst_lt (fun k hk => walks_lt D hx (E 62 5) hk) 8 (-1) (Or.inl rfl) with q | ⟨u, hu, q⟩
    · rw [q, if_pos rfl, if_pos rfl]; exact ⟨h, x, hx, he⟩
    · rw [q, if_neg (nI_nm (by omega)), if_neg (nI_nm (by omega))]
      obtain ⟨s1, s2⟩ := goes_E h (nI u)
      exact ⟨s1, u, by omega, s2⟩
  unfold finC' finE'
  by_cases q : v = 0
  · rw [if_pos q, if_pos q, mayS_E h]
    by_cases p : m_X8_mayStay E = 0
    · rw [if_pos p, if_pos p]; exact go
    · rw [if_neg p, if_neg p]
      obtain ⟨s1, s2, s3⟩ := stays_E h hx he
      exact ⟨s2, x, hx, s3⟩
  · rw [if_neg q, if_neg q]; exact go
theorem finC_a (h : RR C E) {x : Nat} (hx : x < 8) (he : E 62 0 = nI x) (v : Int32) : m_X7_driftMonth_11 C v = finC' C v ∧ m_X7_driftMonth_104 C v = finC' C v ∧ m_X7_driftMonth_208 C v = finC' C v := by
  obtain ⟨c, t, r, hc, e0, D⟩ := h.2.1.get
  have t8 := D.2.2.2.2.1
  have wJ := walksJ h hx he
  have hw : ∀ k, bt (m_X1_walks C 3 (rl (C 0 11))) k = true → k < t := fun k hk => by rw [wJ] at hk; exact walks_lt D hx _ hk
  have h2 : C (rl (C 0 11)) 2 = nI t := by rw [e0]; exact D.2.2.1
  have z : ∀ k, k < 0 → bt (m_X1_walks C 3 (rl (C 0 11))) k = false := fun k hk => absurd hk (Nat.not_lt_zero _)
  have l0 := go_L0 t8 hw h2 2000 0 (by omega) (by omega) z
  have l1 := go_L1 t8 hw h2 2000 0 (by omega) (by omega) z
  have l2 := go_L2 t8 hw h2 2000 0 (by omega) (by omega) z
  have l3 := go_L3 t8 hw h2 2000 0 (by omega) (by omega) z
  have l4 := go_L4 t8 hw h2 2000 0 (by omega) (by omega) z
  have l5 := go_L5 t8 hw h2 2000 0 (by omega) (by omega) z
  refine ⟨?_, ?_, ?_⟩
  · unfold m_X7_driftMonth_11 finC'
    first | rw [l4, l5] | rw [l5, l4] | rw [l0, l1]
    rfl
  · unfold m_X7_driftMonth_104 finC'
    first | rw [l2, l3] | rw [l3, l2]
    rfl
  · unfold m_X7_driftMonth_208 finC'
    first | rw [l0, l1] | rw [l1, l0] | rw [l4, l5]
    rfl
theorem finE_a (E : SS) (v : Int32) : m_X8_drifts_19 E v = finE' E v ∧ m_X8_drifts_129 E v = finE' E v ∧ m_X8_drifts_256 E v = finE' E v := by
  refine ⟨?_, ?_, ?_⟩ <;> simp only [m_X8_drifts_349, m_X8_drifts_324, m_X8_drifts_283, m_X8_drifts_256, m_X8_drifts_247, m_X8_drifts_239, m_X8_drifts_220, m_X8_drifts_195, m_X8_drifts_156, m_X8_drifts_129, m_X8_drifts_110, m_X8_drifts_85, m_X8_drifts_46, m_X8_drifts_19, m_X8_drifts_9, m_X8_drifts, r0, r5, least_E, finE']
theorem month_E (h : RR C E) {x : Nat} (hx : x < 8) (he : E 62 0 = nI x) : RR (m_X7_driftMonth C) (m_X8_drifts E) ∧ ∃ x', x' < 8 ∧ m_X8_drifts E 62 0 = nI x' := by
  obtain ⟨w1, C1, E1, b1, b2, b3, b4, b5, b6⟩ := drawR h (n := 4) (by omega) (by omega)
  have he1 : E1 62 0 = nI x := (b6 62 0 (by omega)).trans he
  obtain ⟨c, t, r, hc, e0, D⟩ := b4.2.1.get
  have r12 := D.2.2.2.2.2.2.2.1
  obtain ⟨w2, C2, E2, d1, d2, d3, d4, d5, d6⟩ := drawR b4 (n := 2) (by omega) (by omega)
  have he2 : E2 62 0 = nI x := (d6 62 0 (by omega)).trans he1
  by_cases q : w1 = 0
  · have hq : nI w1 = 0 := by rw [q]; exact n0e
    by_cases p : r = 0
    · have g1 : C1 (rl (C1 0 11)) 3 ≤ 0 := by rw [e0, D.2.2.2.2.2.1, p]; decide +kernel
      have g2 : E1 60 3 ≤ 0 := by rw [D.2.2.2.2.2.2.1, p]; decide +kernel
      have e1 : m_X7_driftMonth C = finC' C2 (nI w2) := by
        simp only [m_X7_driftMonth, m_X7_driftMonth_4, m_X7_driftMonth_195, m_X7_driftMonth_203, b2, if_pos hq, if_pos g1, d2]
        exact (finC_a d4 hx he2 _).2.1
      have e2 : m_X8_drifts E = finE' E2 (nI w2) := by
        simp only [m_X8_drifts, m_X8_drifts_9, m_X8_drifts_239, m_X8_drifts_247, b3, if_pos hq, r3, if_pos g2, d3]
        exact (finE_a _ _).2.1
      rw [e1, e2]; exact fin_RR d4 hx he2 _
    · have g1 : ¬ (C1 (rl (C1 0 11)) 3 ≤ 0) := by rw [e0, D.2.2.2.2.2.1]; exact nI_nle (by omega) (by omega)
      have g2 : ¬ (E1 60 3 ≤ 0) := by rw [D.2.2.2.2.2.2.1]; exact nI_nle (by omega) (by omega)
      obtain ⟨w3, C3, E3, f1, f2, f3, f4, f5, f6⟩ := drawR b4 (n := r) (by omega) (by omega)
      have s5 : C1 3 5 = E1 62 5 := b4.2.2.2.2.1 5 (by omega)
      have hS := setJ f4 (k := 5) (by omega) (E1 62 5 ^^^ nI 1 <<< (nI w3 &&& 31))
      obtain ⟨w4, C4, E4, m1, m2, m3, m4, m5, m6⟩ := drawR hS (n := 2) (by omega) (by omega)
      have he4 : E4 62 0 = nI x := by rw [m6 62 0 (by omega), st_nk (by decide), f6 62 0 (by omega)]; exact he1
      have e1 : m_X7_driftMonth C = finC' C4 (nI w4) := by
        simp only [m_X7_driftMonth, m_X7_driftMonth_4, m_X7_driftMonth_195, m_X7_driftMonth_203, b2, if_pos hq, if_neg g1]
        rw [e0, D.2.2.2.2.2.1]
        simp only [f2, s5, m2]
        exact (finC_a m4 hx he4 _).2.2
      have e2 : m_X8_drifts E = finE' E4 (nI w4) := by
        simp only [m_X8_drifts, m_X8_drifts_9, m_X8_drifts_239, m_X8_drifts_247, b3, if_pos hq, r3, if_neg g2]
        rw [D.2.2.2.2.2.2.1]
        simp only [f3, r5, m3]
        exact (finE_a _ _).2.2
      rw [e1, e2]; exact fin_RR m4 hx he4 _
  · have hq : ¬ (nI w1 = 0) := nI_ne0 (by omega) (by omega)
    have e1 : m_X7_driftMonth C = finC' C2 (nI w2) := by
      simp only [m_X7_driftMonth, m_X7_driftMonth_4, m_X7_driftMonth_195, m_X7_driftMonth_203, b2, if_neg hq, d2]
      exact (finC_a d4 hx he2 _).1
    have e2 : m_X8_drifts E = finE' E2 (nI w2) := by
      simp only [m_X8_drifts, m_X8_drifts_9, m_X8_drifts_239, m_X8_drifts_247, b3, if_neg hq, d3]
      exact (finE_a _ _).1
    rw [e1, e2]; exact fin_RR d4 hx he2 _
theorem drift_L {n : Nat} (hn : n ≤ 40) : ∀ (m k : Nat) (C E : SS) (x : Nat), RR C E → x < 8 → E 62 0 = nI x → k ≤ n → n - k < m → (m_X7_drift_L53_23 m C (nI k) (nI n)).1 = (m_X8_drift_L44_31 m E (nI k) (nI n)).1 ∧ RR (m_X7_drift_L53_23 m C (nI k) (nI n)).2 (m_X8_drift_L44_31 m E (nI k) (nI n)).2 := by
  intro m
  induction m with
  | zero => intro k C E x _ _ _ _ h0; exact absurd h0 (Nat.not_lt_zero _)
  | succ m ih =>
    intro k C E x h hx he hk hm
    rw [show m_X7_drift_L53_23 (m + 1) = m_X7_drift_L53_23_b (m_X7_drift_L53_23 m) from rfl, show m_X8_drift_L44_31 (m + 1) = m_X8_drift_L44_31_b (m_X8_drift_L44_31 m) from rfl]
    by_cases h1 : n ≤ k
    · have g := (nle (a := n) (b := k) (by omega) (by omega)).mpr h1
      simp only [m_X7_drift_34, m_X7_drift_L53_23_b, m_X7_drift_20, m_X7_drift, m_X8_drift_49, m_X8_drift_L44_31_b, m_X8_drift_28, m_X8_drift, if_pos g, r3]
      exact ⟨h.2.2.2.2.1 3 (by omega), h⟩
    · have g : ¬ (nI n ≤ nI k) := fun q => h1 ((nle (by omega) (by omega)).mp q)
      obtain ⟨s1, x', s2, s3⟩ := month_E h hx he
      simp only [m_X7_drift_34, m_X7_drift_L53_23_b, m_X7_drift_20, m_X7_drift, m_X8_drift_49, m_X8_drift_L44_31_b, m_X8_drift_28, m_X8_drift, if_neg g, oI1, n1]
      exact ih (k + 1) _ _ x' s1 s2 s3 (by omega) (by omega)
theorem drift_E (h : RR C E) {x : Nat} (hx : x < 8) (he : E 62 0 = nI x) (a : Int32) : (m_X7_drift C a).1 = (m_X8_drift E a).1 ∧ RR (m_X7_drift C a).2 (m_X8_drift E a).2 := by
  have hJ := h.2.2.2.2.1
  by_cases h1 : a.toInt < 1 ∨ 40 < a.toInt
  · have e1 : m_X7_drift C a = ((-1000000002 : Int32), C) := by
      unfold m_X7_drift
      by_cases q : a < nI 1
      · rw [if_pos q]
      · rw [if_neg q, if_neg (fun q2 => by rw [ltK (by omega)] at q; rw [leK (by omega)] at q2; omega)]
    have e2 : m_X8_drift E a = ((-1000000002 : Int32), E) := by
      unfold m_X8_drift; rw [if_pos (in0.mpr (by rw [nI_toInt (by omega), nI_toInt (by omega)]; omega))]
    rw [e1, e2]; exact ⟨rfl, h⟩
  · obtain ⟨n, hn, rfl⟩ := nI_of_le (x := a) (B := 40) (by omega) (by omega)
    have hn1 : 1 ≤ n := by rw [nI_toInt (by omega)] at h1; omega
    have g3 : ¬ (nI n < nI 1) := fun q => by rw [nlt (by omega) (by omega)] at q; omega
    have g4 : nI n ≤ nI 40 := (nle (by omega) (by omega)).mpr hn
    have g5 : ¬ (m_X8_in E (nI n) (nI 1) (nI 40) = 0) := fun q => by rw [in0, nI_toInt (by omega), nI_toInt (by omega), nI_toInt (by omega)] at q; omega
    by_cases g : m_X8_goesOn E = 0
    · have e1 : m_X7_drift C (nI n) = ((-1000000003 : Int32), C) := by unfold m_X7_drift; rw [if_neg g3, if_pos g4, if_neg (fun q => (goOn_E h).mp q g)]
      have e2 : m_X8_drift E (nI n) = ((-1000000003 : Int32), E) := by unfold m_X8_drift; rw [if_neg g5, if_pos g]
      rw [e1, e2]; exact ⟨rfl, h⟩
    · by_cases l : E 62 1 ≤ nI 9000
      · have e1 : m_X7_drift C (nI n) = m_X7_drift_L53_23 2000 (m_X2_push C 3) (nI 0) (nI n) := by
          simp only [m_X7_drift_34, m_X7_drift_L53_23_b, m_X7_drift_20, m_X7_drift, if_neg g3, if_pos g4, if_pos ((goOn_E h).mpr g), hJ 1 (by omega), if_pos l]
        have e2 : m_X8_drift E (nI n) = m_X8_drift_L44_31 2000 (m_X8_keeps E) (nI 0) (nI n) := by
          simp only [m_X8_drift_49, m_X8_drift_L44_31_b, m_X8_drift_28, m_X8_drift, if_neg g5, if_neg g, r1, if_pos l]
        rw [e1, e2]
        exact drift_L hn 2000 0 _ _ x (push_E h) hx ((keeps62 h 0).trans he) (by omega) (by omega)
      · have e1 : m_X7_drift C (nI n) = ((-1000000004 : Int32), C) := by unfold m_X7_drift; rw [if_neg g3, if_pos g4, if_pos ((goOn_E h).mpr g), hJ 1 (by omega), if_neg l]
        have e2 : m_X8_drift E (nI n) = ((-1000000004 : Int32), E) := by unfold m_X8_drift; rw [if_neg g5, if_neg g, r1, if_neg l]
        rw [e1, e2]; exact ⟨rfl, h⟩
end DF
