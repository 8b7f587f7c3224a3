/-! ===== Int32 by its bits: bt x i ===== -/
def bt (x : Int32) (i : Nat) : Bool := x.toBitVec.getLsbD i
theorem b_ext {x y : Int32} (h : ∀ i, i < 32 → bt x i = bt y i) : x = y := Int32.toBitVec_inj.mp (BitVec.eq_of_getLsbD_eq (fun i hi => h i hi))
theorem b_or (x y : Int32) (i : Nat) : bt (x ||| y) i = (bt x i || bt y i) := by unfold bt; rw [Int32.toBitVec_or, BitVec.getLsbD_or]
theorem b_and (x y : Int32) (i : Nat) : bt (x &&& y) i = (bt x i && bt y i) := by unfold bt; rw [Int32.toBitVec_and, BitVec.getLsbD_and]
theorem b_xor (x y : Int32) (i : Nat) : bt (x ^^^ y) i = (bt x i ^^ bt y i) := by unfold bt; rw [Int32.toBitVec_xor, BitVec.getLsbD_xor]
theorem b_big {x : Int32} {i : Nat} (h : 32 ≤ i) : bt x i = false := BitVec.getLsbD_of_ge _ _ h
theorem b_255 (i : Nat) : bt 255 i = decide (i < 8) := by
  rcases Nat.lt_or_ge i 32 with h | h
  · exact (by decide +kernel : ∀ i, i < 32 → bt 255 i = decide (i < 8)) i h
  · rw [b_big h, decide_eq_false (by omega)]
theorem b_65535 (i : Nat) : bt 65535 i = decide (i < 16) := by
  rcases Nat.lt_or_ge i 32 with h | h
  · exact (by decide +kernel : ∀ i, i < 32 → bt 65535 i = decide (i < 16)) i h
  · rw [b_big h, decide_eq_false (by omega)]
theorem b_m1 : ∀ i, i < 32 → bt (-1) i = true := by decide +kernel
theorem b_0 (i : Nat) : bt 0 i = false := BitVec.getLsbD_zero
theorem s_l : ∀ n, n < 32 → ((nI n &&& 31).toBitVec.smod 32).toNat = n := by decide +kernel
theorem s_u : ∀ n, n < 32 → (((nI n).toUInt32 &&& Int32.toUInt32 31).toBitVec % 32).toNat = n := by decide +kernel
theorem b_shl (n : Nat) (hn : n < 32) (x : Int32) {i : Nat} (hi : i < 32) : bt (x <<< (nI n &&& 31)) i = (decide (n ≤ i) && bt x (i - n)) := by
  unfold bt
  rw [Int32.toBitVec_shiftLeft]
  show (x.toBitVec <<< ((nI n &&& 31).toBitVec.smod 32).toNat).getLsbD i = _
  rw [s_l n hn, BitVec.getLsbD_shiftLeft]
  rcases Nat.lt_or_ge i n with h | h
  · simp [h, Nat.not_le.mpr h]
  · simp [hi, h, Nat.not_lt.mpr h]
theorem b_ushr (n : Nat) (hn : n < 32) (x : Int32) (i : Nat) : bt ((x.toUInt32 >>> ((nI n).toUInt32 &&& Int32.toUInt32 31)).toInt32) i = bt x (n + i) := by
  show (x.toUInt32 >>> ((nI n).toUInt32 &&& Int32.toUInt32 31)).toBitVec.getLsbD i = x.toUInt32.toBitVec.getLsbD (n + i)
  rw [UInt32.toBitVec_shiftRight]
  show (x.toUInt32.toBitVec >>> (((nI n).toUInt32 &&& Int32.toUInt32 31).toBitVec % 32).toNat).getLsbD i = _
  rw [s_u n hn, BitVec.getLsbD_ushiftRight]
theorem b_sshr (n : Nat) (hn : n < 32) (x : Int32) {i : Nat} (hi : i < 32) : bt (x >>> (nI n &&& 31)) i = if n + i < 32 then bt x (n + i) else bt x 31 := by
  unfold bt
  rw [Int32.toBitVec_shiftRight]
  show (x.toBitVec.sshiftRight ((nI n &&& 31).toBitVec.smod 32).toNat).getLsbD i = _
  rw [s_l n hn, BitVec.getLsbD_sshiftRight, BitVec.msb_eq_getLsbD_last]
  simp [hi]
theorem b_n1 : ∀ i, i < 32 → bt (nI 1) i = decide (i = 0) := by decide +kernel
theorem b_one {t : Nat} (ht : t < 32) (k : Nat) : bt (nI 1 <<< (nI t &&& 31)) k = decide (k = t) := by
  rcases Nat.lt_or_ge k 32 with h | h
  · rw [b_shl t ht _ h]
    by_cases h1 : t ≤ k
    · rw [b_n1 _ (by omega)]
      by_cases h2 : k = t
      · subst h2; simp
      · simp [h1, h2, show ¬ (k - t = 0) by omega]
    · simp [h1, show ¬ (k = t) by omega]
  · rw [b_big h, decide_eq_false (by omega)]
theorem b_n0 (k : Nat) : bt (nI 0) k = false := b_0 k
theorem b_nil {x : Int32} (h : ∀ k, bt x k = false) : x = 0 := b_ext (fun i _ => by rw [h i, b_0])
/-- a bit asked for -/
theorem b_ask {x : Int32} {b : Nat} (hb : b < 32) : (x >>> (nI b &&& 31)) &&& nI 1 = if bt x b then nI 1 else nI 0 := by
  apply b_ext
  intro i hi
  rw [b_and, b_n1 i hi]
  by_cases h0 : i = 0
  · subst h0
    rw [b_sshr b hb x (by omega), if_pos (by omega), Nat.add_zero]
    cases bt x b
    · rw [if_neg (by decide), b_n0]; rfl
    · rw [if_pos rfl, b_n1 0 (by omega)]; rfl
  · rw [decide_eq_false h0, Bool.and_false]
    cases bt x b
    · rw [if_neg (by decide), b_n0]
    · rw [if_pos rfl, b_n1 i hi, decide_eq_false h0]
theorem b_ask0 {x : Int32} {b : Nat} (hb : b < 32) : ((x >>> (nI b &&& 31)) &&& nI 1 = 0) ↔ bt x b = false := by
  rw [b_ask hb]
  cases bt x b
  · exact ⟨fun _ => rfl, fun _ => rfl⟩
  · rw [if_pos rfl]; exact ⟨fun q => absurd q (by decide +kernel), fun q => by cases q⟩
theorem b_ask1 {x : Int32} {b : Nat} (hb : b < 32) : ((x >>> (nI b &&& 31)) &&& nI 1 = nI 1) ↔ bt x b = true := by
  rw [b_ask hb]
  cases bt x b
  · rw [if_neg (by decide)]; exact ⟨fun q => absurd q (by decide +kernel), fun q => by cases q⟩
  · rw [if_pos rfl]; exact ⟨fun _ => rfl, fun _ => rfl⟩
