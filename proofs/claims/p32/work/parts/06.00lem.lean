/-! numbers and cells that the walks need -/
theorem pr_T {a j : Nat} {v : Int32} (h : a = 60 ∨ a = 61) (hv : rPr a j v) : okT j v := by
  unfold rPr at hv; rw [if_pos h] at hv; exact hv
theorem pr_S {j : Nat} {v : Int32} (hv : rPr 62 j v) : okS j v := by
  unfold rPr at hv; rw [if_neg (by omega), if_pos rfl] at hv; exact hv
theorem pr_S7 {j : Nat} {v : Int32} (hv : rPr 63 j v) : okS (j % 7) v := by
  unfold rPr at hv; rw [if_neg (by omega), if_neg (by omega), if_pos rfl] at hv; exact hv
theorem pr_S8 {j : Nat} {v : Int32} (hv : rPr 64 j v) : okS (j % 8) v := by
  unfold rPr at hv; rw [if_neg (by omega), if_neg (by omega), if_neg (by omega), if_pos rfl] at hv; exact hv
theorem pr_N {j : Nat} {v : Int32} (hv : rPr 66 j v) : le32 383 v := by
  unfold rPr at hv; rw [if_neg (by omega), if_neg (by omega), if_neg (by omega), if_neg (by omega), if_pos rfl] at hv; exact hv
theorem to_T {a j : Nat} {v : Int32} (h : a = 60 ∨ a = 61) (hv : okT j v) : rPr a j v := by
  unfold rPr; rw [if_pos h]; exact hv
theorem to_S {j : Nat} {v : Int32} (hv : okS j v) : rPr 62 j v := by
  unfold rPr; rw [if_neg (by omega), if_pos rfl]; exact hv
theorem to_S7 {j : Nat} {v : Int32} (hv : okS (j % 7) v) : rPr 63 j v := by
  unfold rPr; rw [if_neg (by omega), if_neg (by omega), if_pos rfl]; exact hv
theorem to_S8 {j : Nat} {v : Int32} (hv : okS (j % 8) v) : rPr 64 j v := by
  unfold rPr; rw [if_neg (by omega), if_neg (by omega), if_neg (by omega), if_pos rfl]; exact hv
theorem to_N {j : Nat} {v : Int32} (hv : le32 383 v) : rPr 66 j v := by
  unfold rPr; rw [if_neg (by omega), if_neg (by omega), if_neg (by omega), if_neg (by omega), if_pos rfl]; exact hv
theorem nI_dec {j : Nat} (h : j < 2 ^ 30) : (nI j + Int32.ofInt (-1)).toInt = (j : Int) - 1 := by
  rw [Int32.toInt_add, nI_toInt (by omega), show (Int32.ofInt (-1)).toInt = -1 by decide +kernel, Int.bmod_def]
  split <;> omega
def fI (e : va_E) (k : Nat) : Int32 := match e with
  | .inr (_, fs) => (match fs[k]? with | some (.int x) => x | _ => 0)
  | .inl _ => 0
def fN (e : va_E) (k : Nat) : Nat := (fI e k).toNatClampNeg
theorem fN_of {e : va_E} {k ci a : Nat} {fs : List Value} (he : e = .inr (ci, fs)) (hk : fs[k]? = some (.int (nI a))) (ha : a < 2 ^ 31) : fN e k = a := by
  unfold fN fI; rw [he]; simp only [hk]; exact nI_clamp ha
theorem okKept_up {cA ad : Nat → Nat} {g : Nat → Option Nat} {x : Int32} {j : Nat} (h : ∀ i, i < 20 → ∃ j, (6 ≤ j ∧ j < 26) ∧ g i = some (ad j)) (hj : 6 ≤ j ∧ j < 26) : okKept cA ad (.inl (cA 4, 20, .inr (.inr (.inr (.inr (va_up g x.toNatClampNeg (some (ad j)))))))) := by
  refine ⟨_, rfl, fun i hi => ?_⟩
  by_cases hq : i = x.toNatClampNeg
  · subst hq; exact ⟨j, hj, va_up_self _ _ _⟩
  · obtain ⟨k, hk, he⟩ := h i hi
    exact ⟨k, hk, (va_up_ne _ _ hq).trans he⟩
theorem or_w {w : Nat} {q : Int32} (hw : w ≤ 3) (h6 : 6 ≤ q.toInt) (h7 : q.toInt ≤ 7) : ∃ k : Nat, k ≤ 3 ∧ (nI w ||| ((nI 1) <<< ((q - nI 6) &&& 31))) = nI k := by
  rcases (show q = nI 6 ∨ q = nI 7 from (by
    obtain ⟨j, hj, rfl⟩ := nI_of_le (x := q) (B := 7) (by omega) (by omega)
    have := nI_toInt (n := j) (by omega)
    rcases (show j = 6 ∨ j = 7 by omega) with rfl | rfl
    · exact Or.inl rfl
    · exact Or.inr rfl)) with rfl | rfl <;> rcases (show w = 0 ∨ w = 1 ∨ w = 2 ∨ w = 3 by omega) with rfl | rfl | rfl | rfl
  · exact ⟨1, by omega, by decide +kernel⟩
  · exact ⟨1, by omega, by decide +kernel⟩
  · exact ⟨3, by omega, by decide +kernel⟩
  · exact ⟨3, by omega, by decide +kernel⟩
  · exact ⟨2, by omega, by decide +kernel⟩
  · exact ⟨3, by omega, by decide +kernel⟩
  · exact ⟨2, by omega, by decide +kernel⟩
  · exact ⟨3, by omega, by decide +kernel⟩
theorem or_t {w k : Nat} (hw : w ≤ 255) (hk : k ≤ 7) : ∃ j : Nat, j ≤ 255 ∧ (nI w ||| ((nI 1) <<< (nI k &&& 31))) = nI j := by
  have h1 : (nI 1) <<< (nI k &&& 31) = nI (2 ^ k) := by
    rcases (show k = 0 ∨ k = 1 ∨ k = 2 ∨ k = 3 ∨ k = 4 ∨ k = 5 ∨ k = 6 ∨ k = 7 by omega) with rfl | rfl | rfl | rfl | rfl | rfl | rfl | rfl <;> decide +kernel
  rw [h1]
  refine ⟨w ||| 2 ^ k, ?_, ?_⟩
  · have h2 : w ||| 2 ^ k < 2 ^ 8 := Nat.or_lt_two_pow (by omega) (Nat.pow_lt_pow_right (by omega) (by omega))
    omega
  · apply Int32.toBitVec_inj.mp
    show BitVec.ofNat 32 w ||| BitVec.ofNat 32 (2 ^ k) = BitVec.ofNat 32 (w ||| 2 ^ k)
    rw [BitVec.ofNat_or]
theorem and_bd {x : Int32} {k : Nat} (hk : k ≤ 8) (h : (x &&& (((nI 1) <<< (nI k &&& 31) - nI 1) ^^^ (-1))) = 0) : ∃ j : Nat, j ≤ 255 ∧ x = nI j := by
  have h1 : ((nI 1) <<< (nI k &&& 31) - nI 1).toBitVec = BitVec.ofNat 32 (2 ^ k - 1) := by
    rcases (show k = 0 ∨ k = 1 ∨ k = 2 ∨ k = 3 ∨ k = 4 ∨ k = 5 ∨ k = 6 ∨ k = 7 ∨ k = 8 by omega) with rfl | rfl | rfl | rfl | rfl | rfl | rfl | rfl | rfl <;> decide +kernel
  have h2 : (x.toBitVec &&& ((BitVec.ofNat 32 (2 ^ k - 1)) ^^^ BitVec.allOnes 32)) = 0#32 := by
    rw [← h1]
    have := congrArg Int32.toBitVec h
    exact this
  have h3 : x.toBitVec &&& BitVec.ofNat 32 (2 ^ k - 1) = x.toBitVec := by
    rw [BitVec.xor_allOnes] at h2
    ext i hi
    have := congrArg (fun b => b.getLsbD i) h2
    simp [BitVec.getLsbD_and, BitVec.getLsbD_not, hi] at this ⊢
    cases hx : x.toBitVec.getLsbD i <;> simp_all
  have h4 : x.toBitVec.toNat ≤ 255 := by
    have h5 : 2 ^ k ≤ 2 ^ 8 := Nat.pow_le_pow_right (by omega) hk
    have h6 : 2 ^ k - 1 < 2 ^ 32 := by omega
    rw [← h3, BitVec.toNat_and, BitVec.toNat_ofNat, Nat.mod_eq_of_lt h6]
    exact Nat.le_trans Nat.and_le_right (by omega)
  refine ⟨x.toBitVec.toNat, h4, ?_⟩
  apply Int32.toBitVec_inj.mp
  show x.toBitVec = BitVec.ofNat 32 _
  rw [BitVec.ofNat_toNat]; simp
theorem ne_of_ti {y : Int32} (h : y.toInt ≠ 0) : ¬ y = 0 := fun q => h (by rw [q]; exact z_ti)
/-- the odds of snow -/
def snS (q : Int32) : Nat → Int64
  | 0 => 1000000000
  | k + 1 => snS q k * (nI 100 - q).toInt64 / 100
def snR (n q : Int32) : Int32 := if n.toInt < 0 ∨ 60 < n.toInt ∨ q.toInt < 0 ∨ 100 < q.toInt then (-1000000002) else (snS q n.toNatClampNeg).toInt32
def aN (e : va_E) (j : Nat) : Nat := match e with
  | .inl (_, _, .inl g) => (g j).toNatClampNeg
  | _ => 0
theorem aN_of {e : va_E} {c : ClassId} {n j b : Nat} {g : Nat → Int32} (he : e = .inl (c, n, .inl g)) (hj : g j = nI b) (hb : b < 2 ^ 31) : aN e j = b := by
  unfold aN; rw [he]; simp only [hj]; exact nI_clamp hb
theorem pr_up {a n : Nat} {g : Nat → Int32} {x v : Int32} (h : ∀ j, j < n → rPr a j (g j)) (hv : rPr a x.toNatClampNeg v) : ∀ j, j < n → rPr a j (upd g x.toNatClampNeg v j) := fun j hj => by
  by_cases hq : j = x.toNatClampNeg
  · subst hq; rw [pk_us]; exact hv
  · rw [pk_un hq]; exact h j hj
theorem okT_z (j : Nat) : okT j (nI 0) := ⟨fun _ => ⟨0, by omega, rfl⟩, fun _ => ⟨0, by omega, rfl⟩, fun _ => ⟨0, by omega, rfl⟩⟩
theorem okS_z (j : Nat) : okS j (nI 0) := ⟨fun _ => ⟨0, by omega, rfl⟩, fun _ => ⟨0, by omega, rfl⟩, fun _ => ⟨0, by omega, rfl⟩⟩
theorem okT_o {j : Nat} {v : Int32} (h0 : j ≠ 0) (h2 : j ≠ 2) (h3 : j ≠ 3) : okT j v := ⟨fun h => absurd h h0, fun h => absurd h h2, fun h => absurd h h3⟩
theorem okS_o {j : Nat} {v : Int32} (h0 : j ≠ 0) (h2 : j ≠ 2) (h4 : j ≠ 4) : okS j v := ⟨fun h => absurd h h0, fun h => absurd h h2, fun h => absurd h h4⟩
theorem okT_0 {v : Int32} (h : le32 4 v) : okT 0 v := ⟨fun _ => h, fun q => by omega, fun q => by omega⟩
theorem okT_2 {v : Int32} (h : le32 8 v) : okT 2 v := ⟨fun q => by omega, fun _ => h, fun q => by omega⟩
theorem okT_3 {v : Int32} (h : le32 12 v) : okT 3 v := ⟨fun q => by omega, fun q => by omega, fun _ => h⟩
theorem okS_0 {v : Int32} (h : le32 7 v) : okS 0 v := ⟨fun _ => h, fun q => by omega, fun q => by omega⟩
theorem okS_2 {v : Int32} (h : le32 4 v) : okS 2 v := ⟨fun q => by omega, fun _ => h, fun q => by omega⟩
theorem okS_4 {v : Int32} (h : le32 255 v) : okS 4 v := ⟨fun q => by omega, fun q => by omega, fun _ => h⟩
theorem ti_add {v x y : Int32} (e : v = x + y) (h1 : -2147483648 ≤ x.toInt + y.toInt) (h2 : x.toInt + y.toInt < 2147483648) : v.toInt = x.toInt + y.toInt := by
  rw [e, Int32.toInt_add, Int.bmod_def]; split <;> omega
theorem ti_mul {v x y : Int32} {k : Int} (e : v = x * y) (hx : x.toInt = k) (h1 : -2147483648 ≤ k * y.toInt) (h2 : k * y.toInt < 2147483648) : v.toInt = k * y.toInt := by
  rw [e, Int32.toInt_mul, hx, Int.bmod_def]; split <;> omega
theorem ti_sub {v x y : Int32} (e : v = x - y) (h1 : -2147483648 ≤ x.toInt - y.toInt) (h2 : x.toInt - y.toInt < 2147483648) : v.toInt = x.toInt - y.toInt := by
  rw [e, Int32.toInt_sub, Int.bmod_def]; split <;> omega
theorem or_z {w : Nat} : (nI w ||| nI 0) = nI w := by
  apply Int32.toBitVec_inj.mp
  show BitVec.ofNat 32 w ||| BitVec.ofNat 32 0 = BitVec.ofNat 32 w
  simp
theorem okS_cg {i j : Nat} {v : Int32} (h : i = j) (hv : okS i v) : okS j v := h ▸ hv
theorem okT_cg {i j : Nat} {v : Int32} (h : i = j) (hv : okT i v) : okT j v := h ▸ hv
/-- keep's answer hangs on its argument alone -/
def kpR (i : Int32) : Int32 := if 0 ≤ i.toInt ∧ i.toInt ≤ 1 then nI 1 else (-1000000001)
/-- feed's answer and the text's length behind it hang on the letter and the length -/
def fdR (c : Int32) (n : Nat) : Int32 := if c.toInt < 0 ∨ 255 < c.toInt then (-1000000002) else if n = 240 then (-1000000004) else nI (n + 1)
def fdN (c : Int32) (n : Nat) : Nat := if c.toInt < 0 ∨ 255 < c.toInt then n else if n = 240 then n else n + 1
