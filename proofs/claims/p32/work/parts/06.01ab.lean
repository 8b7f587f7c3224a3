/-! The abstract state: role, field or element; references as numbers of roles -/
abbrev SS : Type := Nat → Nat → Int32
def rl (x : Int32) : Nat := x.toNatClampNeg
def ro (ad : Nat → Nat) (a : Nat) : Nat := ((List.range rN).find? (fun i => ad i == a)).getD 0
theorem ro_ad {ad : Nat → Nat} (hI : rI ad) {i : Nat} (h : i < rN) : ro ad (ad i) = i := by
  unfold ro
  cases hf : (List.range rN).find? (fun j => ad j == ad i) with
  | none =>
    have := List.find?_eq_none.mp hf i (List.mem_range.mpr h)
    simp at this
  | some j =>
    have h1 := List.find?_some hf
    have h2 := List.mem_range.mp (List.mem_of_find?_eq_some hf)
    exact hI j i h2 h (by simpa using h1)
def abE (ad : Nat → Nat) (e : va_E) (k : Nat) : Int32 := match e with
  | .inr (_, fs) => (match fs[k]? with | some (.int x) => x | some (.ref a) => nI (ro ad a) | _ => 0)
  | .inl (_, _, .inl g) => g k
  | .inl (_, _, .inr (.inr (.inr (.inr g)))) => (match g k with | some a => nI (ro ad a) | none => 0)
  | _ => 0
def AB (ad : Nat → Nat) (F : Nat → va_E) : SS := fun i k => abE ad (F i) k
def st (σ : SS) (i k : Nat) (v : Int32) : SS := fun i' k' => if i' = i ∧ k' = k then v else σ i' k'
section AB
variable {ad : Nat → Nat} {F F' : Nat → va_E} {i k : Nat}
theorem rl_nI {n : Nat} (h : n < rN) : rl (nI n) = n := nI_clamp (Nat.lt_of_lt_of_le h (by decide))
theorem AB_f {ci : Nat} {fs : List Value} {x : Int32} (hF : F i = .inr (ci, fs)) (hk : fs[k]? = some (.int x)) : AB ad F i k = x := by
  unfold AB abE; rw [hF]; simp only [hk]
theorem AB_r {ci c : Nat} {fs : List Value} (hI : rI ad) (hc : c < rN) (hF : F i = .inr (ci, fs)) (hk : fs[k]? = some (.ref (ad c))) : rl (AB ad F i k) = c := by
  unfold AB abE; rw [hF]; simp only [hk]; rw [ro_ad hI hc, rl_nI hc]
theorem AB_g {a : ClassId} {n : Nat} {g : Nat → Int32} (hF : F i = .inl (a, n, .inl g)) : AB ad F i k = g k := by
  unfold AB abE; rw [hF]
theorem AB_q {a : ClassId} {n c : Nat} {g : Nat → Option Nat} (hI : rI ad) (hc : c < rN) (hF : F i = .inl (a, n, .inr (.inr (.inr (.inr g))))) (hg : g k = some (ad c)) : rl (AB ad F i k) = c := by
  unfold AB abE; rw [hF]; simp only [hg]; rw [ro_ad hI hc, rl_nI hc]
theorem AB_put {ci : Nat} {fs : List Value} {x : Int32} (hF : F i = .inr (ci, fs)) (hl : k < fs.length) (e : F' = va_up F i (.inr (ci, fs.set k (.int x)))) : AB ad F' = st (AB ad F) i k x := by
  funext i' k'
  show abE ad (F' i') k' = if i' = i ∧ k' = k then x else abE ad (F i') k'
  rw [e]
  by_cases hi : i' = i
  · subst hi
    rw [va_up_self]
    by_cases hk : k' = k
    · subst hk
      rw [if_pos ⟨rfl, rfl⟩]; unfold abE; simp only [List.getElem?_set_self hl]
    · rw [if_neg (fun q => hk q.2), hF]; unfold abE; simp only [List.getElem?_set_ne (Ne.symm hk)]
  · rw [va_up_ne _ _ hi, if_neg (fun q => hi q.1)]
theorem AB_putr {ci c : Nat} {fs : List Value} (hI : rI ad) (hc : c < rN) (hF : F i = .inr (ci, fs)) (hl : k < fs.length) (e : F' = va_up F i (.inr (ci, fs.set k (.ref (ad c))))) : AB ad F' = st (AB ad F) i k (nI c) := by
  funext i' k'
  show abE ad (F' i') k' = if i' = i ∧ k' = k then (nI c) else abE ad (F i') k'
  rw [e]
  by_cases hi : i' = i
  · subst hi
    rw [va_up_self]
    by_cases hk : k' = k
    · subst hk
      rw [if_pos ⟨rfl, rfl⟩]; unfold abE; simp only [List.getElem?_set_self hl]; rw [ro_ad hI hc]
    · rw [if_neg (fun q => hk q.2), hF]; unfold abE; simp only [List.getElem?_set_ne (Ne.symm hk)]
  · rw [va_up_ne _ _ hi, if_neg (fun q => hi q.1)]
theorem AB_ast {a : ClassId} {n : Nat} {g : Nat → Int32} {x : Int32} (hF : F i = .inl (a, n, .inl g)) (e : F' = va_up F i (.inl (a, n, .inl (upd g k x)))) : AB ad F' = st (AB ad F) i k x := by
  funext i' k'
  show abE ad (F' i') k' = if i' = i ∧ k' = k then x else abE ad (F i') k'
  rw [e]
  by_cases hi : i' = i
  · subst hi
    rw [va_up_self]
    by_cases hk : k' = k
    · subst hk
      rw [if_pos ⟨rfl, rfl⟩]; unfold abE; exact pk_us
    · rw [if_neg (fun q => hk q.2), hF]; unfold abE; exact pk_un hk
  · rw [va_up_ne _ _ hi, if_neg (fun q => hi q.1)]
theorem AB_aast {a : ClassId} {n c : Nat} {g : Nat → Option Nat} (hI : rI ad) (hc : c < rN) (hF : F i = .inl (a, n, .inr (.inr (.inr (.inr g))))) (e : F' = va_up F i (.inl (a, n, .inr (.inr (.inr (.inr (va_up g k (some (ad c))))))))) : AB ad F' = st (AB ad F) i k (nI c) := by
  funext i' k'
  show abE ad (F' i') k' = if i' = i ∧ k' = k then (nI c) else abE ad (F i') k'
  rw [e]
  by_cases hi : i' = i
  · subst hi
    rw [va_up_self]
    by_cases hk : k' = k
    · subst hk
      rw [if_pos ⟨rfl, rfl⟩]; unfold abE; simp only [va_up_self]; rw [ro_ad hI hc]
    · rw [if_neg (fun q => hk q.2), hF]; unfold abE; simp only [va_up_ne g _ hk]
  · rw [va_up_ne _ _ hi, if_neg (fun q => hi q.1)]
theorem AB_fr {wr : List Nat} (h : rFr wr F F') (hi : i ∉ wr) : AB ad F' i = AB ad F i := by
  funext k; unfold AB; rw [h i hi]
end AB
theorem ab_cg {σ : SS} {i i' : Nat} {x x' : Int32} (h : i' = i) (h2 : x' = x) : σ i' (rl x') = σ i (rl x) := by rw [h, h2]
theorem st_cg {σ : SS} {i i' k k' : Nat} {v v' : Int32} (h : i' = i) (hk : k' = k) (hv : v' = v) : st σ i' k' v' = st σ i k v := by rw [h, hk, hv]
theorem cg1 {α β : Type} (f : α → β) {a a' : α} {v : β} (h : a' = a) (e : v = f a) : f a' = v := by rw [h, e]
theorem cg2 {α β γ : Type} (f : α → β → γ) {a a' : α} {b b' : β} {v : γ} (h : a' = a) (h2 : b' = b) (e : v = f a b) : f a' b' = v := by rw [h, h2, e]
theorem lt_cg {x x' y y' : Int32} (h : x' = x) (h2 : y' = y) (c : x < y) : x' < y' := by rw [h, h2]; exact c
theorem nlt_cg {x x' y y' : Int32} (h : x' = x) (h2 : y' = y) (c : ¬ x < y) : ¬ x' < y' := by rw [h, h2]; exact c
theorem le_cg {x x' y y' : Int32} (h : x' = x) (h2 : y' = y) (c : x ≤ y) : x' ≤ y' := by rw [h, h2]; exact c
theorem nle_cg {x x' y y' : Int32} (h : x' = x) (h2 : y' = y) (c : ¬ x ≤ y) : ¬ x' ≤ y' := by rw [h, h2]; exact c
theorem eq_cg {x x' y y' : Int32} (h : x' = x) (h2 : y' = y) (c : x = y) : x' = y' := by rw [h, h2]; exact c
theorem neq_cg {x x' y y' : Int32} (h : x' = x) (h2 : y' = y) (c : ¬ x = y) : ¬ x' = y' := by rw [h, h2]; exact c
theorem ti_cg {x x' : Int32} {k : Int} (h : x' = x) (c : x.toInt = k) : x'.toInt = k := by rw [h]; exact c
theorem nti_cg {x x' : Int32} {k : Int} (h : x' = x) (c : ¬ x.toInt = k) : ¬ x'.toInt = k := by rw [h]; exact c
def irm (x y : Int32) : Int32 := x - x / y * y
def lrm (x y : Int64) : Int64 := x - x / y * y
def i2c (x : Int32) : Int32 := (x.toUInt32 % 65536).toInt32
def mx32 (x y : Int32) : Int32 := if x < y then y else x
def ius (x y : Int32) : Int32 := (x.toUInt32 >>> (y.toUInt32 &&& Int32.toUInt32 31)).toInt32
