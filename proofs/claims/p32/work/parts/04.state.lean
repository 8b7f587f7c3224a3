/-! What each role holds at all times (weak: bounds alone) -/
def le32 (B : Nat) (v : Int32) : Prop := ∃ a : Nat, a ≤ B ∧ v = nI a
def okS (j : Nat) (v : Int32) : Prop := (j = 0 → le32 7 v) ∧ (j = 2 → le32 4 v) ∧ (j = 4 → le32 255 v)
def okT (j : Nat) (v : Int32) : Prop := (j = 0 → le32 4 v) ∧ (j = 2 → le32 8 v) ∧ (j = 3 → le32 12 v)
def rPr (a j : Nat) (v : Int32) : Prop := if a = 60 ∨ a = 61 then okT j v else if a = 62 then okS j v else if a = 63 then okS (j % 7) v else if a = 64 then okS (j % 8) v else if a = 66 then le32 383 v else True
def rLI : List (Nat × Nat) := [(27, 1480), (28, 5), (29, 5), (34, 8), (35, 8), (36, 8), (37, 245), (38, 245), (42, 2), (44, 15), (45, 8), (47, 8), (48, 8), (49, 8), (50, 12), (51, 12), (53, 8), (54, 8), (55, 8), (56, 12), (57, 12), (59, 240), (60, 52), (61, 52), (62, 7), (63, 140), (64, 16), (66, 8), (67, 15), (68, 1480)]
def rLL : List (Nat × Nat) := [(31, 160), (32, 160), (69, 256), (70, 256), (71, 49)]
def rLZ : List (Nat × Nat) := [(43, 2), (65, 2)]
def isJ (j : Nat) : Prop := j = 3 ∨ (6 ≤ j ∧ j < 26) ∨ j = 40 ∨ j = 41
def isC (i : Nat) : Prop := i = 46 ∨ i = 52
def okMain (ad : Nat → Nat) (e : va_E) : Prop := ∃ (c d k : Nat) (dr : Int32), e = .inr (7, [.ref (ad 1), .ref (ad 3), .ref (ad 4), .ref (ad 26), .ref (ad 30), .ref (ad 33), .ref (ad 39), .ref (ad 42), .ref (ad 43), .ref (ad 44), .ref (ad 45), .ref (ad c), .ref (ad d), .int (nI k), .int dr]) ∧ isC c ∧ isC d ∧ k ≤ 15
def okText (ad : Nat → Nat) (e : va_E) : Prop := ∃ (n a : Nat) (f fa nu : Int32), e = .inr (5, [.ref (ad 2), .int (nI n), .int f, .int fa, .int (nI a), .int nu]) ∧ n ≤ 240 ∧ a ≤ 240
def okLet (cA : Nat → ClassId) (e : va_E) : Prop := ∃ g : Nat → Int32, e = .inl (cA 1, 240, .inl g)
def okPast (ad : Nat → Nat) (e : va_E) : Prop := ∃ k : Nat, e = .inr (2, [.ref (ad 5), .int (nI k)]) ∧ k ≤ 20
def okKept (cA ad : Nat → Nat) (e : va_E) : Prop := ∃ g : Nat → Option Nat, e = .inl (cA 4, 20, .inr (.inr (.inr (.inr g)))) ∧ ∀ i, i < 20 → ∃ j, (6 ≤ j ∧ j < 26) ∧ g i = some (ad j)
def okPlan (ad : Nat → Nat) (e : va_E) : Prop := e = .inr (3, [.ref (ad 27), .ref (ad 28), .ref (ad 29)])
def okSearch (ad : Nat → Nat) (e : va_E) : Prop := ∃ a b : Nat, e = .inr (4, [.ref (ad a), .ref (ad b)]) ∧ (a = 31 ∨ a = 32) ∧ (b = 31 ∨ b = 32)
def okWays (ad : Nat → Nat) (e : va_E) : Prop := ∃ k : Nat, e = .inr (6, [.int (nI k), .ref (ad 34), .ref (ad 35), .ref (ad 36), .ref (ad 37), .ref (ad 38)]) ∧ k ≤ 8
def okImg (cA ad : Nat → Nat) (e : va_E) : Prop := ∃ g : Nat → Option Nat, e = .inl (cA 4, 2, .inr (.inr (.inr (.inr g)))) ∧ ∀ i, i < 2 → ∃ j, (j = 40 ∨ j = 41) ∧ g i = some (ad j)
def okJ (e : va_E) : Prop := ∃ (a b c d x y : Int32) (k : Nat), e = .inr (1, [.int a, .int b, .int c, .int d, .int x, .int y, .int (nI k)]) ∧ k ≤ 1
def okC (ad : Nat → Nat) (i : Nat) (e : va_E) : Prop := ∃ (sl : Nat) (fm : Int32) (tn rn : Nat) (bn : Int32), e = .inr (0, [.int (nI sl), .int fm, .int (nI tn), .int (nI rn), .int bn, .ref (ad (i + 1)), .ref (ad (i + 2)), .ref (ad (i + 3)), .ref (ad (i + 4)), .ref (ad (i + 5))]) ∧ sl ≤ 4 ∧ tn ≤ 8 ∧ rn ≤ 12
def okM (ad : Nat → Nat) (e : va_E) : Prop := ∃ (ty kn no en at' sa : Nat) (sd wr pl va : Int32), e = .inr (8, [.ref (ad 59), .int (nI ty), .ref (ad 60), .ref (ad 61), .ref (ad 62), .ref (ad 63), .int (nI kn), .ref (ad 64), .ref (ad 65), .int sd, .ref (ad 66), .int (nI no), .ref (ad 67), .int (nI en), .int (nI at'), .int wr, .int pl, .int va, .int (nI sa), .ref (ad 68), .ref (ad 69), .ref (ad 70), .ref (ad 71)]) ∧ ty ≤ 240 ∧ kn ≤ 20 ∧ no ≤ 8 ∧ en ≤ 15 ∧ at' ≤ 240 ∧ sa ≤ 240
def okI (cA : Nat → ClassId) (a n : Nat) (e : va_E) : Prop := ∃ g : Nat → Int32, e = .inl (cA 0, n, .inl g) ∧ ∀ j, j < n → rPr a j (g j)
def okL (cA : Nat → ClassId) (n : Nat) (e : va_E) : Prop := ∃ g : Nat → Int64, e = .inl (cA 2, n, .inr (.inl g))
def okZ (cA : Nat → ClassId) (n : Nat) (e : va_E) : Prop := ∃ g : Nat → Int32, e = .inl (cA 3, n, .inl g)
def okR (cA ad : Nat → Nat) (i : Nat) (e : va_E) : Prop := (i = 0 → okMain ad e) ∧ (i = 1 → okText ad e) ∧ (i = 2 → okLet cA e) ∧ (i = 4 → okPast ad e) ∧ (i = 5 → okKept cA ad e) ∧ (i = 26 → okPlan ad e) ∧ (i = 30 → okSearch ad e) ∧ (i = 33 → okWays ad e) ∧ (i = 39 → okImg cA ad e) ∧ (i = 58 → okM ad e) ∧ (isJ i → okJ e) ∧ (isC i → okC ad i e) ∧ (∀ n, (i, n) ∈ rLI → okI cA i n e) ∧ (∀ n, (i, n) ∈ rLL → okL cA n e) ∧ (∀ n, (i, n) ∈ rLZ → okZ cA n e)
def WT (cA ad : Nat → Nat) (F : Nat → va_E) : Prop := ∀ i, okR cA ad i (F i)
/-- nothing but the roles in wr has changed -/
def rFr (wr : List Nat) (F F' : Nat → va_E) : Prop := ∀ i, i ∉ wr → F' i = F i
theorem rFr.rf {wr : List Nat} {F : Nat → va_E} : rFr wr F F := fun _ _ => rfl
theorem rFr.tr {wr wr' : List Nat} {F F' F'' : Nat → va_E} (h : rFr wr F F') (h' : rFr wr' F' F'') (hs : ∀ i ∈ wr', i ∈ wr) : rFr wr F F'' := fun i hi => (h' i (fun q => hi (hs i q))).trans (h i hi)
theorem rFr.up {wr : List Nat} {F F' F'' : Nat → va_E} (h : rFr wr F F') {i : Nat} {e : va_E} (he : F'' = va_up F' i e) (hi : i ∈ wr) : rFr wr F F'' := fun j hj => by rw [he, va_up_ne _ _ (fun q => hj (by rw [q]; exact hi))]; exact h j hj
theorem WT.up {cA ad : Nat → Nat} {F F' : Nat → va_E} (h : WT cA ad F) {i : Nat} {e : va_E} (he : F' = va_up F i e) (ok : okR cA ad i e) : WT cA ad F' := by
  intro j
  rw [he]
  by_cases hj : j = i
  · subst hj; rw [va_up_self]; exact ok
  · rw [va_up_ne _ _ hj]; exact h j
section OK
variable {cA ad : Nat → Nat} {F : Nat → va_E} {e : va_E}
theorem wt_main (h : WT cA ad F) : okMain ad (F 0) := (h 0).1 rfl
theorem wt_text (h : WT cA ad F) : okText ad (F 1) := (h 1).2.1 rfl
theorem wt_let (h : WT cA ad F) : okLet cA (F 2) := (h 2).2.2.1 rfl
theorem wt_past (h : WT cA ad F) : okPast ad (F 4) := (h 4).2.2.2.1 rfl
theorem wt_kept (h : WT cA ad F) : okKept cA ad (F 5) := (h 5).2.2.2.2.1 rfl
theorem wt_plan (h : WT cA ad F) : okPlan ad (F 26) := (h 26).2.2.2.2.2.1 rfl
theorem wt_search (h : WT cA ad F) : okSearch ad (F 30) := (h 30).2.2.2.2.2.2.1 rfl
theorem wt_ways (h : WT cA ad F) : okWays ad (F 33) := (h 33).2.2.2.2.2.2.2.1 rfl
theorem wt_img (h : WT cA ad F) : okImg cA ad (F 39) := (h 39).2.2.2.2.2.2.2.2.1 rfl
theorem wt_m (h : WT cA ad F) : okM ad (F 58) := (h 58).2.2.2.2.2.2.2.2.2.1 rfl
theorem wt_J (h : WT cA ad F) {j : Nat} (hj : isJ j) : okJ (F j) := (h j).2.2.2.2.2.2.2.2.2.2.1 hj
theorem wt_C (h : WT cA ad F) {i : Nat} (hi : isC i) : okC ad i (F i) := (h i).2.2.2.2.2.2.2.2.2.2.2.1 hi
theorem wt_I (h : WT cA ad F) {a n : Nat} (ha : (a, n) ∈ rLI) : okI cA a n (F a) := (h a).2.2.2.2.2.2.2.2.2.2.2.2.1 n ha
theorem wt_L (h : WT cA ad F) {a n : Nat} (ha : (a, n) ∈ rLL) : okL cA n (F a) := (h a).2.2.2.2.2.2.2.2.2.2.2.2.2.1 n ha
theorem wt_Z (h : WT cA ad F) {a n : Nat} (ha : (a, n) ∈ rLZ) : okZ cA n (F a) := (h a).2.2.2.2.2.2.2.2.2.2.2.2.2.2 n ha
theorem not_I {i : Nat} (h : (rLI.all fun q => decide (q.1 ≠ i)) = true) (n : Nat) : (i, n) ∉ rLI := fun q => by
  have := List.all_eq_true.mp h _ q
  simp at this
theorem not_L {i : Nat} (h : (rLL.all fun q => decide (q.1 ≠ i)) = true) (n : Nat) : (i, n) ∉ rLL := fun q => by
  have := List.all_eq_true.mp h _ q
  simp at this
theorem not_Z {i : Nat} (h : (rLZ.all fun q => decide (q.1 ≠ i)) = true) (n : Nat) : (i, n) ∉ rLZ := fun q => by
  have := List.all_eq_true.mp h _ q
  simp at this
theorem in_I {a n : Nat} (h : (a, n) ∈ rLI) : a ∈ [27, 28, 29, 34, 35, 36, 37, 38, 42, 44, 45, 47, 48, 49, 50, 51, 53, 54, 55, 56, 57, 59, 60, 61, 62, 63, 64, 66, 67, 68] := by
  have : (a, n).1 ∈ rLI.map Prod.fst := List.mem_map_of_mem h
  exact this
theorem in_L {a n : Nat} (h : (a, n) ∈ rLL) : a ∈ [31, 32, 69, 70, 71] := by
  have : (a, n).1 ∈ rLL.map Prod.fst := List.mem_map_of_mem h
  exact this
theorem in_Z {a n : Nat} (h : (a, n) ∈ rLZ) : a ∈ [43, 65] := by
  have : (a, n).1 ∈ rLZ.map Prod.fst := List.mem_map_of_mem h
  exact this
theorem ok_main (h : okMain ad e) : okR cA ad 0 e := ⟨fun _ => h, fun q => absurd q (by decide), fun q => absurd q (by decide), fun q => absurd q (by decide), fun q => absurd q (by decide), fun q => absurd q (by decide), fun q => absurd q (by decide), fun q => absurd q (by decide), fun q => absurd q (by decide), fun q => absurd q (by decide), fun q => by unfold isJ at q; omega, fun q => by unfold isC at q; omega, fun n q => absurd q (not_I (by decide +kernel) n), fun n q => absurd q (not_L (by decide +kernel) n), fun n q => absurd q (not_Z (by decide +kernel) n)⟩
theorem ok_text (h : okText ad e) : okR cA ad 1 e := ⟨fun q => absurd q (by decide), fun _ => h, fun q => absurd q (by decide), fun q => absurd q (by decide), fun q => absurd q (by decide), fun q => absurd q (by decide), fun q => absurd q (by decide), fun q => absurd q (by decide), fun q => absurd q (by decide), fun q => absurd q (by decide), fun q => by unfold isJ at q; omega, fun q => by unfold isC at q; omega, fun n q => absurd q (not_I (by decide +kernel) n), fun n q => absurd q (not_L (by decide +kernel) n), fun n q => absurd q (not_Z (by decide +kernel) n)⟩
theorem ok_let (h : okLet cA e) : okR cA ad 2 e := ⟨fun q => absurd q (by decide), fun q => absurd q (by decide), fun _ => h, fun q => absurd q (by decide), fun q => absurd q (by decide), fun q => absurd q (by decide), fun q => absurd q (by decide), fun q => absurd q (by decide), fun q => absurd q (by decide), fun q => absurd q (by decide), fun q => by unfold isJ at q; omega, fun q => by unfold isC at q; omega, fun n q => absurd q (not_I (by decide +kernel) n), fun n q => absurd q (not_L (by decide +kernel) n), fun n q => absurd q (not_Z (by decide +kernel) n)⟩
theorem ok_past (h : okPast ad e) : okR cA ad 4 e := ⟨fun q => absurd q (by decide), fun q => absurd q (by decide), fun q => absurd q (by decide), fun _ => h, fun q => absurd q (by decide), fun q => absurd q (by decide), fun q => absurd q (by decide), fun q => absurd q (by decide), fun q => absurd q (by decide), fun q => absurd q (by decide), fun q => by unfold isJ at q; omega, fun q => by unfold isC at q; omega, fun n q => absurd q (not_I (by decide +kernel) n), fun n q => absurd q (not_L (by decide +kernel) n), fun n q => absurd q (not_Z (by decide +kernel) n)⟩
theorem ok_kept (h : okKept cA ad e) : okR cA ad 5 e := ⟨fun q => absurd q (by decide), fun q => absurd q (by decide), fun q => absurd q (by decide), fun q => absurd q (by decide), fun _ => h, fun q => absurd q (by decide), fun q => absurd q (by decide), fun q => absurd q (by decide), fun q => absurd q (by decide), fun q => absurd q (by decide), fun q => by unfold isJ at q; omega, fun q => by unfold isC at q; omega, fun n q => absurd q (not_I (by decide +kernel) n), fun n q => absurd q (not_L (by decide +kernel) n), fun n q => absurd q (not_Z (by decide +kernel) n)⟩
theorem ok_plan (h : okPlan ad e) : okR cA ad 26 e := ⟨fun q => absurd q (by decide), fun q => absurd q (by decide), fun q => absurd q (by decide), fun q => absurd q (by decide), fun q => absurd q (by decide), fun _ => h, fun q => absurd q (by decide), fun q => absurd q (by decide), fun q => absurd q (by decide), fun q => absurd q (by decide), fun q => by unfold isJ at q; omega, fun q => by unfold isC at q; omega, fun n q => absurd q (not_I (by decide +kernel) n), fun n q => absurd q (not_L (by decide +kernel) n), fun n q => absurd q (not_Z (by decide +kernel) n)⟩
theorem ok_search (h : okSearch ad e) : okR cA ad 30 e := ⟨fun q => absurd q (by decide), fun q => absurd q (by decide), fun q => absurd q (by decide), fun q => absurd q (by decide), fun q => absurd q (by decide), fun q => absurd q (by decide), fun _ => h, fun q => absurd q (by decide), fun q => absurd q (by decide), fun q => absurd q (by decide), fun q => by unfold isJ at q; omega, fun q => by unfold isC at q; omega, fun n q => absurd q (not_I (by decide +kernel) n), fun n q => absurd q (not_L (by decide +kernel) n), fun n q => absurd q (not_Z (by decide +kernel) n)⟩
theorem ok_ways (h : okWays ad e) : okR cA ad 33 e := ⟨fun q => absurd q (by decide), fun q => absurd q (by decide), fun q => absurd q (by decide), fun q => absurd q (by decide), fun q => absurd q (by decide), fun q => absurd q (by decide), fun q => absurd q (by decide), fun _ => h, fun q => absurd q (by decide), fun q => absurd q (by decide), fun q => by unfold isJ at q; omega, fun q => by unfold isC at q; omega, fun n q => absurd q (not_I (by decide +kernel) n), fun n q => absurd q (not_L (by decide +kernel) n), fun n q => absurd q (not_Z (by decide +kernel) n)⟩
theorem ok_img (h : okImg cA ad e) : okR cA ad 39 e := ⟨fun q => absurd q (by decide), fun q => absurd q (by decide), fun q => absurd q (by decide), fun q => absurd q (by decide), fun q => absurd q (by decide), fun q => absurd q (by decide), fun q => absurd q (by decide), fun q => absurd q (by decide), fun _ => h, fun q => absurd q (by decide), fun q => by unfold isJ at q; omega, fun q => by unfold isC at q; omega, fun n q => absurd q (not_I (by decide +kernel) n), fun n q => absurd q (not_L (by decide +kernel) n), fun n q => absurd q (not_Z (by decide +kernel) n)⟩
theorem ok_m (h : okM ad e) : okR cA ad 58 e := ⟨fun q => absurd q (by decide), fun q => absurd q (by decide), fun q => absurd q (by decide), fun q => absurd q (by decide), fun q => absurd q (by decide), fun q => absurd q (by decide), fun q => absurd q (by decide), fun q => absurd q (by decide), fun q => absurd q (by decide), fun _ => h, fun q => by unfold isJ at q; omega, fun q => by unfold isC at q; omega, fun n q => absurd q (not_I (by decide +kernel) n), fun n q => absurd q (not_L (by decide +kernel) n), fun n q => absurd q (not_Z (by decide +kernel) n)⟩
theorem ok_J {j : Nat} (hj : isJ j) (h : okJ e) : okR cA ad j e := by
  have hj' := hj
  unfold isJ at hj'
  refine ⟨fun q => by omega, fun q => by omega, fun q => by omega, fun q => by omega, fun q => by omega, fun q => by omega, fun q => by omega, fun q => by omega, fun q => by omega, fun q => by omega, fun _ => h, fun q => by unfold isC at q; omega, fun n q => ?_, fun n q => ?_, fun n q => ?_⟩
  · have := in_I q; simp only [List.mem_cons, List.not_mem_nil, or_false] at this; omega
  · have := in_L q; simp only [List.mem_cons, List.not_mem_nil, or_false] at this; omega
  · have := in_Z q; simp only [List.mem_cons, List.not_mem_nil, or_false] at this; omega
theorem ok_C {i : Nat} (hi : isC i) (h : okC ad i e) : okR cA ad i e := by
  have hi' := hi
  unfold isC at hi'
  refine ⟨fun q => by omega, fun q => by omega, fun q => by omega, fun q => by omega, fun q => by omega, fun q => by omega, fun q => by omega, fun q => by omega, fun q => by omega, fun q => by omega, fun q => by unfold isJ at q; omega, fun _ => h, fun n q => ?_, fun n q => ?_, fun n q => ?_⟩
  · have := in_I q; simp only [List.mem_cons, List.not_mem_nil, or_false] at this; omega
  · have := in_L q; simp only [List.mem_cons, List.not_mem_nil, or_false] at this; omega
  · have := in_Z q; simp only [List.mem_cons, List.not_mem_nil, or_false] at this; omega
theorem nd_I : ∀ p ∈ rLI, ∀ q ∈ rLI, p.1 = q.1 → p.2 = q.2 := by decide +kernel
theorem nd_L : ∀ p ∈ rLL, ∀ q ∈ rLL, p.1 = q.1 → p.2 = q.2 := by decide +kernel
theorem nd_Z : ∀ p ∈ rLZ, ∀ q ∈ rLZ, p.1 = q.1 → p.2 = q.2 := by decide +kernel
theorem ok_I {a n : Nat} (ha : (a, n) ∈ rLI) (h : okI cA a n e) : okR cA ad a e := by
  have h1 := in_I ha
  simp only [List.mem_cons, List.not_mem_nil, or_false] at h1
  refine ⟨fun q => by omega, fun q => by omega, fun q => by omega, fun q => by omega, fun q => by omega, fun q => by omega, fun q => by omega, fun q => by omega, fun q => by omega, fun q => by omega, fun q => by unfold isJ at q; omega, fun q => by unfold isC at q; omega, fun k q => ?_, fun k q => ?_, fun k q => ?_⟩
  · have := nd_I _ ha _ q rfl; dsimp only at this; subst this; exact h
  · have := in_L q; simp only [List.mem_cons, List.not_mem_nil, or_false] at this; omega
  · have := in_Z q; simp only [List.mem_cons, List.not_mem_nil, or_false] at this; omega
theorem ok_L {a n : Nat} (ha : (a, n) ∈ rLL) (h : okL cA n e) : okR cA ad a e := by
  have h1 := in_L ha
  simp only [List.mem_cons, List.not_mem_nil, or_false] at h1
  refine ⟨fun q => by omega, fun q => by omega, fun q => by omega, fun q => by omega, fun q => by omega, fun q => by omega, fun q => by omega, fun q => by omega, fun q => by omega, fun q => by omega, fun q => by unfold isJ at q; omega, fun q => by unfold isC at q; omega, fun k q => ?_, fun k q => ?_, fun k q => ?_⟩
  · have := in_I q; simp only [List.mem_cons, List.not_mem_nil, or_false] at this; omega
  · have := nd_L _ ha _ q rfl; dsimp only at this; subst this; exact h
  · have := in_Z q; simp only [List.mem_cons, List.not_mem_nil, or_false] at this; omega
theorem ok_Z {a n : Nat} (ha : (a, n) ∈ rLZ) (h : okZ cA n e) : okR cA ad a e := by
  have h1 := in_Z ha
  simp only [List.mem_cons, List.not_mem_nil, or_false] at h1
  refine ⟨fun q => by omega, fun q => by omega, fun q => by omega, fun q => by omega, fun q => by omega, fun q => by omega, fun q => by omega, fun q => by omega, fun q => by omega, fun q => by omega, fun q => by unfold isJ at q; omega, fun q => by unfold isC at q; omega, fun k q => ?_, fun k q => ?_, fun k q => ?_⟩
  · have := in_I q; simp only [List.mem_cons, List.not_mem_nil, or_false] at this; omega
  · have := in_L q; simp only [List.mem_cons, List.not_mem_nil, or_false] at this; omega
  · have := nd_Z _ ha _ q rfl; dsimp only at this; subst this; exact h
end OK
theorem lt_I {a n : Nat} (h : (a, n) ∈ rLI) : a < rN := by
  have := in_I h; simp only [List.mem_cons, List.not_mem_nil, or_false] at this; unfold rN; omega
theorem lt_L {a n : Nat} (h : (a, n) ∈ rLL) : a < rN := by
  have := in_L h; simp only [List.mem_cons, List.not_mem_nil, or_false] at this; unfold rN; omega
theorem lt_J {j : Nat} (h : isJ j) : j < rN := by unfold isJ at h; unfold rN; omega
theorem lt_C {i : Nat} (h : isC i) : i < rN := by unfold isC at h; unfold rN; omega
theorem C1_I {i : Nat} (h : isC i) : (i + 1, 8) ∈ rLI := by rcases h with rfl | rfl <;> decide
theorem C2_I {i : Nat} (h : isC i) : (i + 2, 8) ∈ rLI := by rcases h with rfl | rfl <;> decide
theorem C3_I {i : Nat} (h : isC i) : (i + 3, 8) ∈ rLI := by rcases h with rfl | rfl <;> decide
theorem C4_I {i : Nat} (h : isC i) : (i + 4, 12) ∈ rLI := by rcases h with rfl | rfl <;> decide
theorem C5_I {i : Nat} (h : isC i) : (i + 5, 12) ∈ rLI := by rcases h with rfl | rfl <;> decide
theorem S_L {a : Nat} (h : a = 31 ∨ a = 32) : (a, 160) ∈ rLL := by rcases h with rfl | rfl <;> decide
/-- what a comparison says, in whole numbers -/
theorem ci_lt {x y : Int32} {a b : Int} (hx : x.toInt = a) (hy : y.toInt = b) (h : x < y) : a < b := by rw [← hx, ← hy]; exact Int32.lt_iff_toInt_lt.mp h
theorem ci_nlt {x y : Int32} {a b : Int} (hx : x.toInt = a) (hy : y.toInt = b) (h : ¬ x < y) : b ≤ a := by rw [← hx, ← hy]; exact Int.not_lt.mp (fun q => h (Int32.lt_iff_toInt_lt.mpr q))
theorem ci_le {x y : Int32} {a b : Int} (hx : x.toInt = a) (hy : y.toInt = b) (h : x ≤ y) : a ≤ b := by rw [← hx, ← hy]; exact Int32.le_iff_toInt_le.mp h
theorem ci_nle {x y : Int32} {a b : Int} (hx : x.toInt = a) (hy : y.toInt = b) (h : ¬ x ≤ y) : b < a := by rw [← hx, ← hy]; exact Int.not_le.mp (fun q => h (Int32.le_iff_toInt_le.mpr q))
theorem ci_eq {x y : Int32} {a b : Int} (hx : x.toInt = a) (hy : y.toInt = b) (h : x = y) : a = b := by rw [← hx, ← hy, h]
theorem ci_ne {x y : Int32} {a b : Int} (hx : x.toInt = a) (hy : y.toInt = b) (h : ¬ x = y) : a ≠ b := by rw [← hx, ← hy]; exact fun q => h (Int32.toInt_inj.mp q)
theorem in_of {x : Int32} {a : Int} {n : Nat} (hx : x.toInt = a) (h0 : 0 ≤ a) (h1 : a < n) : vp_in x n := vp_in_iff.mpr ⟨by rw [hx]; exact h0, by rw [hx]; exact h1⟩
theorem nI_of_toInt {x : Int32} {n : Nat} (h : x.toInt = n) : x = nI n := by
  have hn : n < 2 ^ 31 := by have := Int32.toInt_lt x; omega
  exact Int32.toInt_inj.mp (by rw [h, nI_toInt hn])
theorem nI_of_le {x : Int32} {B : Nat} (h0 : 0 ≤ x.toInt) (h1 : x.toInt ≤ B) : ∃ j : Nat, j ≤ B ∧ x = nI j := ⟨x.toInt.toNat, by omega, nI_of_toInt (by omega)⟩
theorem pr_of {a j : Nat} {v : Int32} (h : a ∉ [60, 61, 62, 63, 64, 66]) : rPr a j v := by
  simp only [List.mem_cons, List.not_mem_nil, or_false] at h
  unfold rPr
  rw [if_neg (by omega), if_neg (by omega), if_neg (by omega), if_neg (by omega), if_neg (by omega)]
  trivial
theorem okI_up {cA : Nat → ClassId} {a n : Nat} {g : Nat → Int32} {x v : Int32} (h : ∀ j, j < n → rPr a j (g j)) (hv : rPr a x.toNatClampNeg v) : okI cA a n (.inl (cA 0, n, .inl (upd g x.toNatClampNeg v))) := by
  refine ⟨_, rfl, fun j hj => ?_⟩
  by_cases hq : j = x.toNatClampNeg
  · subst hq; rw [pk_us]; exact hv
  · rw [pk_un hq]; exact h j hj
theorem z_ti : (0 : Int32).toInt = 0 := by decide +kernel
theorem C_u {i k : Nat} (h : isC i) (h1 : 1 ≤ k) (h5 : k ≤ 5) : i + k ∉ [60, 61, 62, 63, 64, 66] := by
  simp only [List.mem_cons, List.not_mem_nil, or_false]; unfold isC at h; omega
theorem le_bool {v : Int32} (h : v = 0 ∨ v = 1) : le32 1 v := by
  rcases h with rfl | rfl
  · exact ⟨0, by omega, rfl⟩
  · exact ⟨1, by omega, rfl⟩
