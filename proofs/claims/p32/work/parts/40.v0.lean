/-! the relation at the law's loop -/
def inCb (i : Nat) : Bool := decide (i ≤ 25) || (decide (33 ≤ i) && decide (i ≤ 35)) || (decide (39 ≤ i) && decide (i ≤ 44)) || (decide (46 ≤ i) && decide (i ≤ 57))
def inEb (i : Nat) : Bool := decide (58 ≤ i) && decide (i ≤ 67) && !(decide (i = 61))
theorem nin_of {p : Nat → Bool} {wr : List Nat} (h : (wr.all fun i => !p i) = true) {i : Nat} (hi : p i = true) : i ∉ wr := fun q => by
  have := List.all_eq_true.mp h i q
  rw [hi] at this; cases this
section FR
variable {C C' E E' : SS}
theorem RR.frC (h : RR C E) (h1 : ∀ i, inCb i = true → C' i = C i) : RR C' E := by
  obtain ⟨a1, a2, a3, a4, a5, a6, a7, a8⟩ := h
  have c : ∀ i, inCb i = true → ∀ k, C' i k = C i k := fun i hi k => congrFun (h1 i hi) k
  have m : ∀ i, (i ≤ 25 ∨ (46 ≤ i ∧ i ≤ 57)) → inCb i = true := fun i hi => by
    unfold inCb
    rcases hi with q | q
    · simp [q]
    · simp [q.1, q.2]
  exact ⟨a1.cg (c 1 rfl _) (c 1 rfl _) (h1 2 rfl) rfl rfl rfl, a2.cg (c 0 rfl _) (c 0 rfl _) (fun i p1 p2 => h1 i (m i (by omega))) rfl, a3.cg (c 33 rfl _) (h1 34 rfl) (h1 35 rfl) (c 0 rfl _) (h1 44 rfl) rfl rfl rfl rfl rfl, a4.cg (h1 43 rfl) rfl, a5.cg (h1 3 rfl) rfl, a6.cg (c 0 rfl _) rfl, a7.cg (c 4 rfl _) (h1 5 rfl) (fun i p1 p2 => h1 i (m i (by omega))) rfl rfl, a8.cg (h1 39 rfl) (h1 40 rfl) (h1 41 rfl) (h1 42 rfl) rfl⟩
theorem RR.frE (h : RR C E) (h2 : ∀ i, inEb i = true → E' i = E i) : RR C E' := by
  obtain ⟨a1, a2, a3, a4, a5, a6, a7, a8⟩ := h
  have e : ∀ i, inEb i = true → ∀ k, E' i k = E i k := fun i hi k => congrFun (h2 i hi) k
  exact ⟨a1.cg rfl rfl rfl (e 58 rfl _) (e 58 rfl _) (h2 59 rfl), a2.cg rfl rfl (fun i p1 p2 => rfl) (h2 60 rfl), a3.cg rfl rfl rfl rfl rfl (e 58 rfl _) (e 58 rfl _) (h2 66 rfl) (h2 67 rfl) (e 60 rfl _), a4.cg rfl (h2 65 rfl), a5.cg rfl (h2 62 rfl), a6.cg rfl (e 58 rfl _), a7.cg rfl rfl (fun i p1 p2 => rfl) (e 58 rfl _) (h2 63 rfl), a8.cg rfl rfl rfl rfl (h2 64 rfl)⟩
variable {ad : Nat → Nat} {F F1 : Nat → va_E} {wr : List Nat}
theorem RR.clsF (h : RR (AB ad F) E) (hF : rFr wr F F1) (hw : (wr.all fun i => !inCb i) = true) : RR (AB ad F1) E := h.frC (fun i hi => AB_fr hF (nin_of hw hi))
theorem RR.refF (h : RR C (AB ad F)) (hF : rFr wr F F1) (hw : (wr.all fun i => !inEb i) = true) : RR C (AB ad F1) := h.frE (fun i hi => AB_fr hF (nin_of hw hi))
theorem RR.bothF (h : RR (AB ad F) (AB ad F)) (hF : rFr wr F F1) (hw : (wr.all fun i => !inCb i) = true) (hw2 : (wr.all fun i => !inEb i) = true) : RR (AB ad F1) (AB ad F1) := (h.clsF hF hw).refF hF hw2
theorem hereB {cA : Nat → Nat} (hW : WT cA ad F) : ∃ x, x < 8 ∧ AB ad F 62 0 = nI x := by
  obtain ⟨g, hF, hg⟩ := wt_I hW (show (62, 7) ∈ rLI by decide)
  obtain ⟨a, ha, e⟩ := (pr_S (hg 0 (by decide))).1 rfl
  exact ⟨a, by omega, (AB_g hF).trans e⟩
theorem stayB {cA : Nat → Nat} (hW : WT cA ad F) : ∃ x, x ≤ 4 ∧ AB ad F 62 2 = nI x := by
  obtain ⟨g, hF, hg⟩ := wt_I hW (show (62, 7) ∈ rLI by decide)
  obtain ⟨a, ha, e⟩ := (pr_S (hg 2 (by decide))).2.1 rfl
  exact ⟨a, ha, (AB_g hF).trans e⟩
theorem homeB {cA : Nat → Nat} (hW : WT cA ad F) : ∃ b, b ≤ 1 ∧ AB ad F 3 6 = nI b := by
  obtain ⟨a, b, c, d, x, y, k, hF, hk⟩ := wt_J hW (show isJ 3 from Or.inl rfl)
  exact ⟨k, hk, AB_f hF rfl⟩
theorem AB_rn {ci c i k : Nat} {fs : List Value} (hI : rI ad) (hc : c < rN) (hF : F i = .inr (ci, fs)) (hk : fs[k]? = some (.ref (ad c))) : AB ad F i k = nI c := by
  unfold AB abE; rw [hF]; simp only [hk]; rw [ro_ad hI hc]
theorem AB_qn {a : ClassId} {n c i k : Nat} {g : Nat → Option Nat} (hI : rI ad) (hc : c < rN) (hF : F i = .inl (a, n, .inr (.inr (.inr (.inr g))))) (hg : g k = some (ad c)) : AB ad F i k = nI c := by
  unfold AB abE; rw [hF]; simp only [hg]; rw [ro_ad hI hc]
end FR
theorem limB {cA ad : Nat → Nat} {F : Nat → va_E} (hW : WT cA ad F) : ∃ x, x ≤ 4 ∧ AB ad F 60 0 = nI x := by
  obtain ⟨g, hF, hg⟩ := wt_I hW (show (60, 52) ∈ rLI by decide)
  obtain ⟨a, ha, e⟩ := (pr_T (Or.inl rfl) (hg 0 (by decide))).1 rfl
  exact ⟨a, ha, (AB_g hF).trans e⟩
