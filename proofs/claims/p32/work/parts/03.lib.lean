/-! The state: a family of cells by roles. Role i lies at the address ad i and holds F i. -/
def rN : Nat := 72
def rW (ad : Nat → Nat) (F : Nat → va_E) : va_W := (List.range rN).map (fun i => (ad i, F i))
def rA (ad : Nat → Nat) : Nat → Prop := fun q => ∃ i, i < rN ∧ q = ad i
def rI (ad : Nat → Nat) : Prop := ∀ i j, i < rN → j < rN → ad i = ad j → i = j
abbrev rT (cA : Nat → ClassId) : List (ClassId × FieldType) := [(cA 0, .int), (cA 1, .char), (cA 2, .long), (cA 3, .boolean), (cA 4, .object "JourneyRoads$Journey")]
theorem rW_len (ad : Nat → Nat) (F : Nat → va_E) : (rW ad F).length = rN := by simp [rW]
theorem rW_get {ad : Nat → Nat} {F : Nat → va_E} {i : Nat} (h : i < rN) : (rW ad F)[i]? = some (ad i, F i) := by simp [rW, h]
theorem rW_of {ad : Nat → Nat} {F : Nat → va_E} {k : Nat} {q : Nat × va_E} (h : (rW ad F)[k]? = some q) : k < rN ∧ q = (ad k, F k) := by
  have hk : k < rN := by rw [← rW_len ad F]; exact (List.getElem?_eq_some_iff.mp h).1
  rw [rW_get hk] at h
  exact ⟨hk, (Option.some.inj h).symm⟩
theorem rW_set {ad : Nat → Nat} {F : Nat → va_E} {i : Nat} (e : va_E) (h : i < rN) : (rW ad F).set i (ad i, e) = rW ad (va_up F i e) := by
  apply List.ext_getElem?
  intro j
  by_cases hj : j < rN
  · rw [rW_get hj, List.getElem?_set]
    by_cases hji : i = j
    · subst hji
      rw [if_pos rfl, if_pos (by rw [rW_len]; exact h), va_up_self]
    · rw [if_neg hji, rW_get hj, va_up_ne _ _ (Ne.symm hji)]
  · rw [List.getElem?_eq_none (by rw [List.length_set, rW_len]; omega), List.getElem?_eq_none (by rw [rW_len]; omega)]
theorem rD {ad : Nat → Nat} {F : Nat → va_E} (hI : rI ad) : va_D (rA ad) (rW ad F) := by
  refine ⟨fun i j p q hp hq hpq => ?_, fun k q hq => ?_⟩
  · obtain ⟨h1, rfl⟩ := rW_of hp
    obtain ⟨h2, rfl⟩ := rW_of hq
    exact hI i j h1 h2 hpq
  · obtain ⟨h1, rfl⟩ := rW_of hq
    exact ⟨k, h1, rfl⟩
/-- what every method may take of the tables and of what lies outside: the static table, the links across the nest -/
def rZ (t : Nat) (ad : Nat → Nat) (U : State) : Prop :=
  va_Z "JourneyRoads$SealSearch" "WITHOUT" "[J" (.ref t) (rA ad) U U.heap ∧ (∃ wf : Nat → Int64, va_T .long t 6 (fun j => .long (wf j)) (rA ad) U U.heap) ∧ va_Nw (.methodLinkNest RX3 62 yX7_exitsOf "JourneyRoads") U ∧ va_Nw (.methodLinkNest RX6 73 yX7_exitsOf "JourneyRoads") U
def rP (D : va_G) (cA : Nat → ClassId) (ad : Nat → Nat) (t : Nat) (F : Nat → va_E) (U : State) : Prop := va_P D vwCl (rW ad F) U.heap ∧ va_K D vwCl (rT cA) U ∧ rZ t ad U
theorem rZ.moved {t : Nat} {ad : Nat → Nat} {s U : State} (h : rZ t ad s) (hW : s.WarmedH U.vm) (hk : ∀ q : Nat, q < s.heap.size → ¬ rA ad q → U.heap[q]? = s.heap[q]?) : rZ t ad U := by
  obtain ⟨h1, ⟨wf, h2⟩, h3, h4⟩ := h
  exact ⟨(h1.moved hW.alike).kept hk, ⟨wf, (h2.moved hW.alike).kept hk⟩, va_Nw.warmM hW h3, va_Nw.warmM hW h4⟩
theorem rP.blind {D : va_G} {cA : Nat → ClassId} {ad : Nat → Nat} {t : Nat} {F : Nat → va_E} {av : List Value} : FrameBlind (va_Pc av (rP D cA ad t F)) := by
  intro a U g mk h
  obtain ⟨h0, h1, h2, h3, ⟨wf, h4⟩, h5, h6⟩ := h
  exact ⟨h0, h1, va_K.moved (u := U) (U := U.calling g mk a) (Vm.Alike.refl U.vm) h2, va_Z.moved (u := U) (U := U.calling g mk a) (Vm.Alike.refl U.vm) h3, ⟨wf, va_T.moved (u := U) (U := U.calling g mk a) (Vm.Alike.refl U.vm) h4⟩, va_Nw.same rfl (u := U) (U := U.calling g mk a) rfl h5, va_Nw.same rfl (u := U) (U := U.calling g mk a) rfl h6⟩
/-- contracts: one that writes (int, void), one that only reads (int, long) -/
abbrev MI (l : Launch) (D : va_G) (cA : Nat → ClassId) (ad : Nat → Nat) (t : Nat) (y : MethodName) (ws : List Cond) (rm : Room) (av : List Value) (F : Nat → va_E) (post : Int32 → (Nat → va_E) → Prop) : Prop :=
  Met l y ws rm (va_Pc av (rP D cA ad t F)) (va_Qi post (fun F' U => va_P D vwCl (rW ad F') U.heap) (rA ad)) 0 0 (rA ad)
abbrev MV (l : Launch) (D : va_G) (cA : Nat → ClassId) (ad : Nat → Nat) (t : Nat) (y : MethodName) (ws : List Cond) (rm : Room) (av : List Value) (F : Nat → va_E) (post : (Nat → va_E) → Prop) : Prop :=
  Met l y ws rm (va_Pc av (rP D cA ad t F)) (va_Qv post (fun F' U => va_P D vwCl (rW ad F') U.heap) (rA ad)) 0 0 (rA ad)
abbrev MP (l : Launch) (D : va_G) (cA : Nat → ClassId) (ad : Nat → Nat) (t : Nat) (y : MethodName) (ws : List Cond) (rm : Room) (av : List Value) (F : Nat → va_E) (post : Int32 → Prop) : Prop :=
  Met l y ws rm (va_Pc av (rP D cA ad t F)) (vp_Si post) 0 0 (fun _ => False)
abbrev ML (l : Launch) (D : va_G) (cA : Nat → ClassId) (ad : Nat → Nat) (t : Nat) (y : MethodName) (ws : List Cond) (rm : Room) (av : List Value) (F : Nat → va_E) (post : Int64 → Prop) : Prop :=
  Met l y ws rm (va_Pc av (rP D cA ad t F)) (vp_Sl post) 0 0 (fun _ => False)
section RR
variable {p : Program} {l : Launch} {e : Env} {R : Room} {s : State} {m : MethodId} {args : Array Value} {below : List Frame} {meth : Method} {c : Code} {H : Heap} {locs : List Loc} {cells slots : Nat} {Q : State → Prop}
variable {cc : ByteArray} {pc nL : Nat} {ls : Array Slot} {rest : List Value} {D : va_G} {cA : Nat → ClassId} {ad : Nat → Nat} {t : Nat} {F : Nat → va_E} {Ts : List Cond} {own : String}
theorem r_get (S : CallFix p m c cc nL s args Ts own) (hK : va_K D vwCl (rT cA) s) (hP : va_P D vwCl (rW ad F) H) (i : Nat) (hi : i < rN) {ci : Nat} {fs : List Value} (hF : F i = .inr (ci, fs)) {C : String} {T : u_T} {N : Nat} (hin : ∀ w ∈ u_ws C T N, w ∈ Ts) (hc : vwCl[ci]? = some (C, T, N)) (k : Nat) (hk : k < N) {index : Nat} (hlink : (Cond.fieldLink own index (T k).1 (T k).2.1 (T k).2.2.1) ∈ Ts) {v : Value} (hv : fs[k]? = some v) (hdg : decode cc pc = .ok (.getfield index, 3))
    (kk : W p l e R s m args below meth c H locs cells slots Q (F0 m (pc + 3) ls (v :: rest))) : W p l e R s m args below meth c H locs cells slots Q (F0 m pc ls (.ref (ad i) :: rest)) :=
  va_get S.1 S.2.1 S.2.2.2.2 hin S.2.2.2.1 hK hP i (by rw [rW_get hi, hF]) hc k hk (S.2.2.2.2 _ hlink) (fun _ h => h) hv hdg kk
theorem r_put (S : CallFix p m c cc nL s args Ts own) (hI : rI ad) (hK : va_K D vwCl (rT cA) s) (hP : va_P D vwCl (rW ad F) H) (hS : va_S (rA ad) s.heap H locs) (i : Nat) (hi : i < rN) {ci : Nat} {fs : List Value} (hF : F i = .inr (ci, fs)) {C : String} {T : u_T} {N : Nat} (hin : ∀ w ∈ u_ws C T N, w ∈ Ts) {ty0 : Nat → FieldType} (hty : ∀ k, k < N → parseFieldDescriptor (T k).2.2.1 = some (ty0 k)) (hnm : ∀ a, a < N → ∀ b, b < N → a ≠ b → (T a).2.1 ≠ (T b).2.1) (hc : vwCl[ci]? = some (C, T, N)) (k : Nat) (hk : k < N) {index : Nat} (hlink : (Cond.fieldLink own index (T k).1 (T k).2.1 (T k).2.2.1) ∈ Ts) (hfin : (T k).2.2.2 = false) {v : Value} (hn : narrow (ty0 k) v = v) (hfit : fits (ty0 k) v = true) (hl : k < fs.length) (hdg : decode cc pc = .ok (.putfield index, 3))
    (kk : ∀ (F' : Nat → va_E) (H1 : Heap) (locs1 : List Loc), F' = va_up F i (.inr (ci, fs.set k v)) → va_P D vwCl (rW ad F') H1 → va_S (rA ad) s.heap H1 locs1 → W p l e R s m args below meth c H1 locs1 cells slots Q (F0 m (pc + 3) ls rest)) : W p l e R s m args below meth c H locs cells slots Q (F0 m pc ls (v :: .ref (ad i) :: rest)) :=
  va_put S.1 S.2.1 S.2.2.2.2 hin ty0 hty hnm S.2.2.2.1 hK hP (rD hI) hS i (by rw [rW_get hi, hF]) hc k hk (S.2.2.2.2 _ hlink) (fun _ h => h) hfin (hty k hk) hn hfit hl hdg (fun H1 locs1 h1 _ h3 => kk _ H1 locs1 rfl (by rw [rW_set _ hi] at h1; exact h1) h3)
theorem r_iald (S : CallFix p m c cc nL s args Ts own) (hK : va_K D vwCl (rT cA) s) (hP : va_P D vwCl (rW ad F) H) (i : Nat) (hi : i < rN) {n : Nat} {g : Nat → Int32} (hF : F i = .inl (cA 0, n, .inl g)) {x : Int32} (hin : vp_in x n) (hdg : decode cc pc = .ok (.iaload, 1))
    (kk : W p l e R s m args below meth c H locs cells slots Q (F0 m (pc + 1) ls (.int (g x.toNatClampNeg) :: rest))) : W p l e R s m args below meth c H locs cells slots Q (F0 m pc ls (.int x :: .ref (ad i) :: rest)) :=
  va_iald S.1 S.2.1 hK hP i 0 (by rw [rW_get hi, hF]) rfl hin hdg kk
theorem r_cald (S : CallFix p m c cc nL s args Ts own) (hK : va_K D vwCl (rT cA) s) (hP : va_P D vwCl (rW ad F) H) (i : Nat) (hi : i < rN) {n : Nat} {g : Nat → Int32} (hF : F i = .inl (cA 1, n, .inl g)) {x : Int32} (hin : vp_in x n) (hdg : decode cc pc = .ok (.caload, 1))
    (kk : W p l e R s m args below meth c H locs cells slots Q (F0 m (pc + 1) ls (.int (g x.toNatClampNeg) :: rest))) : W p l e R s m args below meth c H locs cells slots Q (F0 m pc ls (.int x :: .ref (ad i) :: rest)) :=
  va_cald S.1 S.2.1 hK hP i 1 (by rw [rW_get hi, hF]) rfl hin hdg kk
theorem r_lald (S : CallFix p m c cc nL s args Ts own) (hK : va_K D vwCl (rT cA) s) (hP : va_P D vwCl (rW ad F) H) (i : Nat) (hi : i < rN) {n : Nat} {g : Nat → Int64} (hF : F i = .inl (cA 2, n, .inr (.inl g))) {x : Int32} (hin : vp_in x n) (hdg : decode cc pc = .ok (.laload, 1))
    (kk : W p l e R s m args below meth c H locs cells slots Q (F0 m (pc + 1) ls (.long (g x.toNatClampNeg) :: rest))) : W p l e R s m args below meth c H locs cells slots Q (F0 m pc ls (.int x :: .ref (ad i) :: rest)) :=
  va_lald S.1 S.2.1 hK hP i 2 (by rw [rW_get hi, hF]) rfl hin hdg kk
theorem r_zald (S : CallFix p m c cc nL s args Ts own) (hK : va_K D vwCl (rT cA) s) (hP : va_P D vwCl (rW ad F) H) (i : Nat) (hi : i < rN) {n : Nat} {g : Nat → Int32} (hF : F i = .inl (cA 3, n, .inl g)) {x : Int32} (hin : vp_in x n) (hdg : decode cc pc = .ok (.baload, 1))
    (kk : W p l e R s m args below meth c H locs cells slots Q (F0 m (pc + 1) ls (.int (g x.toNatClampNeg) :: rest))) : W p l e R s m args below meth c H locs cells slots Q (F0 m pc ls (.int x :: .ref (ad i) :: rest)) :=
  va_zald S.1 S.2.1 hK hP i 3 (by rw [rW_get hi, hF]) rfl hin hdg kk
theorem r_aald (S : CallFix p m c cc nL s args Ts own) (hK : va_K D vwCl (rT cA) s) (hP : va_P D vwCl (rW ad F) H) (i : Nat) (hi : i < rN) {n : Nat} {g : Nat → Option Nat} (hF : F i = .inl (cA 4, n, .inr (.inr (.inr (.inr g))))) {x : Int32} (hin : vp_in x n) {a : Nat} (hg : g x.toNatClampNeg = some a) (hdg : decode cc pc = .ok (.aaload, 1))
    (kk : W p l e R s m args below meth c H locs cells slots Q (F0 m (pc + 1) ls (.ref a :: rest))) : W p l e R s m args below meth c H locs cells slots Q (F0 m pc ls (.int x :: .ref (ad i) :: rest)) :=
  va_aldq S.1 S.2.1 hK hP i 4 (by rw [rW_get hi, hF]) rfl hin hdg (by rw [hg]; exact kk)
theorem r_iast (S : CallFix p m c cc nL s args Ts own) (hI : rI ad) (hK : va_K D vwCl (rT cA) s) (hP : va_P D vwCl (rW ad F) H) (hS : va_S (rA ad) s.heap H locs) (i : Nat) (hi : i < rN) {n : Nat} {g : Nat → Int32} (hF : F i = .inl (cA 0, n, .inl g)) {x v : Int32} (hin : vp_in x n) (hdg : decode cc pc = .ok (.iastore, 1))
    (kk : ∀ (F' : Nat → va_E) (H1 : Heap) (locs1 : List Loc), F' = va_up F i (.inl (cA 0, n, .inl (upd g x.toNatClampNeg v))) → va_P D vwCl (rW ad F') H1 → va_S (rA ad) s.heap H1 locs1 → W p l e R s m args below meth c H1 locs1 cells slots Q (F0 m (pc + 1) ls rest)) : W p l e R s m args below meth c H locs cells slots Q (F0 m pc ls (.int v :: .int x :: .ref (ad i) :: rest)) :=
  va_iast S.1 S.2.1 hK hP (rD hI) hS i 0 (by rw [rW_get hi, hF]) rfl hin hdg (fun H1 locs1 h1 _ h3 => kk _ H1 locs1 rfl (by rw [rW_set _ hi] at h1; exact h1) h3)
theorem r_cast (S : CallFix p m c cc nL s args Ts own) (hI : rI ad) (hK : va_K D vwCl (rT cA) s) (hP : va_P D vwCl (rW ad F) H) (hS : va_S (rA ad) s.heap H locs) (i : Nat) (hi : i < rN) {n : Nat} {g : Nat → Int32} (hF : F i = .inl (cA 1, n, .inl g)) {x v : Int32} (hin : vp_in x n) (hdg : decode cc pc = .ok (.castore, 1))
    (kk : ∀ (F' : Nat → va_E) (H1 : Heap) (locs1 : List Loc), F' = va_up F i (.inl (cA 1, n, .inl (upd g x.toNatClampNeg (vp_nar .char v)))) → va_P D vwCl (rW ad F') H1 → va_S (rA ad) s.heap H1 locs1 → W p l e R s m args below meth c H1 locs1 cells slots Q (F0 m (pc + 1) ls rest)) : W p l e R s m args below meth c H locs cells slots Q (F0 m pc ls (.int v :: .int x :: .ref (ad i) :: rest)) :=
  va_cast S.1 S.2.1 hK hP (rD hI) hS i 1 (by rw [rW_get hi, hF]) rfl hin hdg (fun H1 locs1 h1 _ h3 => kk _ H1 locs1 rfl (by rw [rW_set _ hi] at h1; exact h1) h3)
theorem r_last (S : CallFix p m c cc nL s args Ts own) (hI : rI ad) (hK : va_K D vwCl (rT cA) s) (hP : va_P D vwCl (rW ad F) H) (hS : va_S (rA ad) s.heap H locs) (i : Nat) (hi : i < rN) {n : Nat} {g : Nat → Int64} (hF : F i = .inl (cA 2, n, .inr (.inl g))) {x : Int32} {v : Int64} (hin : vp_in x n) (hdg : decode cc pc = .ok (.lastore, 1))
    (kk : ∀ (F' : Nat → va_E) (H1 : Heap) (locs1 : List Loc), F' = va_up F i (.inl (cA 2, n, .inr (.inl (vp_updL g x.toNatClampNeg v)))) → va_P D vwCl (rW ad F') H1 → va_S (rA ad) s.heap H1 locs1 → W p l e R s m args below meth c H1 locs1 cells slots Q (F0 m (pc + 1) ls rest)) : W p l e R s m args below meth c H locs cells slots Q (F0 m pc ls (.long v :: .int x :: .ref (ad i) :: rest)) :=
  va_last S.1 S.2.1 hK hP (rD hI) hS i 2 (by rw [rW_get hi, hF]) rfl hin hdg (fun H1 locs1 h1 _ h3 => kk _ H1 locs1 rfl (by rw [rW_set _ hi] at h1; exact h1) h3)
theorem r_zast (S : CallFix p m c cc nL s args Ts own) (hI : rI ad) (hK : va_K D vwCl (rT cA) s) (hP : va_P D vwCl (rW ad F) H) (hS : va_S (rA ad) s.heap H locs) (i : Nat) (hi : i < rN) {n : Nat} {g : Nat → Int32} (hF : F i = .inl (cA 3, n, .inl g)) {x v : Int32} (hin : vp_in x n) (hdg : decode cc pc = .ok (.bastore, 1))
    (kk : ∀ (F' : Nat → va_E) (H1 : Heap) (locs1 : List Loc), F' = va_up F i (.inl (cA 3, n, .inl (upd g x.toNatClampNeg (vp_nar .boolean v)))) → va_P D vwCl (rW ad F') H1 → va_S (rA ad) s.heap H1 locs1 → W p l e R s m args below meth c H1 locs1 cells slots Q (F0 m (pc + 1) ls rest)) : W p l e R s m args below meth c H locs cells slots Q (F0 m pc ls (.int v :: .int x :: .ref (ad i) :: rest)) :=
  va_zast S.1 S.2.1 hK hP (rD hI) hS i 3 (by rw [rW_get hi, hF]) rfl hin hdg (fun H1 locs1 h1 _ h3 => kk _ H1 locs1 rfl (by rw [rW_set _ hi] at h1; exact h1) h3)
theorem r_aast (S : CallFix p m c cc nL s args Ts own) (hI : rI ad) (hK : va_K D vwCl (rT cA) s) (hP : va_P D vwCl (rW ad F) H) (hS : va_S (rA ad) s.heap H locs) (i : Nat) (hi : i < rN) {n : Nat} {g : Nat → Option Nat} (hF : F i = .inl (cA 4, n, .inr (.inr (.inr (.inr g))))) (j : Nat) (hj : j < rN) {vs : List Value} (hJ : F j = .inr (1, vs)) {x : Int32} (hin : vp_in x n) (hdg : decode cc pc = .ok (.aastore, 1))
    (kk : ∀ (F' : Nat → va_E) (H1 : Heap) (locs1 : List Loc), F' = va_up F i (.inl (cA 4, n, .inr (.inr (.inr (.inr (va_up g x.toNatClampNeg (some (ad j)))))))) → va_P D vwCl (rW ad F') H1 → va_S (rA ad) s.heap H1 locs1 → W p l e R s m args below meth c H1 locs1 cells slots Q (F0 m (pc + 1) ls rest)) : W p l e R s m args below meth c H locs cells slots Q (F0 m pc ls (.ref (ad j) :: .int x :: .ref (ad i) :: rest)) :=
  va_astq S.1 S.2.1 hK hP (rD hI) hS i 4 j 1 (r := (RX1, TX1, 7)) (by rw [rW_get hi, hF]) rfl (by rw [rW_get hj, hJ]) rfl hin hdg (fun H1 locs1 h1 _ h3 => kk _ H1 locs1 rfl (by rw [rW_set _ hi] at h1; exact h1) h3)
theorem r_alen (S : CallFix p m c cc nL s args Ts own) (hK : va_K D vwCl (rT cA) s) (hP : va_P D vwCl (rW ad F) H) (i : Nat) (hi : i < rN) (t0 : Nat) {a : ClassId} {x : vp_A} (hF : F i = .inl (a, x)) {ty : FieldType} (ht : (rT cA)[t0]? = some (a, ty)) (hdg : decode cc pc = .ok (.arraylength, 1))
    (kk : W p l e R s m args below meth c H locs cells slots Q (F0 m (pc + 1) ls (.int (nI x.1) :: rest))) : W p l e R s m args below meth c H locs cells slots Q (F0 m pc ls (.ref (ad i) :: rest)) :=
  va_alen S.1 S.2.1 hK hP i t0 (by rw [rW_get hi, hF]) ht rfl hdg kk
/-- the callee's start at a call -/
theorem r_at (hK : va_K D vwCl (rT cA) s) (hZ : rZ t ad s) (hP : va_P D vwCl (rW ad F) H) (hS : va_S (rA ad) s.heap H locs) (av : List Value) : ∀ U : State, U.heap = H → s.WarmedH U.vm → va_Pc av (rP D cA ad t F) av.toArray U := by
  intro U hU hW
  refine ⟨rfl, by rw [hU]; exact hP, va_K.moved hW.alike hK, hZ.moved hW (fun q h1 h2 => by rw [hU]; exact hS.2.1 q h1 h2)⟩
theorem r_recv (hK : va_K D vwCl (rT cA) s) (hP : va_P D vwCl (rW ad F) H) {i ci : Nat} (hi : i < rN) {fs : List Value} (hF : F i = .inr (ci, fs)) {q : vw_C} (hc : vwCl[ci]? = some q) : ∃ cell : Cell, H[ad i]? = some cell ∧ cell.vm.isStatics = false ∧ s.vm.findClass q.1 = some cell.cls :=
  va_recv hK hP hc (by rw [rW_get hi, hF])
variable {y : MethodName} {bytes : ByteArray} {maxL n index : Nat} {ret : Option FieldType} {ws : List Cond} {rm : Room} {C : String} {As st0 : List Value}
theorem r_cVi {post : Int32 → (Nat → va_E) → Prop} (S : CallFix p m c cc nL s args Ts own) (hK : va_K D vwCl (rT cA) s) (hZ : rZ t ad s) (hP : va_P D vwCl (rW ad F) H) (hS : va_S (rA ad) s.heap H locs) (hl : ls.size = nL) (i : Nat) (hi : i < rN) {ci : Nat} {fs : List Value} (hF : F i = .inr (ci, fs)) {T : u_T} {N : Nat} (hc : vwCl[ci]? = some (C, T, N))
    (hM : MI l D cA ad t y ws rm (.ref (ad i) :: As) F post) (cw : CallW R s args own C index y bytes maxL ret ws rm 0 0 n) (hn : As.length = n) (hst : st0 = As.reverse ++ .ref (ad i) :: rest) (hr : (rest.map fun v => v.category).sum ≤ 8) (hf : cells ≤ R.cells ∧ slots ≤ R.slots) (hdg : decode cc pc = .ok (.invokevirtual index, 3))
    (kk : ∀ (r : Int32) (F' : Nat → va_E) (H1 : Heap) (locs1 : List Loc), post r F' → va_P D vwCl (rW ad F') H1 → va_S (rA ad) s.heap H1 locs1 → W p l e R s m args below meth c H1 locs1 cells slots Q (F0 m (pc + 3) ls (.int r :: rest))) : W p l e R s m args below meth c H locs cells slots Q (F0 m pc ls st0) :=
  va_calli (va_runV (As := As) (rest := rest) S hM cw ⟨rP.blind, r_recv hK hP hi hF hc, r_at hK hZ hP hS _⟩ rfl hn hl hst (lv_room hr) hdg hf) hS (fun _ _ h => h) (fun _ h => h)
    (fun r u t H1 locs1 ht _ hp hB _ _ hS1 => kk r u H1 locs1 hp (by rw [ht] at hB; exact hB) hS1)
theorem r_cVv {post : (Nat → va_E) → Prop} (S : CallFix p m c cc nL s args Ts own) (hK : va_K D vwCl (rT cA) s) (hZ : rZ t ad s) (hP : va_P D vwCl (rW ad F) H) (hS : va_S (rA ad) s.heap H locs) (hl : ls.size = nL) (i : Nat) (hi : i < rN) {ci : Nat} {fs : List Value} (hF : F i = .inr (ci, fs)) {T : u_T} {N : Nat} (hc : vwCl[ci]? = some (C, T, N))
    (hM : MV l D cA ad t y ws rm (.ref (ad i) :: As) F post) (cw : CallW R s args own C index y bytes maxL ret ws rm 0 0 n) (hn : As.length = n) (hst : st0 = As.reverse ++ .ref (ad i) :: rest) (hr : (rest.map fun v => v.category).sum ≤ 8) (hf : cells ≤ R.cells ∧ slots ≤ R.slots) (hdg : decode cc pc = .ok (.invokevirtual index, 3))
    (kk : ∀ (F' : Nat → va_E) (H1 : Heap) (locs1 : List Loc), post F' → va_P D vwCl (rW ad F') H1 → va_S (rA ad) s.heap H1 locs1 → W p l e R s m args below meth c H1 locs1 cells slots Q (F0 m (pc + 3) ls rest)) : W p l e R s m args below meth c H locs cells slots Q (F0 m pc ls st0) :=
  va_callv (va_runV (As := As) (rest := rest) S hM cw ⟨rP.blind, r_recv hK hP hi hF hc, r_at hK hZ hP hS _⟩ rfl hn hl hst (lv_room hr) hdg hf) hS (fun _ _ h => h) (fun _ h => h)
    (fun u t H1 locs1 ht _ hp hB _ _ hS1 => kk u H1 locs1 hp (by rw [ht] at hB; exact hB) hS1)
theorem r_cVp {post : Int32 → Prop} (S : CallFix p m c cc nL s args Ts own) (hK : va_K D vwCl (rT cA) s) (hZ : rZ t ad s) (hP : va_P D vwCl (rW ad F) H) (hS : va_S (rA ad) s.heap H locs) (hl : ls.size = nL) (i : Nat) (hi : i < rN) {ci : Nat} {fs : List Value} (hF : F i = .inr (ci, fs)) {T : u_T} {N : Nat} (hc : vwCl[ci]? = some (C, T, N))
    (hM : MP l D cA ad t y ws rm (.ref (ad i) :: As) F post) (cw : CallW R s args own C index y bytes maxL ret ws rm 0 0 n) (hn : As.length = n) (hst : st0 = As.reverse ++ .ref (ad i) :: rest) (hr : (rest.map fun v => v.category).sum ≤ 8) (hf : cells ≤ R.cells ∧ slots ≤ R.slots) (hdg : decode cc pc = .ok (.invokevirtual index, 3))
    (kk : ∀ (r : Int32), post r → W p l e R s m args below meth c H locs cells slots Q (F0 m (pc + 3) ls (.int r :: rest))) : W p l e R s m args below meth c H locs cells slots Q (F0 m pc ls st0) :=
  vp_callSi (va_Run.run (va_runV (As := As) (rest := rest) S hM cw ⟨rP.blind, r_recv hK hP hi hF hc, r_at hK hZ hP hS _⟩ rfl hn hl hst (lv_room hr) hdg hf)) kk
theorem r_cVl {post : Int64 → Prop} (S : CallFix p m c cc nL s args Ts own) (hK : va_K D vwCl (rT cA) s) (hZ : rZ t ad s) (hP : va_P D vwCl (rW ad F) H) (hS : va_S (rA ad) s.heap H locs) (hl : ls.size = nL) (i : Nat) (hi : i < rN) {ci : Nat} {fs : List Value} (hF : F i = .inr (ci, fs)) {T : u_T} {N : Nat} (hc : vwCl[ci]? = some (C, T, N))
    (hM : ML l D cA ad t y ws rm (.ref (ad i) :: As) F post) (cw : CallW R s args own C index y bytes maxL ret ws rm 0 0 n) (hn : As.length = n) (hst : st0 = As.reverse ++ .ref (ad i) :: rest) (hr : (rest.map fun v => v.category).sum ≤ 8) (hf : cells ≤ R.cells ∧ slots ≤ R.slots) (hdg : decode cc pc = .ok (.invokevirtual index, 3))
    (kk : ∀ (r : Int64), post r → W p l e R s m args below meth c H locs cells slots Q (F0 m (pc + 3) ls (.long r :: rest))) : W p l e R s m args below meth c H locs cells slots Q (F0 m pc ls st0) :=
  vp_callSl (va_Run.run (va_runV (As := As) (rest := rest) S hM cw ⟨rP.blind, r_recv hK hP hi hF hc, r_at hK hZ hP hS _⟩ rfl hn hl hst (lv_room hr) hdg hf)) kk
theorem r_cSi {post : Int32 → (Nat → va_E) → Prop} (S : CallFix p m c cc nL s args Ts own) (hK : va_K D vwCl (rT cA) s) (hZ : rZ t ad s) (hP : va_P D vwCl (rW ad F) H) (hS : va_S (rA ad) s.heap H locs) (hl : ls.size = nL)
    (hM : MI l D cA ad t y ws rm As F post) (cw : CallB R s args own index y bytes maxL ret ws rm 0 0 n ∧ (Cond.static y).before args s = true) (hn : As.length = n) (hst : st0 = As.reverse ++ rest) (hr : (rest.map fun v => v.category).sum ≤ 8) (hf : cells ≤ R.cells ∧ slots ≤ R.slots) (hdg : decode cc pc = .ok (.invokestatic index, 3))
    (kk : ∀ (r : Int32) (F' : Nat → va_E) (H1 : Heap) (locs1 : List Loc), post r F' → va_P D vwCl (rW ad F') H1 → va_S (rA ad) s.heap H1 locs1 → W p l e R s m args below meth c H1 locs1 cells slots Q (F0 m (pc + 3) ls (.int r :: rest))) : W p l e R s m args below meth c H locs cells slots Q (F0 m pc ls st0) :=
  va_calli (va_runS (As := As) (rest := rest) S hM cw ⟨rP.blind, r_at hK hZ hP hS _⟩ rfl hn hl hst (lv_room hr) hdg hf) hS (fun _ _ h => h) (fun _ h => h)
    (fun r u t H1 locs1 ht _ hp hB _ _ hS1 => kk r u H1 locs1 hp (by rw [ht] at hB; exact hB) hS1)
theorem r_cSv {post : (Nat → va_E) → Prop} (S : CallFix p m c cc nL s args Ts own) (hK : va_K D vwCl (rT cA) s) (hZ : rZ t ad s) (hP : va_P D vwCl (rW ad F) H) (hS : va_S (rA ad) s.heap H locs) (hl : ls.size = nL)
    (hM : MV l D cA ad t y ws rm As F post) (cw : CallB R s args own index y bytes maxL ret ws rm 0 0 n ∧ (Cond.static y).before args s = true) (hn : As.length = n) (hst : st0 = As.reverse ++ rest) (hr : (rest.map fun v => v.category).sum ≤ 8) (hf : cells ≤ R.cells ∧ slots ≤ R.slots) (hdg : decode cc pc = .ok (.invokestatic index, 3))
    (kk : ∀ (F' : Nat → va_E) (H1 : Heap) (locs1 : List Loc), post F' → va_P D vwCl (rW ad F') H1 → va_S (rA ad) s.heap H1 locs1 → W p l e R s m args below meth c H1 locs1 cells slots Q (F0 m (pc + 3) ls rest)) : W p l e R s m args below meth c H locs cells slots Q (F0 m pc ls st0) :=
  va_callv (va_runS (As := As) (rest := rest) S hM cw ⟨rP.blind, r_at hK hZ hP hS _⟩ rfl hn hl hst (lv_room hr) hdg hf) hS (fun _ _ h => h) (fun _ h => h)
    (fun u t H1 locs1 ht _ hp hB _ _ hS1 => kk u H1 locs1 hp (by rw [ht] at hB; exact hB) hS1)
theorem r_cSp {post : Int32 → Prop} (S : CallFix p m c cc nL s args Ts own) (hK : va_K D vwCl (rT cA) s) (hZ : rZ t ad s) (hP : va_P D vwCl (rW ad F) H) (hS : va_S (rA ad) s.heap H locs) (hl : ls.size = nL)
    (hM : MP l D cA ad t y ws rm As F post) (cw : CallB R s args own index y bytes maxL ret ws rm 0 0 n ∧ (Cond.static y).before args s = true) (hn : As.length = n) (hst : st0 = As.reverse ++ rest) (hr : (rest.map fun v => v.category).sum ≤ 8) (hf : cells ≤ R.cells ∧ slots ≤ R.slots) (hdg : decode cc pc = .ok (.invokestatic index, 3))
    (kk : ∀ (r : Int32), post r → W p l e R s m args below meth c H locs cells slots Q (F0 m (pc + 3) ls (.int r :: rest))) : W p l e R s m args below meth c H locs cells slots Q (F0 m pc ls st0) :=
  vp_callSi (va_Run.run (va_runS (As := As) (rest := rest) S hM cw ⟨rP.blind, r_at hK hZ hP hS _⟩ rfl hn hl hst (lv_room hr) hdg hf)) kk
theorem r_cSl {post : Int64 → Prop} (S : CallFix p m c cc nL s args Ts own) (hK : va_K D vwCl (rT cA) s) (hZ : rZ t ad s) (hP : va_P D vwCl (rW ad F) H) (hS : va_S (rA ad) s.heap H locs) (hl : ls.size = nL)
    (hM : ML l D cA ad t y ws rm As F post) (cw : CallB R s args own index y bytes maxL ret ws rm 0 0 n ∧ (Cond.static y).before args s = true) (hn : As.length = n) (hst : st0 = As.reverse ++ rest) (hr : (rest.map fun v => v.category).sum ≤ 8) (hf : cells ≤ R.cells ∧ slots ≤ R.slots) (hdg : decode cc pc = .ok (.invokestatic index, 3))
    (kk : ∀ (r : Int64), post r → W p l e R s m args below meth c H locs cells slots Q (F0 m (pc + 3) ls (.long r :: rest))) : W p l e R s m args below meth c H locs cells slots Q (F0 m pc ls st0) :=
  vp_callSl (va_Run.run (va_runS (As := As) (rest := rest) S hM cw ⟨rP.blind, r_at hK hZ hP hS _⟩ rfl hn hl hst (lv_room hr) hdg hf)) kk
theorem r_cNp {host : String} {post : Int32 → Prop} (S : CallFix p m c cc nL s args Ts own) (hK : va_K D vwCl (rT cA) s) (hZ : rZ t ad s) (hP : va_P D vwCl (rW ad F) H) (hS : va_S (rA ad) s.heap H locs) (hl : ls.size = nL)
    (hM : MP l D cA ad t y ws rm As F post) (cw : va_CN R s args own index y host bytes maxL ret ws rm 0 0 n) (hs : (Cond.static y).before args s = true) (hn : As.length = n) (hst : st0 = As.reverse ++ rest) (hr : (rest.map fun v => v.category).sum ≤ 8) (hf : cells ≤ R.cells ∧ slots ≤ R.slots) (hdg : decode cc pc = .ok (.invokestatic index, 3))
    (kk : ∀ (r : Int32), post r → W p l e R s m args below meth c H locs cells slots Q (F0 m (pc + 3) ls (.int r :: rest))) : W p l e R s m args below meth c H locs cells slots Q (F0 m pc ls st0) :=
  vp_callSi (va_Run.run (va_runSN (As := As) (rest := rest) S hM ⟨cw, hs, trivial⟩ ⟨rP.blind, r_at hK hZ hP hS _⟩ rfl hn hl hst (lv_room hr) hdg hf)) kk
end RR
section RE
variable {l : Launch} {D : va_G} {cA : Nat → ClassId} {ad : Nat → Nat} {t : Nat} {F : Nat → va_E} {y : MethodName} {cc : ByteArray} {maxL : Nat} {ret : Option FieldType} {ws ws' : List Cond} {rm : Room} {av : List Value}
/-- a method from its entry, for any end Qc -/
theorem r_en {Qc : Array Value → State → Outcome → State → Prop} {free : Addr → Prop} (hw : ws = Cond.code y cc maxL ret :: ws') (hy : plainName y.cls = true) (hlen : (lg_sl av).length ≤ maxL)
    (body : ∀ (p : Program) (e : Env) (s : State) (m : MethodId) (below : List Frame) (meth : Method) (c : Code) (ls : Array Slot), CallFix p m c cc maxL s av.toArray ws y.cls → meth.sig.returnType = ret → meth.locks = false → va_K D vwCl (rT cA) s → rZ t ad s → va_P D vwCl (rW ad F) s.heap → va_S (rA ad) s.heap s.heap [] → lv_has ls maxL (lv_args 0 av) →
      W p l e rm s m av.toArray below meth c s.heap [] 0 0 (MQ below Qc av.toArray s 0 0 free) (F0 m 0 ls [])) : Met l y ws rm (va_Pc av (rP D cA ad t F)) Qc 0 0 free := by
  refine Met.ofW (cc := cc) (maxL := maxL) (ret := ret) hy hw ?_
  intro p e s m args below meth c s₁ B hml hv
  obtain ⟨rfl, hP, hK, hZ⟩ := hv
  have hl := lv_entry av (n := maxL) hlen
  rw [lg_entry_eq]
  exact body p e s m below meth c _ ⟨B.exec, B.bytes, hml, findClass_of_methodNamed B.named, atoms_spec (ws := ws) B.pre⟩ B.returns B.notSynchronized hK hZ hP va_S.rf hl
theorem en_I {ty : FieldType} {post : Int32 → (Nat → va_E) → Prop} (hw : ws = Cond.code y cc maxL (some ty) :: ws') (hy : plainName y.cls = true) (hlen : (lg_sl av).length ≤ maxL)
    (body : ∀ (p : Program) (e : Env) (s : State) (m : MethodId) (args : Array Value) (below : List Frame) (meth : Method) (c : Code) (ls : Array Slot) (Q : State → Prop), CallFix p m c cc maxL s args ws y.cls → va_K D vwCl (rT cA) s → rZ t ad s → va_P D vwCl (rW ad F) s.heap → va_S (rA ad) s.heap s.heap [] → lv_has ls maxL (lv_args 0 av) →
      (∀ (pc : Nat) (ls : Array Slot) (H : Heap) (locs : List Loc) (F' : Nat → va_E) (v : Int32), decode cc pc = .ok (.ireturn, 1) → narrow ty (.int v) = .int v → va_P D vwCl (rW ad F') H → va_S (rA ad) s.heap H locs → post v F' → W p l e rm s m args below meth c H locs 0 0 Q (F0 m pc ls [.int v])) →
      W p l e rm s m args below meth c s.heap [] 0 0 Q (F0 m 0 ls [])) : MI l D cA ad t y ws rm av F post :=
  r_en hw hy hlen (fun p e s m below meth c ls S hr hlocks hK hZ hP hS hl => body p e s m _ below meth c ls _ S hK hZ hP hS hl (fun pc ls H locs F' v hdg hn hP1 hS1 hp => W.zret S.1 S.2.1 hr hn (fun T ht _ => ⟨⟨v, F', rfl, hp, by show va_P D vwCl (rW ad F') T.heap; rw [ht]; exact hP1⟩, hS1.F ht⟩) hS1.2.2 hdg hlocks))
theorem en_V {post : (Nat → va_E) → Prop} (hw : ws = Cond.code y cc maxL none :: ws') (hy : plainName y.cls = true) (hlen : (lg_sl av).length ≤ maxL)
    (body : ∀ (p : Program) (e : Env) (s : State) (m : MethodId) (args : Array Value) (below : List Frame) (meth : Method) (c : Code) (ls : Array Slot) (Q : State → Prop), CallFix p m c cc maxL s args ws y.cls → va_K D vwCl (rT cA) s → rZ t ad s → va_P D vwCl (rW ad F) s.heap → va_S (rA ad) s.heap s.heap [] → lv_has ls maxL (lv_args 0 av) →
      (∀ (pc : Nat) (ls : Array Slot) (H : Heap) (locs : List Loc) (F' : Nat → va_E), decode cc pc = .ok (.return_, 1) → va_P D vwCl (rW ad F') H → va_S (rA ad) s.heap H locs → post F' → W p l e rm s m args below meth c H locs 0 0 Q (F0 m pc ls [])) →
      W p l e rm s m args below meth c s.heap [] 0 0 Q (F0 m 0 ls [])) : MV l D cA ad t y ws rm av F post :=
  r_en hw hy hlen (fun p e s m below meth c ls S hr hlocks hK hZ hP hS hl => body p e s m _ below meth c ls _ S hK hZ hP hS hl (fun pc ls H locs F' hdg hP1 hS1 hp => W.vret S.1 S.2.1 hr (fun T ht _ => ⟨⟨F', rfl, hp, by show va_P D vwCl (rW ad F') T.heap; rw [ht]; exact hP1⟩, hS1.F ht⟩) hS1.2.2 hdg hlocks))
theorem en_P {ty : FieldType} {post : Int32 → Prop} (hw : ws = Cond.code y cc maxL (some ty) :: ws') (hy : plainName y.cls = true) (hlen : (lg_sl av).length ≤ maxL)
    (body : ∀ (p : Program) (e : Env) (s : State) (m : MethodId) (args : Array Value) (below : List Frame) (meth : Method) (c : Code) (ls : Array Slot) (Q : State → Prop), CallFix p m c cc maxL s args ws y.cls → va_K D vwCl (rT cA) s → rZ t ad s → va_P D vwCl (rW ad F) s.heap → va_S (rA ad) s.heap s.heap [] → lv_has ls maxL (lv_args 0 av) →
      (∀ (pc : Nat) (ls : Array Slot) (v : Int32), decode cc pc = .ok (.ireturn, 1) → narrow ty (.int v) = .int v → post v → W p l e rm s m args below meth c s.heap [] 0 0 Q (F0 m pc ls [.int v])) →
      W p l e rm s m args below meth c s.heap [] 0 0 Q (F0 m 0 ls [])) : MP l D cA ad t y ws rm av F post :=
  r_en hw hy hlen (fun p e s m below meth c ls S hr hlocks hK hZ hP hS hl => body p e s m _ below meth c ls _ S hK hZ hP hS hl (fun pc ls v hdg hn hp => W.zret S.1 S.2.1 hr hn (fun T ht _ => ⟨v, rfl, hp, ht⟩) (fun q h => by cases h) hdg hlocks))
theorem en_L {post : Int64 → Prop} (hw : ws = Cond.code y cc maxL (some .long) :: ws') (hy : plainName y.cls = true) (hlen : (lg_sl av).length ≤ maxL)
    (body : ∀ (p : Program) (e : Env) (s : State) (m : MethodId) (args : Array Value) (below : List Frame) (meth : Method) (c : Code) (ls : Array Slot) (Q : State → Prop), CallFix p m c cc maxL s args ws y.cls → va_K D vwCl (rT cA) s → rZ t ad s → va_P D vwCl (rW ad F) s.heap → va_S (rA ad) s.heap s.heap [] → lv_has ls maxL (lv_args 0 av) →
      (∀ (pc : Nat) (ls : Array Slot) (v : Int64), decode cc pc = .ok (.lreturn, 1) → post v → W p l e rm s m args below meth c s.heap [] 0 0 Q (F0 m pc ls [.long v])) →
      W p l e rm s m args below meth c s.heap [] 0 0 Q (F0 m 0 ls [])) : ML l D cA ad t y ws rm av F post :=
  r_en hw hy hlen (fun p e s m below meth c ls S hr hlocks hK hZ hP hS hl => body p e s m _ below meth c ls _ S hK hZ hP hS hl (fun pc ls v hdg hp => W.lret S.1 S.2.1 hr (fun T ht _ => ⟨v, rfl, hp, ht⟩) (fun q h => by cases h) hdg hlocks))
end RE
theorem nar_bool {k : Nat} (h : k ≤ 1) : narrow .boolean (.int (nI k)) = .int (nI k) := by
  rcases (show k = 0 ∨ k = 1 by omega) with rfl | rfl <;> rfl
theorem fit_bool {k : Nat} (h : k ≤ 1) : fits .boolean (.int (nI k)) = true := by
  rcases (show k = 0 ∨ k = 1 by omega) with rfl | rfl <;> rfl
