/-! the constructors: worlds as lists -/
abbrev J0 : va_E := .inr (1, [.int 0, .int 0, .int 0, .int 0, .int 0, .int 0, .int 0])
abbrev aI (cA : Nat → ClassId) (n : Nat) : va_E := .inl (cA 0, n, .inl (fun _ => 0))
abbrev aC (cA : Nat → ClassId) (n : Nat) : va_E := .inl (cA 1, n, .inl (fun _ => 0))
abbrev aL (cA : Nat → ClassId) (n : Nat) : va_E := .inl (cA 2, n, .inr (.inl (fun _ => 0)))
abbrev aZ (cA : Nat → ClassId) (n : Nat) : va_E := .inl (cA 3, n, .inl (fun _ => 0))
abbrev aQ (cA : Nat → ClassId) (n : Nat) (g : Nat → Option Nat) : va_E := .inl (cA 4, n, .inr (.inr (.inr (.inr g))))
def cN (U : State) : Prop := va_AO "JourneyRoads$Journey" U ∧ va_Nw (.methodLinkNest RX2 17 yX1_init "JourneyRoads") U ∧ va_Nw (.methodLinkNest RX7 11 yX5_init "JourneyRoads") U ∧ va_Nw (.methodLinkNest RX7 18 yX1_init "JourneyRoads") U ∧ va_Nw (.methodLinkNest RX7 32 yX3_init "JourneyRoads") U ∧ va_Nw (.methodLinkNest RX7 39 yX4_init "JourneyRoads") U ∧ va_Nw (.methodLinkNest RX7 46 yX6_init "JourneyRoads") U ∧ va_Nw (.methodLinkNest RX7 71 yX0_init "JourneyRoads") U
theorem cN.moved {s U : State} (h : cN s) (hW : s.WarmedH U.vm) : cN U := by
  obtain ⟨h1, h2, h3, h4, h5, h6, h7, h8⟩ := h
  exact ⟨h1.moved hW.alike, va_Nw.warmM hW h2, va_Nw.warmM hW h3, va_Nw.warmM hW h4, va_Nw.warmM hW h5, va_Nw.warmM hW h6, va_Nw.warmM hW h7, va_Nw.warmM hW h8⟩
def kP (D : va_G) (cA : Nat → ClassId) (ws : va_W) (sz : Nat) (U : State) : Prop := U.heap.size = sz ∧ va_P D vwCl ws U.heap ∧ va_K D vwCl (rT cA) U ∧ va_D (fun _ => True) ws ∧ cN U
theorem kP.blind {D : va_G} {cA : Nat → ClassId} {ws : va_W} {sz : Nat} {av : List Value} : FrameBlind (va_Pc av (kP D cA ws sz)) := by
  intro a U g mk h
  obtain ⟨h0, h1, h2, h3, h4, n1, n2, n3, n4, n5, n6, n7, n8⟩ := h
  exact ⟨h0, h1, h2, va_K.moved (u := U) (U := U.calling g mk a) (Vm.Alike.refl U.vm) h3, h4, va_AO.moved (u := U) (U := U.calling g mk a) (Vm.Alike.refl U.vm) n1, va_Nw.same rfl (u := U) (U := U.calling g mk a) rfl n2, va_Nw.same rfl (u := U) (U := U.calling g mk a) rfl n3, va_Nw.same rfl (u := U) (U := U.calling g mk a) rfl n4, va_Nw.same rfl (u := U) (U := U.calling g mk a) rfl n5, va_Nw.same rfl (u := U) (U := U.calling g mk a) rfl n6, va_Nw.same rfl (u := U) (U := U.calling g mk a) rfl n7, va_Nw.same rfl (u := U) (U := U.calling g mk a) rfl n8⟩
theorem kP_at {D : va_G} {cA : Nat → ClassId} {s : State} {H : Heap} {A : Nat → Prop} {x : Nat × va_E} (hK : va_K D vwCl (rT cA) s) (hN : cN s) (hP : va_P D vwCl [x] H) (hD : va_D A [x]) : PreS s H (va_Pc [.ref x.1] (kP D cA [x] H.size)) [.ref x.1] :=
  ⟨kP.blind, fun U hU hW => ⟨rfl, by rw [hU], by rw [hU]; exact hP, va_K.moved hW.alike hK, hD.weaken (fun _ _ _ _ => trivial), hN.moved hW⟩⟩
abbrev MC (l : Launch) (D : va_G) (cA : Nat → ClassId) (y : MethodName) (ws : List Cond) (rm : Room) (x : Nat × va_E) (sz : Nat) {S : Type} (Wf : S → va_W) (post : S → Prop) (mc ms : Nat) : Prop :=
  Met l y ws rm (va_Pc [.ref x.1] (kP D cA [x] sz)) (va_Qv post (fun u U => va_P D vwCl (Wf u) U.heap ∧ va_D (va_A [x] sz) (Wf u)) (va_A [x] sz)) mc ms (va_A [x] sz)
theorem en_C {l : Launch} {D : va_G} {cA : Nat → ClassId} {y : MethodName} {ws ws' : List Cond} {rm : Room} {x : Nat × va_E} {sz : Nat} {S : Type} {Wf : S → va_W} {post : S → Prop} {mc ms : Nat} {cc : ByteArray} {maxL : Nat} (hw : ws = Cond.code y cc maxL none :: ws') (hy : plainName y.cls = true) (hn : y.name = "<init>") (hlen : (lg_sl [Value.ref x.1]).length ≤ maxL)
    (body : ∀ (p : Program) (e : Env) (s : State) (m : MethodId) (args : Array Value) (below : List Frame) (meth : Method) (c : Code) (ls : Array Slot) (Q : State → Prop) (A : Nat → Prop), CallFix p m c cc maxL s args ws y.cls → meth.name = "<init>" → va_K D vwCl (rT cA) s → cN s → va_P D vwCl [x] s.heap → va_D A [x] → va_S A s.heap s.heap [] → (∀ q, s.heap.size ≤ q → A q) → lv_has ls maxL [(0, .ref x.1)] →
      (∀ (pc : Nat) (ls : Array Slot) (H : Heap) (locs : List Loc) (u : S), decode cc pc = .ok (.return_, 1) → va_P D vwCl (Wf u) H → va_D A (Wf u) → va_S A s.heap H locs → post u → W p l e rm s m args below meth c H locs mc ms Q (F0 m pc ls [])) →
      W p l e rm s m args below meth c s.heap [] 0 0 Q (F0 m 0 ls [])) : MC l D cA y ws rm x sz Wf post mc ms := by
  refine Met.ofW (cc := cc) (maxL := maxL) (ret := none) hy hw ?_
  intro p e s m args below meth c s₁ B hml hv
  obtain ⟨rfl, hsz, hP, hK, hD0, hN⟩ := hv
  subst hsz
  have hl := lv_entry [Value.ref x.1] (n := maxL) hlen
  rw [lg_entry_eq]
  refine body p e s m _ below meth c _ _ (va_A [x] s.heap.size) ⟨B.exec, B.bytes, hml, findClass_of_methodNamed B.named, atoms_spec (ws := ws) B.pre⟩ ((name_of_methodNamed B.named B.method).1.trans hn) hK hN hP hD0.self va_S.rf (fun q h => Or.inr h) hl ?_
  intro pc ls H locs u hdg hP1 hD1 hS1 hp
  exact W.vret B.exec B.bytes B.returns (fun T ht _ => ⟨⟨u, rfl, hp, by show va_P D vwCl (Wf u) T.heap ∧ _; rw [ht]; exact ⟨hP1, hD1⟩⟩, hS1.F ht⟩) hS1.2.2 hdg B.notSynchronized
theorem k_cl {D : va_G} {cA : Nat → ClassId} {s : State} {c' : ClassId} {ty : FieldType} (k : Nat) (hk : (rT cA ++ [(c', ty)])[k]? = some (cA k, ty)) (hp : ∀ (U : State) (c : ClassId), va_RA U c ty → U.vm.findClass ("[" ++ ty.toString) = some c) (h : va_K D vwCl (rT cA ++ [(c', ty)]) s) : c' = cA k := by
  have h1 := (h.2 k (cA k, ty) hk).2
  have h2 := (h.2 5 (c', ty) rfl).2
  exact Option.some.inj ((hp _ _ h2).symm.trans (hp _ _ h1))
theorem c_X1_init (l : Launch) (h0 : Nat) : Met l yX1_init wsX1_init ({ frames := 1, cells := 0, slots := 0, locals := 12 }) (va_Pc [.ref h0] (fun _ => True)) (va_Sv (fun _ => True)) 0 0 (fun _ => False) := by
  refine Met.ofW (cc := cX1_init) (maxL := 1) (ret := none) (by decide +kernel) rfl ?_
  intro p e s m args below meth c s₁ B hml hv
  obtain ⟨rfl, -⟩ := hv
  have hts := atoms_spec (ws := wsX1_init) B.pre
  have hown : s.vm.findClass RX1 = some m.cls := findClass_of_methodNamed B.named
  have hl := lv_entry ([.ref h0]) (n := 1) (Nat.le_of_ble_eq_true rfl)
  rw [lg_entry_eq]
  generalize (lg_sl ([.ref h0]) ++ List.replicate (1 - (lg_sl ([.ref h0])).length) Slot.unset).toArray = ls at hl ⊢
  have hl : lv_has ls 1 [(0, .ref h0)] := hl
  refine lv_aload_n B.exec B.bytes dX1_init_0 rfl (lv_at hl 0 rfl) ?_
  refine W.objInit B.exec B.bytes hown (hts (.methodLink RX1 1 objectInit) (by decide +kernel)) (hts (.instanceMethod objectInit) (by decide +kernel)) (hts (.code objectInit ⟨#[0xb1]⟩ 1 none) (by decide +kernel)) rfl (by rw [hml]; exact hl.1) rfl dX1_init_1 (Nat.le_of_ble_eq_true rfl) (Nat.le_of_ble_eq_true rfl) ?_
  exact W.vret B.exec B.bytes B.returns (fun T ht _ => ⟨rfl, trivial, ht⟩) (fun q h => by cases h) dX1_init_4 B.notSynchronized
section KC
variable {p : Program} {l : Launch} {e : Env} {R : Room} {s : State} {m : MethodId} {args : Array Value} {below : List Frame} {meth : Method} {c : Code} {H : Heap} {locs : List Loc} {cells slots : Nat} {Q : State → Prop}
variable {pc : Nat} {ls : Array Slot} {rest st0 : List Value} {a : Array Value} {A : Nat → Prop} {mc ms : Nat} {D : va_G}
/-- behind a constructor's call: its own cell has become what it made -/
theorem k_call {X pl : va_W} {x : Nat × va_E} {S : Type} {Wf : S → va_W} {post : S → Prop}
    (hr : va_Run p l e R s m args below meth c H locs cells slots mc ms (F0 m pc ls st0) rest (va_Qv post (fun u U => va_P D vwCl (Wf u) U.heap ∧ va_D (va_A [x] H.size) (Wf u)) (va_A [x] H.size) a) (va_A [x] H.size))
    (hP : va_P D vwCl ((X ++ [x]) ++ pl) H) (hD : va_D A ((X ++ [x]) ++ pl)) (hS : va_S A s.heap H locs) (hA : ∀ q, s.heap.size ≤ q → A q) (n : Nat) (isR : List Nat) (hC : [n].map (fun i => (X ++ [x])[i]?) = [x].map some) (hR : isR.map (fun i => (X ++ [x])[i]?) = X.map some) (hn : va_nd isR = true) (hdis : ∀ i ∈ isR, i ∉ [n])
    (kk : ∀ (u : S) (H1 : Heap) (locs1 : List Loc), post u → va_P D vwCl ((X ++ Wf u) ++ pl) H1 → va_D A ((X ++ Wf u) ++ pl) → va_S A s.heap H1 locs1 → W p l e R s m args below meth c H1 locs1 (cells + mc) (slots + ms) Q (F0 m (pc + 3) ls rest)) : W p l e R s m args below meth c H locs cells slots Q (F0 m pc ls st0) := by
  have hx : A x.1 := by
    have h1 : (X ++ [x])[n]? = some x := by simpa using hC
    have hlt : n < (X ++ [x]).length := (List.getElem?_eq_some_iff.mp h1).1
    exact hD.2 n x (by rw [List.getElem?_append_left hlt]; exact h1)
  have hF : ∀ q, va_A [x] H.size q → A q := by
    intro q h
    rcases h with ⟨k, e1, h⟩ | h
    · have hk : k < 1 := (List.getElem?_eq_some_iff.mp h).1
      rw [show k = 0 by omega] at h
      have : x = (q, e1) := Option.some.inj h
      rw [this] at hx; exact hx
    · exact hA q (Nat.le_trans hS.1 h)
  refine va_callv hr hS (fun q _ h => hF q h) hF (fun u t H1 locs1 ht _ hp hB _ hk1 hS1 => ?_)
  obtain ⟨hP1, hD1⟩ := hB
  rw [ht] at hP1
  obtain ⟨hP2, hD2⟩ := va_joinQ hP hD [n] isR hC hR hn hdis hk1 hF hP1 hD1
  exact kk u H1 locs1 hp hP2 hD2 hS1
end KC
