/-! THE CLAIM OUT OF ONE WALK OF THE LAW'S BODY. Your part is whole_start (and what it stands on); all else here is the same for every law, but numbers. -/
def R_law : String := "JourneyRoadsLaw"
def lw_P (b : Addr) (xs : List Int32) (args : Array Value) (s : State) : Prop := args = #[.ref b] ∧ s.IntsAt b xs ∧ xs.length ≤ 192 ∧ (Jvm.Cond.and given_1 narrow_1).before args s = true
def lw_Q (_ : Array Value) (s : State) (o : Outcome) (t : State) : Prop := o = .returned (some (.int 1)) ∧ Framed s o t [] 600000 7302250
def lw_Z (below : List Frame) (a : Array Value) (s : State) : State → Prop := fun t => ∃ o, t.status = .running ∧ Ended t below o ∧ lw_Q a s o t
/-- the law's own end, with 1 on the stack, nothing written that was there before, its room as the claim has it -/
theorem lw_ret {p : Program} {l : Launch} {e : Env} {s : State} {m : MethodId} {below : List Frame} {meth : Method} {c : Code} {b : Nat} (hx : p.tables.exec = Jvm.exec) (hb : c.code = code) (hr : meth.sig.returnType = ret) (hlocks : meth.locks = false) {pc : Nat} {H : Heap} {ls : Array Slot} (hdg : decode code pc = .ok (.ireturn, 1)) : W p l e room_1 s m #[Value.ref b] below meth c H [] 600000 7302250 (lw_Z below #[Value.ref b] s) (F0 m pc ls [.int 1]) := by
  intro T hT X
  obtain ⟨fs, hret, hrun, hended, hW, hframe⟩ := X.leave (v := some (.int 1)) (hlocks := hlocks) (fun h => by rw [hr] at h; cases h)
  have hmeth' : T.vm.method? m = some meth := X.method'
  refine ⟨T.setFrames fs, ?_, .returned (some (.int 1)), hrun, hended, rfl, ⟨_, rfl⟩, hW, hframe⟩
  jvm_step X.here [X.here.top, hx, hb, hdg, hmeth', hr, ret, narrow_b1]
  (try refine ⟨rfl, ?_⟩); (try refine ⟨rfl, ?_⟩)
  first | (intro acts; rw [hret _ acts rfl rfl rfl]) | rw [hret _ _ rfl rfl rfl]
  exact Steps.refl _
/-- what holds at the law's entry: the machine, the code, the tables' words (any of lw_tbl by 'hts w (by decide +kernel)'), the script of L ints xs at the cell b, what the Statement gives of the start (any of its parts by flat_of_before) -/
def lw_At (p : Program) (s : State) (m : MethodId) (meth : Method) (c : Code) (b L : Nat) (xs : Nat → Int32) : Prop :=
  p.tables.exec = Jvm.exec ∧ c.code = code ∧ meth.sig.returnType = ret ∧ c.maxLocals = 4 ∧ s.vm.findClass R_law = some m.cls ∧ (∀ w ∈ lw_tbl, w.before #[Value.ref b] s = true) ∧ va_X b L xs s s.heap ∧ b < s.heap.size ∧ meth.locks = false ∧ (Jvm.Cond.and given_1 narrow_1).before #[Value.ref b] s = true
set_option maxHeartbeats 16000000 in
set_option maxRecDepth 100000 in
theorem law_loop {p : Program} {e : Env} {s : State} {m : MethodId} {below : List Frame} {meth : Method} {c : Code} (l : Launch) {b L : Nat} {xs : Nat → Int32} (hL : L ≤ 192) (C0 : lw_At p s m meth c b L xs) {D : va_G} {cA ad : Nat → Nat} {t : Nat} (hK : va_K D vwCl (rT cA) s) (hZ : rZ t ad s) (hI : rI ad) (hge : ∀ i, i < rN → s.heap.size ≤ ad i) : ∀ (n i : Nat) (F : Nat → va_E) (H : Heap) (locs : List Loc), i ≤ L → L - i < n → WT cA ad F → va_P D vwCl (rW ad F) H → va_S (rA ad) s.heap H locs → RR (AB ad F) (AB ad F) → ∀ (ls : Array Slot), lv_has ls 4 [(0, .ref b), (1, .ref (ad 0)), (2, .ref (ad 58)), (3, .int (nI i))] → W p l e room_1 s m #[Value.ref b] below meth c H locs 72 5520 (lw_Z below #[Value.ref b] s) (F0 m 18 ls []) := by
  obtain ⟨hx, hb, hr, hml, hown, hts, hX, hbl, hlocks, hgv⟩ := C0
  have S : CallFix p m c cL_law 4 s #[Value.ref b] wsL_law RL := ⟨hx, hb, hml, hown, fun w h => hts w (wsL_law_in w h)⟩
  have hbA : ¬ rA ad b := fun h => by obtain ⟨i9, hi9, he9⟩ := h; have := hge i9 hi9; omega
  intro n
  induction n with
  | zero =>
    intro i F H locs h1 h2
    exact absurd h2 (Nat.not_lt_zero _)
  | succ n ih =>
    intro i F H locs hi hm hW hP hS hR ls hl
    refine lv_iload_n S.1 S.2.1 dL_law_18 rfl (lv_at hl 3 rfl) ?_
    refine lv_aload_n S.1 S.2.1 dL_law_19 rfl (lv_at hl 0 rfl) ?_
    refine va_slen S.1 S.2.1 hX hbl hbA hS dL_law_20 ?_
    refine lv_iconst (v := (nI 3)) S.1 S.2.1 dL_law_21 (by decide +kernel) ?_
    refine lv_isub S.1 S.2.1 dL_law_22 ?_
    refine lv_topi (fun v1 e1 => ?_)
    have ks1 : v1.toInt = ((L : Nat) : Int) - ((3 : Nat) : Int) := by rw [e1]; exact pk_sub_toInt (by omega) (by omega)
    refine lv_icmp_gt (tgt := 847) S.1 S.2.1 dL_law_23 (by decide) (fun c2 => ?_) (fun c2 => ?_)
    · skip
      have k3 := ci_lt rfl (nI_toInt (n := i) (by omega)) c2
      refine lv_iconst (v := 1) S.1 S.2.1 dL_law_847 (by decide +kernel) ?_
      refine va_forget (fun q hq => by obtain ⟨i9, hi9, he9⟩ := hS.2.2 q hq; rw [he9]; exact hge i9 hi9) ?_
      refine W.widen (k := 600000) (n := 7302250) (by decide +kernel) (by decide +kernel) ?_
      exact lw_ret hx hb hr hlocks dL_law_848
    have k4 := ci_nlt rfl (nI_toInt (n := i) (by omega)) c2
    refine lv_aload_n S.1 S.2.1 dL_law_26 rfl (lv_at hl 0 rfl) ?_
    refine lv_iload_n S.1 S.2.1 dL_law_27 rfl (lv_at hl 3 rfl) ?_
    refine va_sld S.1 S.2.1 hX hbl hbA hS (vp_in_nI (show i < L by omega) (by omega)) dL_law_28 ?_
    refine lv_topi (fun v5 e5 => ?_)
    refine lv_bipush (v := (nI 31)) S.1 S.2.1 dL_law_29 (by decide +kernel) ?_
    refine lv_iand S.1 S.2.1 dL_law_31 ?_
    refine lv_topi (fun v6 e6 => ?_)
    by_cases hs7_0 : v6.toInt = 0
    · refine lv_tableIn (off := 140) (tgt := 172) S.1 S.2.1 dL_law_32 (by omega) (by omega) (by rw [hs7_0]; rfl) (by decide) ?_
      refine lv_aload_n S.1 S.2.1 dL_law_172 rfl (lv_at hl 1 rfl) ?_
      refine lv_aload_n S.1 S.2.1 dL_law_173 rfl (lv_at hl 0 rfl) ?_
      refine lv_iload_n S.1 S.2.1 dL_law_174 rfl (lv_at hl 3 rfl) ?_
      refine lv_iconst (v := (nI 1)) S.1 S.2.1 dL_law_175 (by decide +kernel) ?_
      refine lv_iadd S.1 S.2.1 dL_law_176 ?_
      refine lv_topi (fun v8 e8 => ?_)
      obtain rfl : v8 = nI (i + 1) := e8.trans (nI_add _ _)
      refine va_sld S.1 S.2.1 hX hbl hbA hS (vp_in_nI (show i + 1 < L by omega) (by omega)) dL_law_177 ?_
      refine lv_topi (fun v9 e9 => ?_)
      obtain ⟨c11, d11, k11, dr11, hF11, hc11, hd11, hk11⟩ := wt_main hW
      refine r_cVi (As := [.int v9]) (rest := []) S hK hZ hP hS hl.1 0 (by decide) hF11 (C := RX7) rfl (c_X7_feed l D cA ad t hI F hW v9) (cwV 1 S.2.2.2.2 gL_law_X7_feed rfl rfl rfl (by decide +kernel) ⟨Nat.le_of_ble_eq_true rfl, Nat.le_of_ble_eq_true rfl⟩) rfl rfl (Nat.le_of_ble_eq_true rfl) ⟨by decide +kernel, by decide +kernel⟩ dL_law_178 (fun r10 F10 H10 locs10 hr10 hP10 hS10 => ?_)
      obtain ⟨hW10, hFc10, hr10⟩ := hr10
      obtain ⟨hr10, hm10⟩ := hr10
      obtain ⟨he12, hl12⟩ := hr10
      have hE10 : RR (AB ad F) (AB ad F10) := RR.refF hR hFc10 (by decide)
      refine lv_pop S.1 S.2.1 dL_law_181 rfl ?_
      refine lv_aload_n S.1 S.2.1 dL_law_182 rfl (lv_at hl 2 rfl) ?_
      refine lv_aload_n S.1 S.2.1 dL_law_183 rfl (lv_at hl 0 rfl) ?_
      refine lv_iload_n S.1 S.2.1 dL_law_184 rfl (lv_at hl 3 rfl) ?_
      refine lv_iconst (v := (nI 1)) S.1 S.2.1 dL_law_185 (by decide +kernel) ?_
      refine lv_iadd S.1 S.2.1 dL_law_186 ?_
      refine lv_topi (fun v13 e13 => ?_)
      obtain rfl : v13 = nI (i + 1) := e13.trans (nI_add _ _)
      refine va_sld S.1 S.2.1 hX hbl hbA hS10 (vp_in_nI (show i + 1 < L by omega) (by omega)) dL_law_187 ?_
      refine lv_topi (fun v14 e14 => ?_)
      obtain ⟨ty16, kn16, no16, en16, at16, sa16, sd16, wr16, pl16, va16, hF16, hb16_1, hb16_2, hb16_3, hb16_4, hb16_5, hb16_6⟩ := wt_m hW10
      refine r_cVi (As := [.int v14]) (rest := []) S hK hZ hP10 hS10 hl.1 58 (by decide) hF16 (C := RX8) rfl (c_X8_feed l D cA ad t hI F10 hW10 v14) (cwV 1 S.2.2.2.2 gL_law_X8_feed rfl rfl rfl (by decide +kernel) ⟨Nat.le_of_ble_eq_true rfl, Nat.le_of_ble_eq_true rfl⟩) rfl rfl (Nat.le_of_ble_eq_true rfl) ⟨by decide +kernel, by decide +kernel⟩ dL_law_188 (fun r15 F15 H15 locs15 hr15 hP15 hS15 => ?_)
      obtain ⟨hW15, hFc15, hr15⟩ := hr15
      obtain ⟨hr15, hm15⟩ := hr15
      obtain ⟨he17, hl17⟩ := hr15
      have hq15 := hm15
      rw [show v14 = v9 from e14.trans e9.symm] at hq15
      have hT15 : r10 = r15 ∧ RR (AB ad F10) (AB ad F15) := by have q := feed_E hE10 v9; rw [hm10, hq15] at q; exact q
      have hR15 : RR (AB ad F15) (AB ad F15) := RR.clsF hT15.2 hFc15 (by decide)
      refine lv_pop S.1 S.2.1 dL_law_191 rfl ?_
      refine lv_goto (tgt := 841) S.1 S.2.1 dL_law_192 (by decide) ?_
      refine lv_iinc (v := (nI (i + 3))) (lv' := [(3, .int (nI (i + 3))), (0, .ref b), (1, .ref (ad 0)), (2, .ref (ad 58))]) S.1 S.2.1 dL_law_841 hl (k := 3) rfl (nI_add _ 3) (by decide) rfl (fun ls18 hl18 => ?_)
      refine lv_goto (tgt := 18) S.1 S.2.1 dL_law_844 (by decide) ?_
      exact ih (i + 3) F15 H15 locs15 (by omega) (by omega) hW15 hP15 hS15 hR15 ls18 (lv_sub hl18 [1, 2, 3, 0] rfl)
    by_cases hs7_1 : v6.toInt = 1
    · refine lv_tableIn (off := 163) (tgt := 195) S.1 S.2.1 dL_law_32 (by omega) (by omega) (by rw [hs7_1]; rfl) (by decide) ?_
      refine lv_aload_n S.1 S.2.1 dL_law_195 rfl (lv_at hl 1 rfl) ?_
      obtain ⟨c20, d20, k20, dr20, hF20, hc20, hd20, hk20⟩ := wt_main hW
      refine r_cVi (As := []) (rest := []) S hK hZ hP hS hl.1 0 (by decide) hF20 (C := RX7) rfl (c_X7_land l D cA ad t hI F hW ) (cwV 0 S.2.2.2.2 gL_law_X7_land rfl rfl rfl (by decide +kernel) ⟨Nat.le_of_ble_eq_true rfl, Nat.le_of_ble_eq_true rfl⟩) rfl rfl (Nat.le_of_ble_eq_true rfl) ⟨by decide +kernel, by decide +kernel⟩ dL_law_196 (fun r19 F19 H19 locs19 hr19 hP19 hS19 => ?_)
      obtain ⟨hW19, hFc19, hr19⟩ := hr19
      obtain ⟨hr19, hm19⟩ := hr19
      have hE19 : RR (AB ad F) (AB ad F19) := RR.refF hR hFc19 (by decide)
      refine lv_pop S.1 S.2.1 dL_law_199 rfl ?_
      refine lv_aload_n S.1 S.2.1 dL_law_200 rfl (lv_at hl 2 rfl) ?_
      obtain ⟨ty22, kn22, no22, en22, at22, sa22, sd22, wr22, pl22, va22, hF22, hb22_1, hb22_2, hb22_3, hb22_4, hb22_5, hb22_6⟩ := wt_m hW19
      refine r_cVi (As := []) (rest := []) S hK hZ hP19 hS19 hl.1 58 (by decide) hF22 (C := RX8) rfl (c_X8_land l D cA ad t hI F19 hW19 ) (cwV 0 S.2.2.2.2 gL_law_X8_land rfl rfl rfl (by decide +kernel) ⟨Nat.le_of_ble_eq_true rfl, Nat.le_of_ble_eq_true rfl⟩) rfl rfl (Nat.le_of_ble_eq_true rfl) ⟨by decide +kernel, by decide +kernel⟩ dL_law_201 (fun r21 F21 H21 locs21 hr21 hP21 hS21 => ?_)
      obtain ⟨hW21, hFc21, hr21⟩ := hr21
      obtain ⟨hr21, hm21⟩ := hr21
      have hq21 := hm21
      have hT21 : r19 = r21 ∧ RR (AB ad F19) (AB ad F21) := by have q := land_E hE19; rw [hm19, hq21] at q; exact q
      have hR21 : RR (AB ad F21) (AB ad F21) := RR.clsF hT21.2 hFc21 (by decide)
      refine lv_pop S.1 S.2.1 dL_law_204 rfl ?_
      refine lv_goto (tgt := 841) S.1 S.2.1 dL_law_205 (by decide) ?_
      refine lv_iinc (v := (nI (i + 3))) (lv' := [(3, .int (nI (i + 3))), (0, .ref b), (1, .ref (ad 0)), (2, .ref (ad 58))]) S.1 S.2.1 dL_law_841 hl (k := 3) rfl (nI_add _ 3) (by decide) rfl (fun ls23 hl23 => ?_)
      refine lv_goto (tgt := 18) S.1 S.2.1 dL_law_844 (by decide) ?_
      exact ih (i + 3) F21 H21 locs21 (by omega) (by omega) hW21 hP21 hS21 hR21 ls23 (lv_sub hl23 [1, 2, 3, 0] rfl)
    by_cases hs7_2 : v6.toInt = 2
    · refine lv_tableIn (off := 176) (tgt := 208) S.1 S.2.1 dL_law_32 (by omega) (by omega) (by rw [hs7_2]; rfl) (by decide) ?_
      refine lv_aload_n S.1 S.2.1 dL_law_208 rfl (lv_at hl 1 rfl) ?_
      obtain ⟨c25, d25, k25, dr25, hF25, hc25, hd25, hk25⟩ := wt_main hW
      refine r_cVp (As := []) (rest := []) S hK hZ hP hS hl.1 0 (by decide) hF25 (C := RX7) rfl (c_X7_fault l D cA ad t hI F hW ) (cwV 0 S.2.2.2.2 gL_law_X7_fault rfl rfl rfl (by decide +kernel) ⟨Nat.le_of_ble_eq_true rfl, Nat.le_of_ble_eq_true rfl⟩) rfl rfl (Nat.le_of_ble_eq_true rfl) ⟨by decide +kernel, by decide +kernel⟩ dL_law_209 (fun r24 hr24 => ?_)
      obtain ⟨hr24, hm24⟩ := hr24
      refine lv_pop S.1 S.2.1 dL_law_212 rfl ?_
      refine lv_aload_n S.1 S.2.1 dL_law_213 rfl (lv_at hl 2 rfl) ?_
      obtain ⟨ty27, kn27, no27, en27, at27, sa27, sd27, wr27, pl27, va27, hF27, hb27_1, hb27_2, hb27_3, hb27_4, hb27_5, hb27_6⟩ := wt_m hW
      refine r_cVp (As := []) (rest := []) S hK hZ hP hS hl.1 58 (by decide) hF27 (C := RX8) rfl (c_X8_fault l D cA ad t hI F hW ) (cwV 0 S.2.2.2.2 gL_law_X8_fault rfl rfl rfl (by decide +kernel) ⟨Nat.le_of_ble_eq_true rfl, Nat.le_of_ble_eq_true rfl⟩) rfl rfl (Nat.le_of_ble_eq_true rfl) ⟨by decide +kernel, by decide +kernel⟩ dL_law_214 (fun r26 hr26 => ?_)
      obtain ⟨hr26, hm26⟩ := hr26
      refine lv_pop S.1 S.2.1 dL_law_217 rfl ?_
      refine lv_goto (tgt := 841) S.1 S.2.1 dL_law_218 (by decide) ?_
      refine lv_iinc (v := (nI (i + 3))) (lv' := [(3, .int (nI (i + 3))), (0, .ref b), (1, .ref (ad 0)), (2, .ref (ad 58))]) S.1 S.2.1 dL_law_841 hl (k := 3) rfl (nI_add _ 3) (by decide) rfl (fun ls28 hl28 => ?_)
      refine lv_goto (tgt := 18) S.1 S.2.1 dL_law_844 (by decide) ?_
      exact ih (i + 3) F H locs (by omega) (by omega) hW hP hS hR ls28 (lv_sub hl28 [1, 2, 3, 0] rfl)
    by_cases hs7_3 : v6.toInt = 3
    · refine lv_tableIn (off := 189) (tgt := 221) S.1 S.2.1 dL_law_32 (by omega) (by omega) (by rw [hs7_3]; rfl) (by decide) ?_
      refine lv_aload_n S.1 S.2.1 dL_law_221 rfl (lv_at hl 1 rfl) ?_
      refine lv_aload_n S.1 S.2.1 dL_law_222 rfl (lv_at hl 0 rfl) ?_
      refine lv_iload_n S.1 S.2.1 dL_law_223 rfl (lv_at hl 3 rfl) ?_
      refine lv_iconst (v := (nI 1)) S.1 S.2.1 dL_law_224 (by decide +kernel) ?_
      refine lv_iadd S.1 S.2.1 dL_law_225 ?_
      refine lv_topi (fun v29 e29 => ?_)
      obtain rfl : v29 = nI (i + 1) := e29.trans (nI_add _ _)
      refine va_sld S.1 S.2.1 hX hbl hbA hS (vp_in_nI (show i + 1 < L by omega) (by omega)) dL_law_226 ?_
      refine lv_topi (fun v30 e30 => ?_)
      obtain ⟨c32, d32, k32, dr32, hF32, hc32, hd32, hk32⟩ := wt_main hW
      refine r_cVp (As := [.int v30]) (rest := []) S hK hZ hP hS hl.1 0 (by decide) hF32 (C := RX7) rfl (c_X7_told l D cA ad t hI F hW v30) (cwV 1 S.2.2.2.2 gL_law_X7_told rfl rfl rfl (by decide +kernel) ⟨Nat.le_of_ble_eq_true rfl, Nat.le_of_ble_eq_true rfl⟩) rfl rfl (Nat.le_of_ble_eq_true rfl) ⟨by decide +kernel, by decide +kernel⟩ dL_law_227 (fun r31 hr31 => ?_)
      obtain ⟨hr31, hm31⟩ := hr31
      refine lv_pop S.1 S.2.1 dL_law_230 rfl ?_
      refine lv_aload_n S.1 S.2.1 dL_law_231 rfl (lv_at hl 2 rfl) ?_
      refine lv_aload_n S.1 S.2.1 dL_law_232 rfl (lv_at hl 0 rfl) ?_
      refine lv_iload_n S.1 S.2.1 dL_law_233 rfl (lv_at hl 3 rfl) ?_
      refine lv_iconst (v := (nI 1)) S.1 S.2.1 dL_law_234 (by decide +kernel) ?_
      refine lv_iadd S.1 S.2.1 dL_law_235 ?_
      refine lv_topi (fun v33 e33 => ?_)
      obtain rfl : v33 = nI (i + 1) := e33.trans (nI_add _ _)
      refine va_sld S.1 S.2.1 hX hbl hbA hS (vp_in_nI (show i + 1 < L by omega) (by omega)) dL_law_236 ?_
      refine lv_topi (fun v34 e34 => ?_)
      obtain ⟨ty36, kn36, no36, en36, at36, sa36, sd36, wr36, pl36, va36, hF36, hb36_1, hb36_2, hb36_3, hb36_4, hb36_5, hb36_6⟩ := wt_m hW
      refine r_cVp (As := [.int v34]) (rest := []) S hK hZ hP hS hl.1 58 (by decide) hF36 (C := RX8) rfl (c_X8_told l D cA ad t hI F hW v34) (cwV 1 S.2.2.2.2 gL_law_X8_told rfl rfl rfl (by decide +kernel) ⟨Nat.le_of_ble_eq_true rfl, Nat.le_of_ble_eq_true rfl⟩) rfl rfl (Nat.le_of_ble_eq_true rfl) ⟨by decide +kernel, by decide +kernel⟩ dL_law_237 (fun r35 hr35 => ?_)
      obtain ⟨hr35, hm35⟩ := hr35
      refine lv_pop S.1 S.2.1 dL_law_240 rfl ?_
      refine lv_goto (tgt := 841) S.1 S.2.1 dL_law_241 (by decide) ?_
      refine lv_iinc (v := (nI (i + 3))) (lv' := [(3, .int (nI (i + 3))), (0, .ref b), (1, .ref (ad 0)), (2, .ref (ad 58))]) S.1 S.2.1 dL_law_841 hl (k := 3) rfl (nI_add _ 3) (by decide) rfl (fun ls37 hl37 => ?_)
      refine lv_goto (tgt := 18) S.1 S.2.1 dL_law_844 (by decide) ?_
      exact ih (i + 3) F H locs (by omega) (by omega) hW hP hS hR ls37 (lv_sub hl37 [1, 2, 3, 0] rfl)
    by_cases hs7_4 : v6.toInt = 4
    · refine lv_tableIn (off := 212) (tgt := 244) S.1 S.2.1 dL_law_32 (by omega) (by omega) (by rw [hs7_4]; rfl) (by decide) ?_
      refine lv_aload_n S.1 S.2.1 dL_law_244 rfl (lv_at hl 1 rfl) ?_
      refine lv_aload_n S.1 S.2.1 dL_law_245 rfl (lv_at hl 0 rfl) ?_
      refine lv_iload_n S.1 S.2.1 dL_law_246 rfl (lv_at hl 3 rfl) ?_
      refine lv_iconst (v := (nI 1)) S.1 S.2.1 dL_law_247 (by decide +kernel) ?_
      refine lv_iadd S.1 S.2.1 dL_law_248 ?_
      refine lv_topi (fun v38 e38 => ?_)
      obtain rfl : v38 = nI (i + 1) := e38.trans (nI_add _ _)
      refine va_sld S.1 S.2.1 hX hbl hbA hS (vp_in_nI (show i + 1 < L by omega) (by omega)) dL_law_249 ?_
      refine lv_topi (fun v39 e39 => ?_)
      refine lv_aload_n S.1 S.2.1 dL_law_250 rfl (lv_at hl 0 rfl) ?_
      refine lv_iload_n S.1 S.2.1 dL_law_251 rfl (lv_at hl 3 rfl) ?_
      refine lv_iconst (v := (nI 2)) S.1 S.2.1 dL_law_252 (by decide +kernel) ?_
      refine lv_iadd S.1 S.2.1 dL_law_253 ?_
      refine lv_topi (fun v40 e40 => ?_)
      obtain rfl : v40 = nI (i + 2) := e40.trans (nI_add _ _)
      refine va_sld S.1 S.2.1 hX hbl hbA hS (vp_in_nI (show i + 2 < L by omega) (by omega)) dL_law_254 ?_
      refine lv_topi (fun v41 e41 => ?_)
      obtain ⟨c43, d43, k43, dr43, hF43, hc43, hd43, hk43⟩ := wt_main hW
      refine r_cVp (As := [.int v39, .int v41]) (rest := []) S hK hZ hP hS hl.1 0 (by decide) hF43 (C := RX7) rfl (c_X7_town l D cA ad t hI F hW v39 v41) (cwV 2 S.2.2.2.2 gL_law_X7_town rfl rfl rfl (by decide +kernel) ⟨Nat.le_of_ble_eq_true rfl, Nat.le_of_ble_eq_true rfl⟩) rfl rfl (Nat.le_of_ble_eq_true rfl) ⟨by decide +kernel, by decide +kernel⟩ dL_law_255 (fun r42 hr42 => ?_)
      obtain ⟨hr42, hm42⟩ := hr42
      refine lv_pop S.1 S.2.1 dL_law_258 rfl ?_
      refine lv_aload_n S.1 S.2.1 dL_law_259 rfl (lv_at hl 2 rfl) ?_
      refine lv_aload_n S.1 S.2.1 dL_law_260 rfl (lv_at hl 0 rfl) ?_
      refine lv_iload_n S.1 S.2.1 dL_law_261 rfl (lv_at hl 3 rfl) ?_
      refine lv_iconst (v := (nI 1)) S.1 S.2.1 dL_law_262 (by decide +kernel) ?_
      refine lv_iadd S.1 S.2.1 dL_law_263 ?_
      refine lv_topi (fun v44 e44 => ?_)
      obtain rfl : v44 = nI (i + 1) := e44.trans (nI_add _ _)
      refine va_sld S.1 S.2.1 hX hbl hbA hS (vp_in_nI (show i + 1 < L by omega) (by omega)) dL_law_264 ?_
      refine lv_topi (fun v45 e45 => ?_)
      refine lv_aload_n S.1 S.2.1 dL_law_265 rfl (lv_at hl 0 rfl) ?_
      refine lv_iload_n S.1 S.2.1 dL_law_266 rfl (lv_at hl 3 rfl) ?_
      refine lv_iconst (v := (nI 2)) S.1 S.2.1 dL_law_267 (by decide +kernel) ?_
      refine lv_iadd S.1 S.2.1 dL_law_268 ?_
      refine lv_topi (fun v46 e46 => ?_)
      obtain rfl : v46 = nI (i + 2) := e46.trans (nI_add _ _)
      refine va_sld S.1 S.2.1 hX hbl hbA hS (vp_in_nI (show i + 2 < L by omega) (by omega)) dL_law_269 ?_
      refine lv_topi (fun v47 e47 => ?_)
      obtain ⟨ty49, kn49, no49, en49, at49, sa49, sd49, wr49, pl49, va49, hF49, hb49_1, hb49_2, hb49_3, hb49_4, hb49_5, hb49_6⟩ := wt_m hW
      refine r_cVp (As := [.int v45, .int v47]) (rest := []) S hK hZ hP hS hl.1 58 (by decide) hF49 (C := RX8) rfl (c_X8_town l D cA ad t hI F hW v45 v47) (cwV 2 S.2.2.2.2 gL_law_X8_town rfl rfl rfl (by decide +kernel) ⟨Nat.le_of_ble_eq_true rfl, Nat.le_of_ble_eq_true rfl⟩) rfl rfl (Nat.le_of_ble_eq_true rfl) ⟨by decide +kernel, by decide +kernel⟩ dL_law_270 (fun r48 hr48 => ?_)
      obtain ⟨hr48, hm48⟩ := hr48
      refine lv_pop S.1 S.2.1 dL_law_273 rfl ?_
      refine lv_goto (tgt := 841) S.1 S.2.1 dL_law_274 (by decide) ?_
      refine lv_iinc (v := (nI (i + 3))) (lv' := [(3, .int (nI (i + 3))), (0, .ref b), (1, .ref (ad 0)), (2, .ref (ad 58))]) S.1 S.2.1 dL_law_841 hl (k := 3) rfl (nI_add _ 3) (by decide) rfl (fun ls50 hl50 => ?_)
      refine lv_goto (tgt := 18) S.1 S.2.1 dL_law_844 (by decide) ?_
      exact ih (i + 3) F H locs (by omega) (by omega) hW hP hS hR ls50 (lv_sub hl50 [1, 2, 3, 0] rfl)
    by_cases hs7_5 : v6.toInt = 5
    · refine lv_tableIn (off := 245) (tgt := 277) S.1 S.2.1 dL_law_32 (by omega) (by omega) (by rw [hs7_5]; rfl) (by decide) ?_
      refine lv_aload_n S.1 S.2.1 dL_law_277 rfl (lv_at hl 1 rfl) ?_
      refine lv_aload_n S.1 S.2.1 dL_law_278 rfl (lv_at hl 0 rfl) ?_
      refine lv_iload_n S.1 S.2.1 dL_law_279 rfl (lv_at hl 3 rfl) ?_
      refine lv_iconst (v := (nI 1)) S.1 S.2.1 dL_law_280 (by decide +kernel) ?_
      refine lv_iadd S.1 S.2.1 dL_law_281 ?_
      refine lv_topi (fun v51 e51 => ?_)
      obtain rfl : v51 = nI (i + 1) := e51.trans (nI_add _ _)
      refine va_sld S.1 S.2.1 hX hbl hbA hS (vp_in_nI (show i + 1 < L by omega) (by omega)) dL_law_282 ?_
      refine lv_topi (fun v52 e52 => ?_)
      refine lv_aload_n S.1 S.2.1 dL_law_283 rfl (lv_at hl 0 rfl) ?_
      refine lv_iload_n S.1 S.2.1 dL_law_284 rfl (lv_at hl 3 rfl) ?_
      refine lv_iconst (v := (nI 2)) S.1 S.2.1 dL_law_285 (by decide +kernel) ?_
      refine lv_iadd S.1 S.2.1 dL_law_286 ?_
      refine lv_topi (fun v53 e53 => ?_)
      obtain rfl : v53 = nI (i + 2) := e53.trans (nI_add _ _)
      refine va_sld S.1 S.2.1 hX hbl hbA hS (vp_in_nI (show i + 2 < L by omega) (by omega)) dL_law_287 ?_
      refine lv_topi (fun v54 e54 => ?_)
      obtain ⟨c56, d56, k56, dr56, hF56, hc56, hd56, hk56⟩ := wt_main hW
      refine r_cVp (As := [.int v52, .int v54]) (rest := []) S hK hZ hP hS hl.1 0 (by decide) hF56 (C := RX7) rfl (c_X7_road l D cA ad t hI F hW v52 v54) (cwV 2 S.2.2.2.2 gL_law_X7_road rfl rfl rfl (by decide +kernel) ⟨Nat.le_of_ble_eq_true rfl, Nat.le_of_ble_eq_true rfl⟩) rfl rfl (Nat.le_of_ble_eq_true rfl) ⟨by decide +kernel, by decide +kernel⟩ dL_law_288 (fun r55 hr55 => ?_)
      obtain ⟨hr55, hm55⟩ := hr55
      refine lv_pop S.1 S.2.1 dL_law_291 rfl ?_
      refine lv_aload_n S.1 S.2.1 dL_law_292 rfl (lv_at hl 2 rfl) ?_
      refine lv_aload_n S.1 S.2.1 dL_law_293 rfl (lv_at hl 0 rfl) ?_
      refine lv_iload_n S.1 S.2.1 dL_law_294 rfl (lv_at hl 3 rfl) ?_
      refine lv_iconst (v := (nI 1)) S.1 S.2.1 dL_law_295 (by decide +kernel) ?_
      refine lv_iadd S.1 S.2.1 dL_law_296 ?_
      refine lv_topi (fun v57 e57 => ?_)
      obtain rfl : v57 = nI (i + 1) := e57.trans (nI_add _ _)
      refine va_sld S.1 S.2.1 hX hbl hbA hS (vp_in_nI (show i + 1 < L by omega) (by omega)) dL_law_297 ?_
      refine lv_topi (fun v58 e58 => ?_)
      refine lv_aload_n S.1 S.2.1 dL_law_298 rfl (lv_at hl 0 rfl) ?_
      refine lv_iload_n S.1 S.2.1 dL_law_299 rfl (lv_at hl 3 rfl) ?_
      refine lv_iconst (v := (nI 2)) S.1 S.2.1 dL_law_300 (by decide +kernel) ?_
      refine lv_iadd S.1 S.2.1 dL_law_301 ?_
      refine lv_topi (fun v59 e59 => ?_)
      obtain rfl : v59 = nI (i + 2) := e59.trans (nI_add _ _)
      refine va_sld S.1 S.2.1 hX hbl hbA hS (vp_in_nI (show i + 2 < L by omega) (by omega)) dL_law_302 ?_
      refine lv_topi (fun v60 e60 => ?_)
      obtain ⟨ty62, kn62, no62, en62, at62, sa62, sd62, wr62, pl62, va62, hF62, hb62_1, hb62_2, hb62_3, hb62_4, hb62_5, hb62_6⟩ := wt_m hW
      refine r_cVp (As := [.int v58, .int v60]) (rest := []) S hK hZ hP hS hl.1 58 (by decide) hF62 (C := RX8) rfl (c_X8_road l D cA ad t hI F hW v58 v60) (cwV 2 S.2.2.2.2 gL_law_X8_road rfl rfl rfl (by decide +kernel) ⟨Nat.le_of_ble_eq_true rfl, Nat.le_of_ble_eq_true rfl⟩) rfl rfl (Nat.le_of_ble_eq_true rfl) ⟨by decide +kernel, by decide +kernel⟩ dL_law_303 (fun r61 hr61 => ?_)
      obtain ⟨hr61, hm61⟩ := hr61
      refine lv_pop S.1 S.2.1 dL_law_306 rfl ?_
      refine lv_goto (tgt := 841) S.1 S.2.1 dL_law_307 (by decide) ?_
      refine lv_iinc (v := (nI (i + 3))) (lv' := [(3, .int (nI (i + 3))), (0, .ref b), (1, .ref (ad 0)), (2, .ref (ad 58))]) S.1 S.2.1 dL_law_841 hl (k := 3) rfl (nI_add _ 3) (by decide) rfl (fun ls63 hl63 => ?_)
      refine lv_goto (tgt := 18) S.1 S.2.1 dL_law_844 (by decide) ?_
      exact ih (i + 3) F H locs (by omega) (by omega) hW hP hS hR ls63 (lv_sub hl63 [1, 2, 3, 0] rfl)
    by_cases hs7_6 : v6.toInt = 6
    · refine lv_tableIn (off := 278) (tgt := 310) S.1 S.2.1 dL_law_32 (by omega) (by omega) (by rw [hs7_6]; rfl) (by decide) ?_
      refine lv_aload_n S.1 S.2.1 dL_law_310 rfl (lv_at hl 1 rfl) ?_
      obtain ⟨c65, d65, k65, dr65, hF65, hc65, hd65, hk65⟩ := wt_main hW
      refine r_cVi (As := []) (rest := []) S hK hZ hP hS hl.1 0 (by decide) hF65 (C := RX7) rfl (c_X7_stay l D cA ad t hI F hW ) (cwV 0 S.2.2.2.2 gL_law_X7_stay rfl rfl rfl (by decide +kernel) ⟨Nat.le_of_ble_eq_true rfl, Nat.le_of_ble_eq_true rfl⟩) rfl rfl (Nat.le_of_ble_eq_true rfl) ⟨by decide +kernel, by decide +kernel⟩ dL_law_311 (fun r64 F64 H64 locs64 hr64 hP64 hS64 => ?_)
      obtain ⟨hW64, hFc64, hr64⟩ := hr64
      obtain ⟨hr64, hm64⟩ := hr64
      have hE64 : RR (AB ad F) (AB ad F64) := RR.refF hR hFc64 (by decide)
      refine lv_pop S.1 S.2.1 dL_law_314 rfl ?_
      refine lv_aload_n S.1 S.2.1 dL_law_315 rfl (lv_at hl 2 rfl) ?_
      obtain ⟨ty66, kn66, no66, en66, at66, sa66, sd66, wr66, pl66, va66, hF66, hb66_1, hb66_2, hb66_3, hb66_4, hb66_5, hb66_6⟩ := wt_m hW64
      have hA67 := fN_of (k := 14) (a := at66) hF66 rfl (by omega)
      have hL67 := fN_of (k := 1) (a := ty66) hF66 rfl (by omega)
      refine r_cVi (As := []) (rest := []) S hK hZ hP64 hS64 hl.1 58 (by decide) hF66 (C := RX8) rfl (c_X8_stay l D cA ad t hI F64 hW64 ) (cwV 0 S.2.2.2.2 gL_law_X8_stay rfl rfl rfl (by decide +kernel) ⟨Nat.le_of_ble_eq_true rfl, Nat.le_of_ble_eq_true rfl⟩) rfl rfl (Nat.le_of_ble_eq_true rfl) ⟨by decide +kernel, by decide +kernel⟩ dL_law_316 (fun r68 F68 H68 locs68 hr68 hP68 hS68 => ?_)
      obtain ⟨hW68, hFc68, hr68⟩ := hr68
      obtain ⟨hr68, hm68⟩ := hr68
      obtain ⟨ty70, kn70, no70, en70, at70, sa70, sd70, wr70, pl70, va70, hF70, hb70_1, hb70_2, hb70_3, hb70_4, hb70_5, hb70_6⟩ := wt_m hW68
      have hA71 := fN_of (k := 14) (a := at70) hF70 rfl (by omega)
      have hL71 := fN_of (k := 1) (a := ty70) hF70 rfl (by omega)
      have hq68 := hm68
      obtain ⟨x68, hx68, he68⟩ := hereB hW64
      have hT68 : r64 = r68 ∧ RR (AB ad F64) (AB ad F68) := by have q := stay_E' hE64 hx68 he68; rw [hm64, hq68] at q; exact q
      have hR68 : RR (AB ad F68) (AB ad F68) := RR.clsF hT68.2 hFc68 (by decide)
      refine lv_pop S.1 S.2.1 dL_law_319 rfl ?_
      refine lv_goto (tgt := 841) S.1 S.2.1 dL_law_320 (by decide) ?_
      refine lv_iinc (v := (nI (i + 3))) (lv' := [(3, .int (nI (i + 3))), (0, .ref b), (1, .ref (ad 0)), (2, .ref (ad 58))]) S.1 S.2.1 dL_law_841 hl (k := 3) rfl (nI_add _ 3) (by decide) rfl (fun ls72 hl72 => ?_)
      refine lv_goto (tgt := 18) S.1 S.2.1 dL_law_844 (by decide) ?_
      exact ih (i + 3) F68 H68 locs68 (by omega) (by omega) hW68 hP68 hS68 hR68 ls72 (lv_sub hl72 [1, 2, 3, 0] rfl)
    by_cases hs7_7 : v6.toInt = 7
    · refine lv_tableIn (off := 291) (tgt := 323) S.1 S.2.1 dL_law_32 (by omega) (by omega) (by rw [hs7_7]; rfl) (by decide) ?_
      refine lv_aload_n S.1 S.2.1 dL_law_323 rfl (lv_at hl 1 rfl) ?_
      refine lv_aload_n S.1 S.2.1 dL_law_324 rfl (lv_at hl 0 rfl) ?_
      refine lv_iload_n S.1 S.2.1 dL_law_325 rfl (lv_at hl 3 rfl) ?_
      refine lv_iconst (v := (nI 1)) S.1 S.2.1 dL_law_326 (by decide +kernel) ?_
      refine lv_iadd S.1 S.2.1 dL_law_327 ?_
      refine lv_topi (fun v73 e73 => ?_)
      obtain rfl : v73 = nI (i + 1) := e73.trans (nI_add _ _)
      refine va_sld S.1 S.2.1 hX hbl hbA hS (vp_in_nI (show i + 1 < L by omega) (by omega)) dL_law_328 ?_
      refine lv_topi (fun v74 e74 => ?_)
      obtain ⟨c76, d76, k76, dr76, hF76, hc76, hd76, hk76⟩ := wt_main hW
      refine r_cVi (As := [.int v74]) (rest := []) S hK hZ hP hS hl.1 0 (by decide) hF76 (C := RX7) rfl (c_X7_walk l D cA ad t hI F hW v74) (cwV 1 S.2.2.2.2 gL_law_X7_walk rfl rfl rfl (by decide +kernel) ⟨Nat.le_of_ble_eq_true rfl, Nat.le_of_ble_eq_true rfl⟩) rfl rfl (Nat.le_of_ble_eq_true rfl) ⟨by decide +kernel, by decide +kernel⟩ dL_law_329 (fun r75 F75 H75 locs75 hr75 hP75 hS75 => ?_)
      obtain ⟨hW75, hFc75, hr75⟩ := hr75
      obtain ⟨hr75, hm75⟩ := hr75
      have hE75 : RR (AB ad F) (AB ad F75) := RR.refF hR hFc75 (by decide)
      refine lv_pop S.1 S.2.1 dL_law_332 rfl ?_
      refine lv_aload_n S.1 S.2.1 dL_law_333 rfl (lv_at hl 2 rfl) ?_
      refine lv_aload_n S.1 S.2.1 dL_law_334 rfl (lv_at hl 0 rfl) ?_
      refine lv_iload_n S.1 S.2.1 dL_law_335 rfl (lv_at hl 3 rfl) ?_
      refine lv_iconst (v := (nI 1)) S.1 S.2.1 dL_law_336 (by decide +kernel) ?_
      refine lv_iadd S.1 S.2.1 dL_law_337 ?_
      refine lv_topi (fun v77 e77 => ?_)
      obtain rfl : v77 = nI (i + 1) := e77.trans (nI_add _ _)
      refine va_sld S.1 S.2.1 hX hbl hbA hS75 (vp_in_nI (show i + 1 < L by omega) (by omega)) dL_law_338 ?_
      refine lv_topi (fun v78 e78 => ?_)
      obtain ⟨ty79, kn79, no79, en79, at79, sa79, sd79, wr79, pl79, va79, hF79, hb79_1, hb79_2, hb79_3, hb79_4, hb79_5, hb79_6⟩ := wt_m hW75
      have hA80 := fN_of (k := 14) (a := at79) hF79 rfl (by omega)
      have hL80 := fN_of (k := 1) (a := ty79) hF79 rfl (by omega)
      refine r_cVi (As := [.int v78]) (rest := []) S hK hZ hP75 hS75 hl.1 58 (by decide) hF79 (C := RX8) rfl (c_X8_walk l D cA ad t hI F75 hW75 v78) (cwV 1 S.2.2.2.2 gL_law_X8_walk rfl rfl rfl (by decide +kernel) ⟨Nat.le_of_ble_eq_true rfl, Nat.le_of_ble_eq_true rfl⟩) rfl rfl (Nat.le_of_ble_eq_true rfl) ⟨by decide +kernel, by decide +kernel⟩ dL_law_339 (fun r81 F81 H81 locs81 hr81 hP81 hS81 => ?_)
      obtain ⟨hW81, hFc81, hr81⟩ := hr81
      obtain ⟨hr81, hm81⟩ := hr81
      obtain ⟨ty83, kn83, no83, en83, at83, sa83, sd83, wr83, pl83, va83, hF83, hb83_1, hb83_2, hb83_3, hb83_4, hb83_5, hb83_6⟩ := wt_m hW81
      have hA84 := fN_of (k := 14) (a := at83) hF83 rfl (by omega)
      have hL84 := fN_of (k := 1) (a := ty83) hF83 rfl (by omega)
      have hq81 := hm81
      rw [show v78 = v74 from e78.trans e74.symm] at hq81
      obtain ⟨x81, hx81, he81⟩ := hereB hW75
      have hT81 : r75 = r81 ∧ RR (AB ad F75) (AB ad F81) := by have q := walk_E hE75 hx81 he81 v74; rw [hm75, hq81] at q; exact q
      have hR81 : RR (AB ad F81) (AB ad F81) := RR.clsF hT81.2 hFc81 (by decide)
      refine lv_pop S.1 S.2.1 dL_law_342 rfl ?_
      refine lv_goto (tgt := 841) S.1 S.2.1 dL_law_343 (by decide) ?_
      refine lv_iinc (v := (nI (i + 3))) (lv' := [(3, .int (nI (i + 3))), (0, .ref b), (1, .ref (ad 0)), (2, .ref (ad 58))]) S.1 S.2.1 dL_law_841 hl (k := 3) rfl (nI_add _ 3) (by decide) rfl (fun ls85 hl85 => ?_)
      refine lv_goto (tgt := 18) S.1 S.2.1 dL_law_844 (by decide) ?_
      exact ih (i + 3) F81 H81 locs81 (by omega) (by omega) hW81 hP81 hS81 hR81 ls85 (lv_sub hl85 [1, 2, 3, 0] rfl)
    by_cases hs7_8 : v6.toInt = 8
    · refine lv_tableIn (off := 314) (tgt := 346) S.1 S.2.1 dL_law_32 (by omega) (by omega) (by rw [hs7_8]; rfl) (by decide) ?_
      refine lv_aload_n S.1 S.2.1 dL_law_346 rfl (lv_at hl 1 rfl) ?_
      refine lv_aload_n S.1 S.2.1 dL_law_347 rfl (lv_at hl 0 rfl) ?_
      refine lv_iload_n S.1 S.2.1 dL_law_348 rfl (lv_at hl 3 rfl) ?_
      refine lv_iconst (v := (nI 1)) S.1 S.2.1 dL_law_349 (by decide +kernel) ?_
      refine lv_iadd S.1 S.2.1 dL_law_350 ?_
      refine lv_topi (fun v86 e86 => ?_)
      obtain rfl : v86 = nI (i + 1) := e86.trans (nI_add _ _)
      refine va_sld S.1 S.2.1 hX hbl hbA hS (vp_in_nI (show i + 1 < L by omega) (by omega)) dL_law_351 ?_
      refine lv_topi (fun v87 e87 => ?_)
      refine lv_aload_n S.1 S.2.1 dL_law_352 rfl (lv_at hl 0 rfl) ?_
      refine lv_iload_n S.1 S.2.1 dL_law_353 rfl (lv_at hl 3 rfl) ?_
      refine lv_iconst (v := (nI 2)) S.1 S.2.1 dL_law_354 (by decide +kernel) ?_
      refine lv_iadd S.1 S.2.1 dL_law_355 ?_
      refine lv_topi (fun v88 e88 => ?_)
      obtain rfl : v88 = nI (i + 2) := e88.trans (nI_add _ _)
      refine va_sld S.1 S.2.1 hX hbl hbA hS (vp_in_nI (show i + 2 < L by omega) (by omega)) dL_law_356 ?_
      refine lv_topi (fun v89 e89 => ?_)
      refine lv_if_eq (tgt := 364) S.1 S.2.1 dL_law_357 (by decide) (fun c90 => ?_) (fun c90 => ?_)
      · skip
        have k91 := ci_eq rfl z_ti c90
        refine lv_iconst (v := (nI 0)) S.1 S.2.1 dL_law_364 (by decide +kernel) ?_
        obtain ⟨c93, d93, k93, dr93, hF93, hc93, hd93, hk93⟩ := wt_main hW
        refine r_cVi (As := [.int v87, .int (nI 0)]) (rest := []) S hK hZ hP hS hl.1 0 (by decide) hF93 (C := RX7) rfl (c_X7_war l D cA ad t hI F hW v87 (nI 0)) (cwV 2 S.2.2.2.2 gL_law_X7_war rfl rfl rfl (by decide +kernel) ⟨Nat.le_of_ble_eq_true rfl, Nat.le_of_ble_eq_true rfl⟩) rfl rfl (Nat.le_of_ble_eq_true rfl) ⟨by decide +kernel, by decide +kernel⟩ dL_law_365 (fun r92 F92 H92 locs92 hr92 hP92 hS92 => ?_)
        obtain ⟨hW92, hFc92, hr92⟩ := hr92
        obtain ⟨hr92, hm92⟩ := hr92
        have hE92 : RR (AB ad F) (AB ad F92) := RR.refF hR hFc92 (by decide)
        refine lv_aload_n S.1 S.2.1 dL_law_368 rfl (lv_at hl 2 rfl) ?_
        refine lv_aload_n S.1 S.2.1 dL_law_369 rfl (lv_at hl 0 rfl) ?_
        refine lv_iload_n S.1 S.2.1 dL_law_370 rfl (lv_at hl 3 rfl) ?_
        refine lv_iconst (v := (nI 1)) S.1 S.2.1 dL_law_371 (by decide +kernel) ?_
        refine lv_iadd S.1 S.2.1 dL_law_372 ?_
        refine lv_topi (fun v94 e94 => ?_)
        obtain rfl : v94 = nI (i + 1) := e94.trans (nI_add _ _)
        refine va_sld S.1 S.2.1 hX hbl hbA hS92 (vp_in_nI (show i + 1 < L by omega) (by omega)) dL_law_373 ?_
        refine lv_topi (fun v95 e95 => ?_)
        refine lv_aload_n S.1 S.2.1 dL_law_374 rfl (lv_at hl 0 rfl) ?_
        refine lv_iload_n S.1 S.2.1 dL_law_375 rfl (lv_at hl 3 rfl) ?_
        refine lv_iconst (v := (nI 2)) S.1 S.2.1 dL_law_376 (by decide +kernel) ?_
        refine lv_iadd S.1 S.2.1 dL_law_377 ?_
        refine lv_topi (fun v96 e96 => ?_)
        obtain rfl : v96 = nI (i + 2) := e96.trans (nI_add _ _)
        refine va_sld S.1 S.2.1 hX hbl hbA hS92 (vp_in_nI (show i + 2 < L by omega) (by omega)) dL_law_378 ?_
        refine lv_topi (fun v97 e97 => ?_)
        refine lv_if_eq (tgt := 386) S.1 S.2.1 dL_law_379 (by decide) (fun c98 => ?_) (fun c98 => absurd ((e97.trans e89.symm).trans c90) c98)
        have k99 := ci_eq rfl z_ti c98
        refine lv_iconst (v := (nI 0)) S.1 S.2.1 dL_law_386 (by decide +kernel) ?_
        obtain ⟨ty100, kn100, no100, en100, at100, sa100, sd100, wr100, pl100, va100, hF100, hb100_1, hb100_2, hb100_3, hb100_4, hb100_5, hb100_6⟩ := wt_m hW92
        have hA101 := fN_of (k := 14) (a := at100) hF100 rfl (by omega)
        have hL101 := fN_of (k := 1) (a := ty100) hF100 rfl (by omega)
        refine r_cVi (As := [.int v95, .int (nI 0)]) (rest := [.int r92]) S hK hZ hP92 hS92 hl.1 58 (by decide) hF100 (C := RX8) rfl (c_X8_war l D cA ad t hI F92 hW92 v95 (nI 0)) (cwV 2 S.2.2.2.2 gL_law_X8_war rfl rfl rfl (by decide +kernel) ⟨Nat.le_of_ble_eq_true rfl, Nat.le_of_ble_eq_true rfl⟩) rfl rfl (Nat.le_of_ble_eq_true rfl) ⟨by decide +kernel, by decide +kernel⟩ dL_law_387 (fun r102 F102 H102 locs102 hr102 hP102 hS102 => ?_)
        obtain ⟨hW102, hFc102, hr102⟩ := hr102
        obtain ⟨hr102, hm102⟩ := hr102
        obtain ⟨ty104, kn104, no104, en104, at104, sa104, sd104, wr104, pl104, va104, hF104, hb104_1, hb104_2, hb104_3, hb104_4, hb104_5, hb104_6⟩ := wt_m hW102
        have hA105 := fN_of (k := 14) (a := at104) hF104 rfl (by omega)
        have hL105 := fN_of (k := 1) (a := ty104) hF104 rfl (by omega)
        have hq102 := hm102
        rw [show v95 = v87 from e95.trans e87.symm] at hq102
        have hT102 : r92 = r102 ∧ RR (AB ad F92) (AB ad F102) := by have q := war_E hE92 v87 (nI 0); rw [hm92, hq102] at q; exact q
        have hR102 : RR (AB ad F102) (AB ad F102) := RR.clsF hT102.2 hFc102 (by decide)
        refine lv_icmp_eq (tgt := 841) S.1 S.2.1 dL_law_390 (by decide) (fun c106 => ?_) (fun c106 => absurd hT102.1 c106)
        have k107 := ci_eq rfl rfl c106
        refine lv_iinc (v := (nI (i + 3))) (lv' := [(3, .int (nI (i + 3))), (0, .ref b), (1, .ref (ad 0)), (2, .ref (ad 58))]) S.1 S.2.1 dL_law_841 hl (k := 3) rfl (nI_add _ 3) (by decide) rfl (fun ls108 hl108 => ?_)
        refine lv_goto (tgt := 18) S.1 S.2.1 dL_law_844 (by decide) ?_
        exact ih (i + 3) F102 H102 locs102 (by omega) (by omega) hW102 hP102 hS102 hR102 ls108 (lv_sub hl108 [1, 2, 3, 0] rfl)
      have k109 := ci_ne rfl z_ti c90
      refine lv_iconst (v := (nI 1)) S.1 S.2.1 dL_law_360 (by decide +kernel) ?_
      refine lv_goto (tgt := 365) S.1 S.2.1 dL_law_361 (by decide) ?_
      obtain ⟨c111, d111, k111, dr111, hF111, hc111, hd111, hk111⟩ := wt_main hW
      refine r_cVi (As := [.int v87, .int (nI 1)]) (rest := []) S hK hZ hP hS hl.1 0 (by decide) hF111 (C := RX7) rfl (c_X7_war l D cA ad t hI F hW v87 (nI 1)) (cwV 2 S.2.2.2.2 gL_law_X7_war rfl rfl rfl (by decide +kernel) ⟨Nat.le_of_ble_eq_true rfl, Nat.le_of_ble_eq_true rfl⟩) rfl rfl (Nat.le_of_ble_eq_true rfl) ⟨by decide +kernel, by decide +kernel⟩ dL_law_365 (fun r110 F110 H110 locs110 hr110 hP110 hS110 => ?_)
      obtain ⟨hW110, hFc110, hr110⟩ := hr110
      obtain ⟨hr110, hm110⟩ := hr110
      have hE110 : RR (AB ad F) (AB ad F110) := RR.refF hR hFc110 (by decide)
      refine lv_aload_n S.1 S.2.1 dL_law_368 rfl (lv_at hl 2 rfl) ?_
      refine lv_aload_n S.1 S.2.1 dL_law_369 rfl (lv_at hl 0 rfl) ?_
      refine lv_iload_n S.1 S.2.1 dL_law_370 rfl (lv_at hl 3 rfl) ?_
      refine lv_iconst (v := (nI 1)) S.1 S.2.1 dL_law_371 (by decide +kernel) ?_
      refine lv_iadd S.1 S.2.1 dL_law_372 ?_
      refine lv_topi (fun v112 e112 => ?_)
      obtain rfl : v112 = nI (i + 1) := e112.trans (nI_add _ _)
      refine va_sld S.1 S.2.1 hX hbl hbA hS110 (vp_in_nI (show i + 1 < L by omega) (by omega)) dL_law_373 ?_
      refine lv_topi (fun v113 e113 => ?_)
      refine lv_aload_n S.1 S.2.1 dL_law_374 rfl (lv_at hl 0 rfl) ?_
      refine lv_iload_n S.1 S.2.1 dL_law_375 rfl (lv_at hl 3 rfl) ?_
      refine lv_iconst (v := (nI 2)) S.1 S.2.1 dL_law_376 (by decide +kernel) ?_
      refine lv_iadd S.1 S.2.1 dL_law_377 ?_
      refine lv_topi (fun v114 e114 => ?_)
      obtain rfl : v114 = nI (i + 2) := e114.trans (nI_add _ _)
      refine va_sld S.1 S.2.1 hX hbl hbA hS110 (vp_in_nI (show i + 2 < L by omega) (by omega)) dL_law_378 ?_
      refine lv_topi (fun v115 e115 => ?_)
      refine lv_if_eq (tgt := 386) S.1 S.2.1 dL_law_379 (by decide) (fun c116 => absurd ((e89.trans e115.symm).trans c116) c90) (fun c116 => ?_)
      have k117 := ci_ne rfl z_ti c116
      refine lv_iconst (v := (nI 1)) S.1 S.2.1 dL_law_382 (by decide +kernel) ?_
      refine lv_goto (tgt := 387) S.1 S.2.1 dL_law_383 (by decide) ?_
      obtain ⟨ty118, kn118, no118, en118, at118, sa118, sd118, wr118, pl118, va118, hF118, hb118_1, hb118_2, hb118_3, hb118_4, hb118_5, hb118_6⟩ := wt_m hW110
      have hA119 := fN_of (k := 14) (a := at118) hF118 rfl (by omega)
      have hL119 := fN_of (k := 1) (a := ty118) hF118 rfl (by omega)
      refine r_cVi (As := [.int v113, .int (nI 1)]) (rest := [.int r110]) S hK hZ hP110 hS110 hl.1 58 (by decide) hF118 (C := RX8) rfl (c_X8_war l D cA ad t hI F110 hW110 v113 (nI 1)) (cwV 2 S.2.2.2.2 gL_law_X8_war rfl rfl rfl (by decide +kernel) ⟨Nat.le_of_ble_eq_true rfl, Nat.le_of_ble_eq_true rfl⟩) rfl rfl (Nat.le_of_ble_eq_true rfl) ⟨by decide +kernel, by decide +kernel⟩ dL_law_387 (fun r120 F120 H120 locs120 hr120 hP120 hS120 => ?_)
      obtain ⟨hW120, hFc120, hr120⟩ := hr120
      obtain ⟨hr120, hm120⟩ := hr120
      obtain ⟨ty122, kn122, no122, en122, at122, sa122, sd122, wr122, pl122, va122, hF122, hb122_1, hb122_2, hb122_3, hb122_4, hb122_5, hb122_6⟩ := wt_m hW120
      have hA123 := fN_of (k := 14) (a := at122) hF122 rfl (by omega)
      have hL123 := fN_of (k := 1) (a := ty122) hF122 rfl (by omega)
      have hq120 := hm120
      rw [show v113 = v87 from e113.trans e87.symm] at hq120
      have hT120 : r110 = r120 ∧ RR (AB ad F110) (AB ad F120) := by have q := war_E hE110 v87 (nI 1); rw [hm110, hq120] at q; exact q
      have hR120 : RR (AB ad F120) (AB ad F120) := RR.clsF hT120.2 hFc120 (by decide)
      refine lv_icmp_eq (tgt := 841) S.1 S.2.1 dL_law_390 (by decide) (fun c124 => ?_) (fun c124 => absurd hT120.1 c124)
      have k125 := ci_eq rfl rfl c124
      refine lv_iinc (v := (nI (i + 3))) (lv' := [(3, .int (nI (i + 3))), (0, .ref b), (1, .ref (ad 0)), (2, .ref (ad 58))]) S.1 S.2.1 dL_law_841 hl (k := 3) rfl (nI_add _ 3) (by decide) rfl (fun ls126 hl126 => ?_)
      refine lv_goto (tgt := 18) S.1 S.2.1 dL_law_844 (by decide) ?_
      exact ih (i + 3) F120 H120 locs120 (by omega) (by omega) hW120 hP120 hS120 hR120 ls126 (lv_sub hl126 [1, 2, 3, 0] rfl)
    by_cases hs7_9 : v6.toInt = 9
    · refine lv_tableIn (off := 363) (tgt := 395) S.1 S.2.1 dL_law_32 (by omega) (by omega) (by rw [hs7_9]; rfl) (by decide) ?_
      refine lv_aload_n S.1 S.2.1 dL_law_395 rfl (lv_at hl 1 rfl) ?_
      obtain ⟨c128, d128, k128, dr128, hF128, hc128, hd128, hk128⟩ := wt_main hW
      refine r_cVi (As := []) (rest := []) S hK hZ hP hS hl.1 0 (by decide) hF128 (C := RX7) rfl (c_X7_home l D cA ad t hI F hW ) (cwV 0 S.2.2.2.2 gL_law_X7_home rfl rfl rfl (by decide +kernel) ⟨Nat.le_of_ble_eq_true rfl, Nat.le_of_ble_eq_true rfl⟩) rfl rfl (Nat.le_of_ble_eq_true rfl) ⟨by decide +kernel, by decide +kernel⟩ dL_law_396 (fun r127 F127 H127 locs127 hr127 hP127 hS127 => ?_)
      obtain ⟨hW127, hFc127, hr127⟩ := hr127
      obtain ⟨hr127, hm127⟩ := hr127
      have hE127 : RR (AB ad F) (AB ad F127) := RR.refF hR hFc127 (by decide)
      refine lv_pop S.1 S.2.1 dL_law_399 rfl ?_
      refine lv_aload_n S.1 S.2.1 dL_law_400 rfl (lv_at hl 2 rfl) ?_
      obtain ⟨ty129, kn129, no129, en129, at129, sa129, sd129, wr129, pl129, va129, hF129, hb129_1, hb129_2, hb129_3, hb129_4, hb129_5, hb129_6⟩ := wt_m hW127
      have hA130 := fN_of (k := 14) (a := at129) hF129 rfl (by omega)
      have hL130 := fN_of (k := 1) (a := ty129) hF129 rfl (by omega)
      refine r_cVi (As := []) (rest := []) S hK hZ hP127 hS127 hl.1 58 (by decide) hF129 (C := RX8) rfl (c_X8_home l D cA ad t hI F127 hW127 ) (cwV 0 S.2.2.2.2 gL_law_X8_home rfl rfl rfl (by decide +kernel) ⟨Nat.le_of_ble_eq_true rfl, Nat.le_of_ble_eq_true rfl⟩) rfl rfl (Nat.le_of_ble_eq_true rfl) ⟨by decide +kernel, by decide +kernel⟩ dL_law_401 (fun r131 F131 H131 locs131 hr131 hP131 hS131 => ?_)
      obtain ⟨hW131, hFc131, hr131⟩ := hr131
      obtain ⟨hr131, hm131⟩ := hr131
      obtain ⟨ty133, kn133, no133, en133, at133, sa133, sd133, wr133, pl133, va133, hF133, hb133_1, hb133_2, hb133_3, hb133_4, hb133_5, hb133_6⟩ := wt_m hW131
      have hA134 := fN_of (k := 14) (a := at133) hF133 rfl (by omega)
      have hL134 := fN_of (k := 1) (a := ty133) hF133 rfl (by omega)
      have hq131 := hm131
      have hT131 : r127 = r131 ∧ RR (AB ad F127) (AB ad F131) := by have q := home_E hE127; rw [hm127, hq131] at q; exact q
      have hR131 : RR (AB ad F131) (AB ad F131) := RR.clsF hT131.2 hFc131 (by decide)
      refine lv_pop S.1 S.2.1 dL_law_404 rfl ?_
      refine lv_goto (tgt := 841) S.1 S.2.1 dL_law_405 (by decide) ?_
      refine lv_iinc (v := (nI (i + 3))) (lv' := [(3, .int (nI (i + 3))), (0, .ref b), (1, .ref (ad 0)), (2, .ref (ad 58))]) S.1 S.2.1 dL_law_841 hl (k := 3) rfl (nI_add _ 3) (by decide) rfl (fun ls135 hl135 => ?_)
      refine lv_goto (tgt := 18) S.1 S.2.1 dL_law_844 (by decide) ?_
      exact ih (i + 3) F131 H131 locs131 (by omega) (by omega) hW131 hP131 hS131 hR131 ls135 (lv_sub hl135 [1, 2, 3, 0] rfl)
    by_cases hs7_10 : v6.toInt = 10
    · refine lv_tableIn (off := 376) (tgt := 408) S.1 S.2.1 dL_law_32 (by omega) (by omega) (by rw [hs7_10]; rfl) (by decide) ?_
      refine lv_aload_n S.1 S.2.1 dL_law_408 rfl (lv_at hl 1 rfl) ?_
      refine lv_aload_n S.1 S.2.1 dL_law_409 rfl (lv_at hl 0 rfl) ?_
      refine lv_iload_n S.1 S.2.1 dL_law_410 rfl (lv_at hl 3 rfl) ?_
      refine lv_iconst (v := (nI 1)) S.1 S.2.1 dL_law_411 (by decide +kernel) ?_
      refine lv_iadd S.1 S.2.1 dL_law_412 ?_
      refine lv_topi (fun v136 e136 => ?_)
      obtain rfl : v136 = nI (i + 1) := e136.trans (nI_add _ _)
      refine va_sld S.1 S.2.1 hX hbl hbA hS (vp_in_nI (show i + 1 < L by omega) (by omega)) dL_law_413 ?_
      refine lv_topi (fun v137 e137 => ?_)
      obtain ⟨c139, d139, k139, dr139, hF139, hc139, hd139, hk139⟩ := wt_main hW
      refine r_cVi (As := [.int v137]) (rest := []) S hK hZ hP hS hl.1 0 (by decide) hF139 (C := RX7) rfl (c_X7_drift l D cA ad t hI F hW v137) (cwV 1 S.2.2.2.2 gL_law_X7_drift rfl rfl rfl (by decide +kernel) ⟨Nat.le_of_ble_eq_true rfl, Nat.le_of_ble_eq_true rfl⟩) rfl rfl (Nat.le_of_ble_eq_true rfl) ⟨by decide +kernel, by decide +kernel⟩ dL_law_414 (fun r138 F138 H138 locs138 hr138 hP138 hS138 => ?_)
      obtain ⟨hW138, hFc138, hr138⟩ := hr138
      obtain ⟨hr138, hm138⟩ := hr138
      have hE138 : RR (AB ad F) (AB ad F138) := RR.refF hR hFc138 (by decide)
      refine lv_pop S.1 S.2.1 dL_law_417 rfl ?_
      refine lv_aload_n S.1 S.2.1 dL_law_418 rfl (lv_at hl 2 rfl) ?_
      refine lv_aload_n S.1 S.2.1 dL_law_419 rfl (lv_at hl 0 rfl) ?_
      refine lv_iload_n S.1 S.2.1 dL_law_420 rfl (lv_at hl 3 rfl) ?_
      refine lv_iconst (v := (nI 1)) S.1 S.2.1 dL_law_421 (by decide +kernel) ?_
      refine lv_iadd S.1 S.2.1 dL_law_422 ?_
      refine lv_topi (fun v140 e140 => ?_)
      obtain rfl : v140 = nI (i + 1) := e140.trans (nI_add _ _)
      refine va_sld S.1 S.2.1 hX hbl hbA hS138 (vp_in_nI (show i + 1 < L by omega) (by omega)) dL_law_423 ?_
      refine lv_topi (fun v141 e141 => ?_)
      obtain ⟨ty142, kn142, no142, en142, at142, sa142, sd142, wr142, pl142, va142, hF142, hb142_1, hb142_2, hb142_3, hb142_4, hb142_5, hb142_6⟩ := wt_m hW138
      have hA143 := fN_of (k := 14) (a := at142) hF142 rfl (by omega)
      have hL143 := fN_of (k := 1) (a := ty142) hF142 rfl (by omega)
      refine r_cVi (As := [.int v141]) (rest := []) S hK hZ hP138 hS138 hl.1 58 (by decide) hF142 (C := RX8) rfl (c_X8_drift l D cA ad t hI F138 hW138 v141) (cwV 1 S.2.2.2.2 gL_law_X8_drift rfl rfl rfl (by decide +kernel) ⟨Nat.le_of_ble_eq_true rfl, Nat.le_of_ble_eq_true rfl⟩) rfl rfl (Nat.le_of_ble_eq_true rfl) ⟨by decide +kernel, by decide +kernel⟩ dL_law_424 (fun r144 F144 H144 locs144 hr144 hP144 hS144 => ?_)
      obtain ⟨hW144, hFc144, hr144⟩ := hr144
      obtain ⟨hr144, hm144⟩ := hr144
      obtain ⟨ty146, kn146, no146, en146, at146, sa146, sd146, wr146, pl146, va146, hF146, hb146_1, hb146_2, hb146_3, hb146_4, hb146_5, hb146_6⟩ := wt_m hW144
      have hA147 := fN_of (k := 14) (a := at146) hF146 rfl (by omega)
      have hL147 := fN_of (k := 1) (a := ty146) hF146 rfl (by omega)
      have hq144 := hm144
      rw [show v141 = v137 from e141.trans e137.symm] at hq144
      obtain ⟨x144, hx144, he144⟩ := hereB hW138
      have hT144 : r138 = r144 ∧ RR (AB ad F138) (AB ad F144) := by have q := drift_E hE138 hx144 he144 v137; rw [hm138, hq144] at q; exact q
      have hR144 : RR (AB ad F144) (AB ad F144) := RR.clsF hT144.2 hFc144 (by decide)
      refine lv_pop S.1 S.2.1 dL_law_427 rfl ?_
      refine lv_goto (tgt := 841) S.1 S.2.1 dL_law_428 (by decide) ?_
      refine lv_iinc (v := (nI (i + 3))) (lv' := [(3, .int (nI (i + 3))), (0, .ref b), (1, .ref (ad 0)), (2, .ref (ad 58))]) S.1 S.2.1 dL_law_841 hl (k := 3) rfl (nI_add _ 3) (by decide) rfl (fun ls148 hl148 => ?_)
      refine lv_goto (tgt := 18) S.1 S.2.1 dL_law_844 (by decide) ?_
      exact ih (i + 3) F144 H144 locs144 (by omega) (by omega) hW144 hP144 hS144 hR144 ls148 (lv_sub hl148 [1, 2, 3, 0] rfl)
    by_cases hs7_11 : v6.toInt = 11
    · refine lv_tableIn (off := 399) (tgt := 431) S.1 S.2.1 dL_law_32 (by omega) (by omega) (by rw [hs7_11]; rfl) (by decide) ?_
      refine lv_aload_n S.1 S.2.1 dL_law_431 rfl (lv_at hl 1 rfl) ?_
      obtain ⟨c150, d150, k150, dr150, hF150, hc150, hd150, hk150⟩ := wt_main hW
      refine r_cVi (As := []) (rest := []) S hK hZ hP hS hl.1 0 (by decide) hF150 (C := RX7) rfl (c_X7_undo l D cA ad t hI F hW ) (cwV 0 S.2.2.2.2 gL_law_X7_undo rfl rfl rfl (by decide +kernel) ⟨Nat.le_of_ble_eq_true rfl, Nat.le_of_ble_eq_true rfl⟩) rfl rfl (Nat.le_of_ble_eq_true rfl) ⟨by decide +kernel, by decide +kernel⟩ dL_law_432 (fun r149 F149 H149 locs149 hr149 hP149 hS149 => ?_)
      obtain ⟨hW149, hFc149, hr149⟩ := hr149
      obtain ⟨hr149, hm149⟩ := hr149
      have hE149 : RR (AB ad F) (AB ad F149) := RR.refF hR hFc149 (by decide)
      refine lv_pop S.1 S.2.1 dL_law_435 rfl ?_
      refine lv_aload_n S.1 S.2.1 dL_law_436 rfl (lv_at hl 2 rfl) ?_
      obtain ⟨ty151, kn151, no151, en151, at151, sa151, sd151, wr151, pl151, va151, hF151, hb151_1, hb151_2, hb151_3, hb151_4, hb151_5, hb151_6⟩ := wt_m hW149
      have hA152 := fN_of (k := 14) (a := at151) hF151 rfl (by omega)
      have hL152 := fN_of (k := 1) (a := ty151) hF151 rfl (by omega)
      refine r_cVi (As := []) (rest := []) S hK hZ hP149 hS149 hl.1 58 (by decide) hF151 (C := RX8) rfl (c_X8_undo l D cA ad t hI F149 hW149 ) (cwV 0 S.2.2.2.2 gL_law_X8_undo rfl rfl rfl (by decide +kernel) ⟨Nat.le_of_ble_eq_true rfl, Nat.le_of_ble_eq_true rfl⟩) rfl rfl (Nat.le_of_ble_eq_true rfl) ⟨by decide +kernel, by decide +kernel⟩ dL_law_437 (fun r153 F153 H153 locs153 hr153 hP153 hS153 => ?_)
      obtain ⟨hW153, hFc153, hr153⟩ := hr153
      obtain ⟨hr153, hm153⟩ := hr153
      obtain ⟨ty155, kn155, no155, en155, at155, sa155, sd155, wr155, pl155, va155, hF155, hb155_1, hb155_2, hb155_3, hb155_4, hb155_5, hb155_6⟩ := wt_m hW153
      have hA156 := fN_of (k := 14) (a := at155) hF155 rfl (by omega)
      have hL156 := fN_of (k := 1) (a := ty155) hF155 rfl (by omega)
      have hq153 := hm153
      have hT153 : r149 = r153 ∧ RR (AB ad F149) (AB ad F153) := by have q := undo_E hE149; rw [hm149, hq153] at q; exact q
      have hR153 : RR (AB ad F153) (AB ad F153) := RR.clsF hT153.2 hFc153 (by decide)
      refine lv_pop S.1 S.2.1 dL_law_440 rfl ?_
      refine lv_goto (tgt := 841) S.1 S.2.1 dL_law_441 (by decide) ?_
      refine lv_iinc (v := (nI (i + 3))) (lv' := [(3, .int (nI (i + 3))), (0, .ref b), (1, .ref (ad 0)), (2, .ref (ad 58))]) S.1 S.2.1 dL_law_841 hl (k := 3) rfl (nI_add _ 3) (by decide) rfl (fun ls157 hl157 => ?_)
      refine lv_goto (tgt := 18) S.1 S.2.1 dL_law_844 (by decide) ?_
      exact ih (i + 3) F153 H153 locs153 (by omega) (by omega) hW153 hP153 hS153 hR153 ls157 (lv_sub hl157 [1, 2, 3, 0] rfl)
    by_cases hs7_12 : v6.toInt = 12
    · refine lv_tableIn (off := 412) (tgt := 444) S.1 S.2.1 dL_law_32 (by omega) (by omega) (by rw [hs7_12]; rfl) (by decide) ?_
      refine lv_aload_n S.1 S.2.1 dL_law_444 rfl (lv_at hl 1 rfl) ?_
      refine lv_aload_n S.1 S.2.1 dL_law_445 rfl (lv_at hl 0 rfl) ?_
      refine lv_iload_n S.1 S.2.1 dL_law_446 rfl (lv_at hl 3 rfl) ?_
      refine lv_iconst (v := (nI 1)) S.1 S.2.1 dL_law_447 (by decide +kernel) ?_
      refine lv_iadd S.1 S.2.1 dL_law_448 ?_
      refine lv_topi (fun v158 e158 => ?_)
      obtain rfl : v158 = nI (i + 1) := e158.trans (nI_add _ _)
      refine va_sld S.1 S.2.1 hX hbl hbA hS (vp_in_nI (show i + 1 < L by omega) (by omega)) dL_law_449 ?_
      refine lv_topi (fun v159 e159 => ?_)
      obtain ⟨c161, d161, k161, dr161, hF161, hc161, hd161, hk161⟩ := wt_main hW
      refine r_cVp (As := [.int v159]) (rest := []) S hK hZ hP hS hl.1 0 (by decide) hF161 (C := RX7) rfl (c_X7_may l D cA ad t hI F hW v159) (cwV 1 S.2.2.2.2 gL_law_X7_may rfl rfl rfl (by decide +kernel) ⟨Nat.le_of_ble_eq_true rfl, Nat.le_of_ble_eq_true rfl⟩) rfl rfl (Nat.le_of_ble_eq_true rfl) ⟨by decide +kernel, by decide +kernel⟩ dL_law_450 (fun r160 hr160 => ?_)
      obtain ⟨hr160, hm160⟩ := hr160
      refine lv_pop S.1 S.2.1 dL_law_453 rfl ?_
      refine lv_aload_n S.1 S.2.1 dL_law_454 rfl (lv_at hl 2 rfl) ?_
      refine lv_aload_n S.1 S.2.1 dL_law_455 rfl (lv_at hl 0 rfl) ?_
      refine lv_iload_n S.1 S.2.1 dL_law_456 rfl (lv_at hl 3 rfl) ?_
      refine lv_iconst (v := (nI 1)) S.1 S.2.1 dL_law_457 (by decide +kernel) ?_
      refine lv_iadd S.1 S.2.1 dL_law_458 ?_
      refine lv_topi (fun v162 e162 => ?_)
      obtain rfl : v162 = nI (i + 1) := e162.trans (nI_add _ _)
      refine va_sld S.1 S.2.1 hX hbl hbA hS (vp_in_nI (show i + 1 < L by omega) (by omega)) dL_law_459 ?_
      refine lv_topi (fun v163 e163 => ?_)
      obtain ⟨ty165, kn165, no165, en165, at165, sa165, sd165, wr165, pl165, va165, hF165, hb165_1, hb165_2, hb165_3, hb165_4, hb165_5, hb165_6⟩ := wt_m hW
      refine r_cVp (As := [.int v163]) (rest := []) S hK hZ hP hS hl.1 58 (by decide) hF165 (C := RX8) rfl (c_X8_may l D cA ad t hI F hW v163) (cwV 1 S.2.2.2.2 gL_law_X8_may rfl rfl rfl (by decide +kernel) ⟨Nat.le_of_ble_eq_true rfl, Nat.le_of_ble_eq_true rfl⟩) rfl rfl (Nat.le_of_ble_eq_true rfl) ⟨by decide +kernel, by decide +kernel⟩ dL_law_460 (fun r164 hr164 => ?_)
      obtain ⟨hr164, hm164⟩ := hr164
      refine lv_pop S.1 S.2.1 dL_law_463 rfl ?_
      refine lv_goto (tgt := 841) S.1 S.2.1 dL_law_464 (by decide) ?_
      refine lv_iinc (v := (nI (i + 3))) (lv' := [(3, .int (nI (i + 3))), (0, .ref b), (1, .ref (ad 0)), (2, .ref (ad 58))]) S.1 S.2.1 dL_law_841 hl (k := 3) rfl (nI_add _ 3) (by decide) rfl (fun ls166 hl166 => ?_)
      refine lv_goto (tgt := 18) S.1 S.2.1 dL_law_844 (by decide) ?_
      exact ih (i + 3) F H locs (by omega) (by omega) hW hP hS hR ls166 (lv_sub hl166 [1, 2, 3, 0] rfl)
    by_cases hs7_13 : v6.toInt = 13
    · refine lv_tableIn (off := 435) (tgt := 467) S.1 S.2.1 dL_law_32 (by omega) (by omega) (by rw [hs7_13]; rfl) (by decide) ?_
      refine lv_aload_n S.1 S.2.1 dL_law_467 rfl (lv_at hl 1 rfl) ?_
      refine lv_aload_n S.1 S.2.1 dL_law_468 rfl (lv_at hl 0 rfl) ?_
      refine lv_iload_n S.1 S.2.1 dL_law_469 rfl (lv_at hl 3 rfl) ?_
      refine lv_iconst (v := (nI 1)) S.1 S.2.1 dL_law_470 (by decide +kernel) ?_
      refine lv_iadd S.1 S.2.1 dL_law_471 ?_
      refine lv_topi (fun v167 e167 => ?_)
      obtain rfl : v167 = nI (i + 1) := e167.trans (nI_add _ _)
      refine va_sld S.1 S.2.1 hX hbl hbA hS (vp_in_nI (show i + 1 < L by omega) (by omega)) dL_law_472 ?_
      refine lv_topi (fun v168 e168 => ?_)
      obtain ⟨c170, d170, k170, dr170, hF170, hc170, hd170, hk170⟩ := wt_main hW
      refine r_cVi (As := [.int v168]) (rest := []) S hK hZ hP hS hl.1 0 (by decide) hF170 (C := RX7) rfl (c_X7_reach l D cA ad t hI F hW v168) (cwV 1 S.2.2.2.2 gL_law_X7_reach rfl rfl rfl (by decide +kernel) ⟨Nat.le_of_ble_eq_true rfl, Nat.le_of_ble_eq_true rfl⟩) rfl rfl (Nat.le_of_ble_eq_true rfl) ⟨by decide +kernel, by decide +kernel⟩ dL_law_473 (fun r169 F169 H169 locs169 hr169 hP169 hS169 => ?_)
      obtain ⟨hW169, hFc169, hr169⟩ := hr169
      obtain ⟨hr169, hm169⟩ := hr169
      have hE169 : RR (AB ad F) (AB ad F169) := RR.refF hR hFc169 (by decide)
      have hR169 : RR (AB ad F169) (AB ad F169) := RR.bothF hR hFc169 (by decide) (by decide)
      refine lv_pop S.1 S.2.1 dL_law_476 rfl ?_
      refine lv_aload_n S.1 S.2.1 dL_law_477 rfl (lv_at hl 2 rfl) ?_
      refine lv_aload_n S.1 S.2.1 dL_law_478 rfl (lv_at hl 0 rfl) ?_
      refine lv_iload_n S.1 S.2.1 dL_law_479 rfl (lv_at hl 3 rfl) ?_
      refine lv_iconst (v := (nI 1)) S.1 S.2.1 dL_law_480 (by decide +kernel) ?_
      refine lv_iadd S.1 S.2.1 dL_law_481 ?_
      refine lv_topi (fun v171 e171 => ?_)
      obtain rfl : v171 = nI (i + 1) := e171.trans (nI_add _ _)
      refine va_sld S.1 S.2.1 hX hbl hbA hS169 (vp_in_nI (show i + 1 < L by omega) (by omega)) dL_law_482 ?_
      refine lv_topi (fun v172 e172 => ?_)
      obtain ⟨ty174, kn174, no174, en174, at174, sa174, sd174, wr174, pl174, va174, hF174, hb174_1, hb174_2, hb174_3, hb174_4, hb174_5, hb174_6⟩ := wt_m hW169
      refine r_cVp (As := [.int v172]) (rest := []) S hK hZ hP169 hS169 hl.1 58 (by decide) hF174 (C := RX8) rfl (c_X8_reach l D cA ad t hI F169 hW169 v172) (cwV 1 S.2.2.2.2 gL_law_X8_reach rfl rfl rfl (by decide +kernel) ⟨Nat.le_of_ble_eq_true rfl, Nat.le_of_ble_eq_true rfl⟩) rfl rfl (Nat.le_of_ble_eq_true rfl) ⟨by decide +kernel, by decide +kernel⟩ dL_law_483 (fun r173 hr173 => ?_)
      obtain ⟨hr173, hm173⟩ := hr173
      refine lv_pop S.1 S.2.1 dL_law_486 rfl ?_
      refine lv_goto (tgt := 841) S.1 S.2.1 dL_law_487 (by decide) ?_
      refine lv_iinc (v := (nI (i + 3))) (lv' := [(3, .int (nI (i + 3))), (0, .ref b), (1, .ref (ad 0)), (2, .ref (ad 58))]) S.1 S.2.1 dL_law_841 hl (k := 3) rfl (nI_add _ 3) (by decide) rfl (fun ls175 hl175 => ?_)
      refine lv_goto (tgt := 18) S.1 S.2.1 dL_law_844 (by decide) ?_
      exact ih (i + 3) F169 H169 locs169 (by omega) (by omega) hW169 hP169 hS169 hR169 ls175 (lv_sub hl175 [1, 2, 3, 0] rfl)
    by_cases hs7_14 : v6.toInt = 14
    · refine lv_tableIn (off := 458) (tgt := 490) S.1 S.2.1 dL_law_32 (by omega) (by omega) (by rw [hs7_14]; rfl) (by decide) ?_
      refine lv_aload_n S.1 S.2.1 dL_law_490 rfl (lv_at hl 1 rfl) ?_
      refine lv_aload_n S.1 S.2.1 dL_law_491 rfl (lv_at hl 0 rfl) ?_
      refine lv_iload_n S.1 S.2.1 dL_law_492 rfl (lv_at hl 3 rfl) ?_
      refine lv_iconst (v := (nI 1)) S.1 S.2.1 dL_law_493 (by decide +kernel) ?_
      refine lv_iadd S.1 S.2.1 dL_law_494 ?_
      refine lv_topi (fun v176 e176 => ?_)
      obtain rfl : v176 = nI (i + 1) := e176.trans (nI_add _ _)
      refine va_sld S.1 S.2.1 hX hbl hbA hS (vp_in_nI (show i + 1 < L by omega) (by omega)) dL_law_495 ?_
      refine lv_topi (fun v177 e177 => ?_)
      refine lv_aload_n S.1 S.2.1 dL_law_496 rfl (lv_at hl 0 rfl) ?_
      refine lv_iload_n S.1 S.2.1 dL_law_497 rfl (lv_at hl 3 rfl) ?_
      refine lv_iconst (v := (nI 2)) S.1 S.2.1 dL_law_498 (by decide +kernel) ?_
      refine lv_iadd S.1 S.2.1 dL_law_499 ?_
      refine lv_topi (fun v178 e178 => ?_)
      obtain rfl : v178 = nI (i + 2) := e178.trans (nI_add _ _)
      refine va_sld S.1 S.2.1 hX hbl hbA hS (vp_in_nI (show i + 2 < L by omega) (by omega)) dL_law_500 ?_
      refine lv_topi (fun v179 e179 => ?_)
      obtain ⟨c181, d181, k181, dr181, hF181, hc181, hd181, hk181⟩ := wt_main hW
      refine r_cVi (As := [.int v177, .int v179]) (rest := []) S hK hZ hP hS hl.1 0 (by decide) hF181 (C := RX7) rfl (c_X7_best l D cA ad t hI F hW v177 v179) (cwV 2 S.2.2.2.2 gL_law_X7_best rfl rfl rfl (by decide +kernel) ⟨Nat.le_of_ble_eq_true rfl, Nat.le_of_ble_eq_true rfl⟩) rfl rfl (Nat.le_of_ble_eq_true rfl) ⟨by decide +kernel, by decide +kernel⟩ dL_law_501 (fun r180 F180 H180 locs180 hr180 hP180 hS180 => ?_)
      obtain ⟨hW180, hFc180, hr180⟩ := hr180
      have hR180 : RR (AB ad F180) (AB ad F180) := RR.bothF hR hFc180 (by decide) (by decide)
      refine lv_pop S.1 S.2.1 dL_law_504 rfl ?_
      refine lv_aload_n S.1 S.2.1 dL_law_505 rfl (lv_at hl 2 rfl) ?_
      refine lv_aload_n S.1 S.2.1 dL_law_506 rfl (lv_at hl 0 rfl) ?_
      refine lv_iload_n S.1 S.2.1 dL_law_507 rfl (lv_at hl 3 rfl) ?_
      refine lv_iconst (v := (nI 1)) S.1 S.2.1 dL_law_508 (by decide +kernel) ?_
      refine lv_iadd S.1 S.2.1 dL_law_509 ?_
      refine lv_topi (fun v182 e182 => ?_)
      obtain rfl : v182 = nI (i + 1) := e182.trans (nI_add _ _)
      refine va_sld S.1 S.2.1 hX hbl hbA hS180 (vp_in_nI (show i + 1 < L by omega) (by omega)) dL_law_510 ?_
      refine lv_topi (fun v183 e183 => ?_)
      refine lv_aload_n S.1 S.2.1 dL_law_511 rfl (lv_at hl 0 rfl) ?_
      refine lv_iload_n S.1 S.2.1 dL_law_512 rfl (lv_at hl 3 rfl) ?_
      refine lv_iconst (v := (nI 2)) S.1 S.2.1 dL_law_513 (by decide +kernel) ?_
      refine lv_iadd S.1 S.2.1 dL_law_514 ?_
      refine lv_topi (fun v184 e184 => ?_)
      obtain rfl : v184 = nI (i + 2) := e184.trans (nI_add _ _)
      refine va_sld S.1 S.2.1 hX hbl hbA hS180 (vp_in_nI (show i + 2 < L by omega) (by omega)) dL_law_515 ?_
      refine lv_topi (fun v185 e185 => ?_)
      obtain ⟨ty187, kn187, no187, en187, at187, sa187, sd187, wr187, pl187, va187, hF187, hb187_1, hb187_2, hb187_3, hb187_4, hb187_5, hb187_6⟩ := wt_m hW180
      refine r_cVi (As := [.int v183, .int v185]) (rest := []) S hK hZ hP180 hS180 hl.1 58 (by decide) hF187 (C := RX8) rfl (c_X8_best l D cA ad t hI F180 hW180 v183 v185) (cwV 2 S.2.2.2.2 gL_law_X8_best rfl rfl rfl (by decide +kernel) ⟨Nat.le_of_ble_eq_true rfl, Nat.le_of_ble_eq_true rfl⟩) rfl rfl (Nat.le_of_ble_eq_true rfl) ⟨by decide +kernel, by decide +kernel⟩ dL_law_516 (fun r186 F186 H186 locs186 hr186 hP186 hS186 => ?_)
      obtain ⟨hW186, hFc186, hr186⟩ := hr186
      have hR186 : RR (AB ad F186) (AB ad F186) := RR.bothF hR180 hFc186 (by decide) (by decide)
      refine lv_pop S.1 S.2.1 dL_law_519 rfl ?_
      refine lv_goto (tgt := 841) S.1 S.2.1 dL_law_520 (by decide) ?_
      refine lv_iinc (v := (nI (i + 3))) (lv' := [(3, .int (nI (i + 3))), (0, .ref b), (1, .ref (ad 0)), (2, .ref (ad 58))]) S.1 S.2.1 dL_law_841 hl (k := 3) rfl (nI_add _ 3) (by decide) rfl (fun ls188 hl188 => ?_)
      refine lv_goto (tgt := 18) S.1 S.2.1 dL_law_844 (by decide) ?_
      exact ih (i + 3) F186 H186 locs186 (by omega) (by omega) hW186 hP186 hS186 hR186 ls188 (lv_sub hl188 [1, 2, 3, 0] rfl)
    by_cases hs7_15 : v6.toInt = 15
    · refine lv_tableIn (off := 491) (tgt := 523) S.1 S.2.1 dL_law_32 (by omega) (by omega) (by rw [hs7_15]; rfl) (by decide) ?_
      refine lv_aload_n S.1 S.2.1 dL_law_523 rfl (lv_at hl 1 rfl) ?_
      refine lv_aload_n S.1 S.2.1 dL_law_524 rfl (lv_at hl 0 rfl) ?_
      refine lv_iload_n S.1 S.2.1 dL_law_525 rfl (lv_at hl 3 rfl) ?_
      refine lv_iconst (v := (nI 1)) S.1 S.2.1 dL_law_526 (by decide +kernel) ?_
      refine lv_iadd S.1 S.2.1 dL_law_527 ?_
      refine lv_topi (fun v189 e189 => ?_)
      obtain rfl : v189 = nI (i + 1) := e189.trans (nI_add _ _)
      refine va_sld S.1 S.2.1 hX hbl hbA hS (vp_in_nI (show i + 1 < L by omega) (by omega)) dL_law_528 ?_
      refine lv_topi (fun v190 e190 => ?_)
      obtain ⟨c192, d192, k192, dr192, hF192, hc192, hd192, hk192⟩ := wt_main hW
      refine r_cVi (As := [.int v190]) (rest := []) S hK hZ hP hS hl.1 0 (by decide) hF192 (C := RX7) rfl (c_X7_seals l D cA ad t hI F hW v190) (cwV 1 S.2.2.2.2 gL_law_X7_seals rfl rfl rfl (by decide +kernel) ⟨Nat.le_of_ble_eq_true rfl, Nat.le_of_ble_eq_true rfl⟩) rfl rfl (Nat.le_of_ble_eq_true rfl) ⟨by decide +kernel, by decide +kernel⟩ dL_law_529 (fun r191 F191 H191 locs191 hr191 hP191 hS191 => ?_)
      obtain ⟨hW191, hFc191, hr191⟩ := hr191
      have hR191 : RR (AB ad F191) (AB ad F191) := RR.bothF hR hFc191 (by decide) (by decide)
      refine lv_pop S.1 S.2.1 dL_law_532 rfl ?_
      refine lv_aload_n S.1 S.2.1 dL_law_533 rfl (lv_at hl 2 rfl) ?_
      refine lv_aload_n S.1 S.2.1 dL_law_534 rfl (lv_at hl 0 rfl) ?_
      refine lv_iload_n S.1 S.2.1 dL_law_535 rfl (lv_at hl 3 rfl) ?_
      refine lv_iconst (v := (nI 1)) S.1 S.2.1 dL_law_536 (by decide +kernel) ?_
      refine lv_iadd S.1 S.2.1 dL_law_537 ?_
      refine lv_topi (fun v193 e193 => ?_)
      obtain rfl : v193 = nI (i + 1) := e193.trans (nI_add _ _)
      refine va_sld S.1 S.2.1 hX hbl hbA hS191 (vp_in_nI (show i + 1 < L by omega) (by omega)) dL_law_538 ?_
      refine lv_topi (fun v194 e194 => ?_)
      obtain ⟨ty196, kn196, no196, en196, at196, sa196, sd196, wr196, pl196, va196, hF196, hb196_1, hb196_2, hb196_3, hb196_4, hb196_5, hb196_6⟩ := wt_m hW191
      refine r_cVi (As := [.int v194]) (rest := []) S hK hZ hP191 hS191 hl.1 58 (by decide) hF196 (C := RX8) rfl (c_X8_seals l D cA ad t hI F191 hW191 v194) (cwV 1 S.2.2.2.2 gL_law_X8_seals rfl rfl rfl (by decide +kernel) ⟨Nat.le_of_ble_eq_true rfl, Nat.le_of_ble_eq_true rfl⟩) rfl rfl (Nat.le_of_ble_eq_true rfl) ⟨by decide +kernel, by decide +kernel⟩ dL_law_539 (fun r195 F195 H195 locs195 hr195 hP195 hS195 => ?_)
      obtain ⟨hW195, hFc195, hr195⟩ := hr195
      have hR195 : RR (AB ad F195) (AB ad F195) := RR.bothF hR191 hFc195 (by decide) (by decide)
      refine lv_pop S.1 S.2.1 dL_law_542 rfl ?_
      refine lv_goto (tgt := 841) S.1 S.2.1 dL_law_543 (by decide) ?_
      refine lv_iinc (v := (nI (i + 3))) (lv' := [(3, .int (nI (i + 3))), (0, .ref b), (1, .ref (ad 0)), (2, .ref (ad 58))]) S.1 S.2.1 dL_law_841 hl (k := 3) rfl (nI_add _ 3) (by decide) rfl (fun ls197 hl197 => ?_)
      refine lv_goto (tgt := 18) S.1 S.2.1 dL_law_844 (by decide) ?_
      exact ih (i + 3) F195 H195 locs195 (by omega) (by omega) hW195 hP195 hS195 hR195 ls197 (lv_sub hl197 [1, 2, 3, 0] rfl)
    by_cases hs7_16 : v6.toInt = 16
    · refine lv_tableIn (off := 514) (tgt := 546) S.1 S.2.1 dL_law_32 (by omega) (by omega) (by rw [hs7_16]; rfl) (by decide) ?_
      refine lv_aload_n S.1 S.2.1 dL_law_546 rfl (lv_at hl 1 rfl) ?_
      refine lv_aload_n S.1 S.2.1 dL_law_547 rfl (lv_at hl 0 rfl) ?_
      refine lv_iload_n S.1 S.2.1 dL_law_548 rfl (lv_at hl 3 rfl) ?_
      refine lv_iconst (v := (nI 1)) S.1 S.2.1 dL_law_549 (by decide +kernel) ?_
      refine lv_iadd S.1 S.2.1 dL_law_550 ?_
      refine lv_topi (fun v198 e198 => ?_)
      obtain rfl : v198 = nI (i + 1) := e198.trans (nI_add _ _)
      refine va_sld S.1 S.2.1 hX hbl hbA hS (vp_in_nI (show i + 1 < L by omega) (by omega)) dL_law_551 ?_
      refine lv_topi (fun v199 e199 => ?_)
      obtain ⟨c201, d201, k201, dr201, hF201, hc201, hd201, hk201⟩ := wt_main hW
      refine r_cVi (As := [.int v199]) (rest := []) S hK hZ hP hS hl.1 0 (by decide) hF201 (C := RX7) rfl (c_X7_two l D cA ad t hI F hW v199) (cwV 1 S.2.2.2.2 gL_law_X7_two rfl rfl rfl (by decide +kernel) ⟨Nat.le_of_ble_eq_true rfl, Nat.le_of_ble_eq_true rfl⟩) rfl rfl (Nat.le_of_ble_eq_true rfl) ⟨by decide +kernel, by decide +kernel⟩ dL_law_552 (fun r200 F200 H200 locs200 hr200 hP200 hS200 => ?_)
      obtain ⟨hW200, hFc200, hr200⟩ := hr200
      obtain ⟨hr200, hm200⟩ := hr200
      have hE200 : RR (AB ad F) (AB ad F200) := RR.refF hR hFc200 (by decide)
      have hR200 : RR (AB ad F200) (AB ad F200) := RR.bothF hR hFc200 (by decide) (by decide)
      refine lv_pop S.1 S.2.1 dL_law_555 rfl ?_
      refine lv_aload_n S.1 S.2.1 dL_law_556 rfl (lv_at hl 2 rfl) ?_
      refine lv_aload_n S.1 S.2.1 dL_law_557 rfl (lv_at hl 0 rfl) ?_
      refine lv_iload_n S.1 S.2.1 dL_law_558 rfl (lv_at hl 3 rfl) ?_
      refine lv_iconst (v := (nI 1)) S.1 S.2.1 dL_law_559 (by decide +kernel) ?_
      refine lv_iadd S.1 S.2.1 dL_law_560 ?_
      refine lv_topi (fun v202 e202 => ?_)
      obtain rfl : v202 = nI (i + 1) := e202.trans (nI_add _ _)
      refine va_sld S.1 S.2.1 hX hbl hbA hS200 (vp_in_nI (show i + 1 < L by omega) (by omega)) dL_law_561 ?_
      refine lv_topi (fun v203 e203 => ?_)
      obtain ⟨ty205, kn205, no205, en205, at205, sa205, sd205, wr205, pl205, va205, hF205, hb205_1, hb205_2, hb205_3, hb205_4, hb205_5, hb205_6⟩ := wt_m hW200
      refine r_cVp (As := [.int v203]) (rest := []) S hK hZ hP200 hS200 hl.1 58 (by decide) hF205 (C := RX8) rfl (c_X8_two l D cA ad t hI F200 hW200 v203) (cwV 1 S.2.2.2.2 gL_law_X8_two rfl rfl rfl (by decide +kernel) ⟨Nat.le_of_ble_eq_true rfl, Nat.le_of_ble_eq_true rfl⟩) rfl rfl (Nat.le_of_ble_eq_true rfl) ⟨by decide +kernel, by decide +kernel⟩ dL_law_562 (fun r204 hr204 => ?_)
      obtain ⟨hr204, hm204⟩ := hr204
      refine lv_pop S.1 S.2.1 dL_law_565 rfl ?_
      refine lv_goto (tgt := 841) S.1 S.2.1 dL_law_566 (by decide) ?_
      refine lv_iinc (v := (nI (i + 3))) (lv' := [(3, .int (nI (i + 3))), (0, .ref b), (1, .ref (ad 0)), (2, .ref (ad 58))]) S.1 S.2.1 dL_law_841 hl (k := 3) rfl (nI_add _ 3) (by decide) rfl (fun ls206 hl206 => ?_)
      refine lv_goto (tgt := 18) S.1 S.2.1 dL_law_844 (by decide) ?_
      exact ih (i + 3) F200 H200 locs200 (by omega) (by omega) hW200 hP200 hS200 hR200 ls206 (lv_sub hl206 [1, 2, 3, 0] rfl)
    by_cases hs7_17 : v6.toInt = 17
    · refine lv_tableIn (off := 537) (tgt := 569) S.1 S.2.1 dL_law_32 (by omega) (by omega) (by rw [hs7_17]; rfl) (by decide) ?_
      refine lv_aload_n S.1 S.2.1 dL_law_569 rfl (lv_at hl 1 rfl) ?_
      obtain ⟨c208, d208, k208, dr208, hF208, hc208, hd208, hk208⟩ := wt_main hW
      refine r_cVp (As := []) (rest := []) S hK hZ hP hS hl.1 0 (by decide) hF208 (C := RX7) rfl (c_X7_idle l D cA ad t hI F hW ) (cwV 0 S.2.2.2.2 gL_law_X7_idle rfl rfl rfl (by decide +kernel) ⟨Nat.le_of_ble_eq_true rfl, Nat.le_of_ble_eq_true rfl⟩) rfl rfl (Nat.le_of_ble_eq_true rfl) ⟨by decide +kernel, by decide +kernel⟩ dL_law_570 (fun r207 hr207 => ?_)
      obtain ⟨hr207, hm207⟩ := hr207
      refine lv_pop S.1 S.2.1 dL_law_573 rfl ?_
      refine lv_aload_n S.1 S.2.1 dL_law_574 rfl (lv_at hl 2 rfl) ?_
      obtain ⟨ty210, kn210, no210, en210, at210, sa210, sd210, wr210, pl210, va210, hF210, hb210_1, hb210_2, hb210_3, hb210_4, hb210_5, hb210_6⟩ := wt_m hW
      refine r_cVp (As := []) (rest := []) S hK hZ hP hS hl.1 58 (by decide) hF210 (C := RX8) rfl (c_X8_idle l D cA ad t hI F hW ) (cwV 0 S.2.2.2.2 gL_law_X8_idle rfl rfl rfl (by decide +kernel) ⟨Nat.le_of_ble_eq_true rfl, Nat.le_of_ble_eq_true rfl⟩) rfl rfl (Nat.le_of_ble_eq_true rfl) ⟨by decide +kernel, by decide +kernel⟩ dL_law_575 (fun r209 hr209 => ?_)
      obtain ⟨hr209, hm209⟩ := hr209
      refine lv_pop S.1 S.2.1 dL_law_578 rfl ?_
      refine lv_goto (tgt := 841) S.1 S.2.1 dL_law_579 (by decide) ?_
      refine lv_iinc (v := (nI (i + 3))) (lv' := [(3, .int (nI (i + 3))), (0, .ref b), (1, .ref (ad 0)), (2, .ref (ad 58))]) S.1 S.2.1 dL_law_841 hl (k := 3) rfl (nI_add _ 3) (by decide) rfl (fun ls211 hl211 => ?_)
      refine lv_goto (tgt := 18) S.1 S.2.1 dL_law_844 (by decide) ?_
      exact ih (i + 3) F H locs (by omega) (by omega) hW hP hS hR ls211 (lv_sub hl211 [1, 2, 3, 0] rfl)
    by_cases hs7_18 : v6.toInt = 18
    · refine lv_tableIn (off := 550) (tgt := 582) S.1 S.2.1 dL_law_32 (by omega) (by omega) (by rw [hs7_18]; rfl) (by decide) ?_
      refine lv_aload_n S.1 S.2.1 dL_law_582 rfl (lv_at hl 1 rfl) ?_
      obtain ⟨c213, d213, k213, dr213, hF213, hc213, hd213, hk213⟩ := wt_main hW
      refine r_cVi (As := []) (rest := []) S hK hZ hP hS hl.1 0 (by decide) hF213 (C := RX7) rfl (c_X7_stranded l D cA ad t hI F hW ) (cwV 0 S.2.2.2.2 gL_law_X7_stranded rfl rfl rfl (by decide +kernel) ⟨Nat.le_of_ble_eq_true rfl, Nat.le_of_ble_eq_true rfl⟩) rfl rfl (Nat.le_of_ble_eq_true rfl) ⟨by decide +kernel, by decide +kernel⟩ dL_law_583 (fun r212 F212 H212 locs212 hr212 hP212 hS212 => ?_)
      obtain ⟨hW212, hFc212, hr212⟩ := hr212
      obtain ⟨hr212, hm212⟩ := hr212
      have hE212 : RR (AB ad F) (AB ad F212) := RR.refF hR hFc212 (by decide)
      have hR212 : RR (AB ad F212) (AB ad F212) := RR.bothF hR hFc212 (by decide) (by decide)
      refine lv_pop S.1 S.2.1 dL_law_586 rfl ?_
      refine lv_aload_n S.1 S.2.1 dL_law_587 rfl (lv_at hl 2 rfl) ?_
      obtain ⟨ty215, kn215, no215, en215, at215, sa215, sd215, wr215, pl215, va215, hF215, hb215_1, hb215_2, hb215_3, hb215_4, hb215_5, hb215_6⟩ := wt_m hW212
      refine r_cVp (As := []) (rest := []) S hK hZ hP212 hS212 hl.1 58 (by decide) hF215 (C := RX8) rfl (c_X8_stranded l D cA ad t hI F212 hW212 ) (cwV 0 S.2.2.2.2 gL_law_X8_stranded rfl rfl rfl (by decide +kernel) ⟨Nat.le_of_ble_eq_true rfl, Nat.le_of_ble_eq_true rfl⟩) rfl rfl (Nat.le_of_ble_eq_true rfl) ⟨by decide +kernel, by decide +kernel⟩ dL_law_588 (fun r214 hr214 => ?_)
      obtain ⟨hr214, hm214⟩ := hr214
      refine lv_pop S.1 S.2.1 dL_law_591 rfl ?_
      refine lv_goto (tgt := 841) S.1 S.2.1 dL_law_592 (by decide) ?_
      refine lv_iinc (v := (nI (i + 3))) (lv' := [(3, .int (nI (i + 3))), (0, .ref b), (1, .ref (ad 0)), (2, .ref (ad 58))]) S.1 S.2.1 dL_law_841 hl (k := 3) rfl (nI_add _ 3) (by decide) rfl (fun ls216 hl216 => ?_)
      refine lv_goto (tgt := 18) S.1 S.2.1 dL_law_844 (by decide) ?_
      exact ih (i + 3) F212 H212 locs212 (by omega) (by omega) hW212 hP212 hS212 hR212 ls216 (lv_sub hl216 [1, 2, 3, 0] rfl)
    by_cases hs7_19 : v6.toInt = 19
    · refine lv_tableIn (off := 563) (tgt := 595) S.1 S.2.1 dL_law_32 (by omega) (by omega) (by rw [hs7_19]; rfl) (by decide) ?_
      refine lv_aload_n S.1 S.2.1 dL_law_595 rfl (lv_at hl 1 rfl) ?_
      refine lv_aload_n S.1 S.2.1 dL_law_596 rfl (lv_at hl 0 rfl) ?_
      refine lv_iload_n S.1 S.2.1 dL_law_597 rfl (lv_at hl 3 rfl) ?_
      refine lv_iconst (v := (nI 1)) S.1 S.2.1 dL_law_598 (by decide +kernel) ?_
      refine lv_iadd S.1 S.2.1 dL_law_599 ?_
      refine lv_topi (fun v217 e217 => ?_)
      obtain rfl : v217 = nI (i + 1) := e217.trans (nI_add _ _)
      refine va_sld S.1 S.2.1 hX hbl hbA hS (vp_in_nI (show i + 1 < L by omega) (by omega)) dL_law_600 ?_
      refine lv_topi (fun v218 e218 => ?_)
      refine lv_aload_n S.1 S.2.1 dL_law_601 rfl (lv_at hl 0 rfl) ?_
      refine lv_iload_n S.1 S.2.1 dL_law_602 rfl (lv_at hl 3 rfl) ?_
      refine lv_iconst (v := (nI 2)) S.1 S.2.1 dL_law_603 (by decide +kernel) ?_
      refine lv_iadd S.1 S.2.1 dL_law_604 ?_
      refine lv_topi (fun v219 e219 => ?_)
      obtain rfl : v219 = nI (i + 2) := e219.trans (nI_add _ _)
      refine va_sld S.1 S.2.1 hX hbl hbA hS (vp_in_nI (show i + 2 < L by omega) (by omega)) dL_law_605 ?_
      refine lv_topi (fun v220 e220 => ?_)
      obtain ⟨c222, d222, k222, dr222, hF222, hc222, hd222, hk222⟩ := wt_main hW
      refine r_cVp (As := [.int v218, .int v220]) (rest := []) S hK hZ hP hS hl.1 0 (by decide) hF222 (C := RX7) rfl (c_X7_snow l D cA ad t hI F hW v218 v220) (cwV 2 S.2.2.2.2 gL_law_X7_snow rfl rfl rfl (by decide +kernel) ⟨Nat.le_of_ble_eq_true rfl, Nat.le_of_ble_eq_true rfl⟩) rfl rfl (Nat.le_of_ble_eq_true rfl) ⟨by decide +kernel, by decide +kernel⟩ dL_law_606 (fun r221 hr221 => ?_)
      refine lv_pop S.1 S.2.1 dL_law_609 rfl ?_
      refine lv_aload_n S.1 S.2.1 dL_law_610 rfl (lv_at hl 2 rfl) ?_
      refine lv_aload_n S.1 S.2.1 dL_law_611 rfl (lv_at hl 0 rfl) ?_
      refine lv_iload_n S.1 S.2.1 dL_law_612 rfl (lv_at hl 3 rfl) ?_
      refine lv_iconst (v := (nI 1)) S.1 S.2.1 dL_law_613 (by decide +kernel) ?_
      refine lv_iadd S.1 S.2.1 dL_law_614 ?_
      refine lv_topi (fun v223 e223 => ?_)
      obtain rfl : v223 = nI (i + 1) := e223.trans (nI_add _ _)
      refine va_sld S.1 S.2.1 hX hbl hbA hS (vp_in_nI (show i + 1 < L by omega) (by omega)) dL_law_615 ?_
      refine lv_topi (fun v224 e224 => ?_)
      refine lv_aload_n S.1 S.2.1 dL_law_616 rfl (lv_at hl 0 rfl) ?_
      refine lv_iload_n S.1 S.2.1 dL_law_617 rfl (lv_at hl 3 rfl) ?_
      refine lv_iconst (v := (nI 2)) S.1 S.2.1 dL_law_618 (by decide +kernel) ?_
      refine lv_iadd S.1 S.2.1 dL_law_619 ?_
      refine lv_topi (fun v225 e225 => ?_)
      obtain rfl : v225 = nI (i + 2) := e225.trans (nI_add _ _)
      refine va_sld S.1 S.2.1 hX hbl hbA hS (vp_in_nI (show i + 2 < L by omega) (by omega)) dL_law_620 ?_
      refine lv_topi (fun v226 e226 => ?_)
      obtain ⟨ty228, kn228, no228, en228, at228, sa228, sd228, wr228, pl228, va228, hF228, hb228_1, hb228_2, hb228_3, hb228_4, hb228_5, hb228_6⟩ := wt_m hW
      refine r_cVp (As := [.int v224, .int v226]) (rest := []) S hK hZ hP hS hl.1 58 (by decide) hF228 (C := RX8) rfl (c_X8_snow l D cA ad t hI F hW v224 v226) (cwV 2 S.2.2.2.2 gL_law_X8_snow rfl rfl rfl (by decide +kernel) ⟨Nat.le_of_ble_eq_true rfl, Nat.le_of_ble_eq_true rfl⟩) rfl rfl (Nat.le_of_ble_eq_true rfl) ⟨by decide +kernel, by decide +kernel⟩ dL_law_621 (fun r227 hr227 => ?_)
      refine lv_pop S.1 S.2.1 dL_law_624 rfl ?_
      refine lv_goto (tgt := 841) S.1 S.2.1 dL_law_625 (by decide) ?_
      refine lv_iinc (v := (nI (i + 3))) (lv' := [(3, .int (nI (i + 3))), (0, .ref b), (1, .ref (ad 0)), (2, .ref (ad 58))]) S.1 S.2.1 dL_law_841 hl (k := 3) rfl (nI_add _ 3) (by decide) rfl (fun ls229 hl229 => ?_)
      refine lv_goto (tgt := 18) S.1 S.2.1 dL_law_844 (by decide) ?_
      exact ih (i + 3) F H locs (by omega) (by omega) hW hP hS hR ls229 (lv_sub hl229 [1, 2, 3, 0] rfl)
    by_cases hs7_20 : v6.toInt = 20
    · refine lv_tableIn (off := 596) (tgt := 628) S.1 S.2.1 dL_law_32 (by omega) (by omega) (by rw [hs7_20]; rfl) (by decide) ?_
      refine lv_aload_n S.1 S.2.1 dL_law_628 rfl (lv_at hl 1 rfl) ?_
      refine lv_aload_n S.1 S.2.1 dL_law_629 rfl (lv_at hl 0 rfl) ?_
      refine lv_iload_n S.1 S.2.1 dL_law_630 rfl (lv_at hl 3 rfl) ?_
      refine lv_iconst (v := (nI 1)) S.1 S.2.1 dL_law_631 (by decide +kernel) ?_
      refine lv_iadd S.1 S.2.1 dL_law_632 ?_
      refine lv_topi (fun v230 e230 => ?_)
      obtain rfl : v230 = nI (i + 1) := e230.trans (nI_add _ _)
      refine va_sld S.1 S.2.1 hX hbl hbA hS (vp_in_nI (show i + 1 < L by omega) (by omega)) dL_law_633 ?_
      refine lv_topi (fun v231 e231 => ?_)
      refine lv_aload_n S.1 S.2.1 dL_law_634 rfl (lv_at hl 0 rfl) ?_
      refine lv_iload_n S.1 S.2.1 dL_law_635 rfl (lv_at hl 3 rfl) ?_
      refine lv_iconst (v := (nI 2)) S.1 S.2.1 dL_law_636 (by decide +kernel) ?_
      refine lv_iadd S.1 S.2.1 dL_law_637 ?_
      refine lv_topi (fun v232 e232 => ?_)
      obtain rfl : v232 = nI (i + 2) := e232.trans (nI_add _ _)
      refine va_sld S.1 S.2.1 hX hbl hbA hS (vp_in_nI (show i + 2 < L by omega) (by omega)) dL_law_638 ?_
      refine lv_topi (fun v233 e233 => ?_)
      obtain ⟨c235, d235, k235, dr235, hF235, hc235, hd235, hk235⟩ := wt_main hW
      refine r_cVi (As := [.int v231, .int v233]) (rest := []) S hK hZ hP hS hl.1 0 (by decide) hF235 (C := RX7) rfl (c_X7_seal l D cA ad t hI F hW v231 v233) (cwV 2 S.2.2.2.2 gL_law_X7_seal rfl rfl rfl (by decide +kernel) ⟨Nat.le_of_ble_eq_true rfl, Nat.le_of_ble_eq_true rfl⟩) rfl rfl (Nat.le_of_ble_eq_true rfl) ⟨by decide +kernel, by decide +kernel⟩ dL_law_639 (fun r234 F234 H234 locs234 hr234 hP234 hS234 => ?_)
      obtain ⟨hW234, hFc234, hr234⟩ := hr234
      obtain ⟨hr234, hm234⟩ := hr234
      have hE234 : RR (AB ad F) (AB ad F234) := RR.refF hR hFc234 (by decide)
      refine lv_pop S.1 S.2.1 dL_law_642 rfl ?_
      refine lv_aload_n S.1 S.2.1 dL_law_643 rfl (lv_at hl 2 rfl) ?_
      refine lv_aload_n S.1 S.2.1 dL_law_644 rfl (lv_at hl 0 rfl) ?_
      refine lv_iload_n S.1 S.2.1 dL_law_645 rfl (lv_at hl 3 rfl) ?_
      refine lv_iconst (v := (nI 1)) S.1 S.2.1 dL_law_646 (by decide +kernel) ?_
      refine lv_iadd S.1 S.2.1 dL_law_647 ?_
      refine lv_topi (fun v236 e236 => ?_)
      obtain rfl : v236 = nI (i + 1) := e236.trans (nI_add _ _)
      refine va_sld S.1 S.2.1 hX hbl hbA hS234 (vp_in_nI (show i + 1 < L by omega) (by omega)) dL_law_648 ?_
      refine lv_topi (fun v237 e237 => ?_)
      refine lv_aload_n S.1 S.2.1 dL_law_649 rfl (lv_at hl 0 rfl) ?_
      refine lv_iload_n S.1 S.2.1 dL_law_650 rfl (lv_at hl 3 rfl) ?_
      refine lv_iconst (v := (nI 2)) S.1 S.2.1 dL_law_651 (by decide +kernel) ?_
      refine lv_iadd S.1 S.2.1 dL_law_652 ?_
      refine lv_topi (fun v238 e238 => ?_)
      obtain rfl : v238 = nI (i + 2) := e238.trans (nI_add _ _)
      refine va_sld S.1 S.2.1 hX hbl hbA hS234 (vp_in_nI (show i + 2 < L by omega) (by omega)) dL_law_653 ?_
      refine lv_topi (fun v239 e239 => ?_)
      obtain ⟨ty240, kn240, no240, en240, at240, sa240, sd240, wr240, pl240, va240, hF240, hb240_1, hb240_2, hb240_3, hb240_4, hb240_5, hb240_6⟩ := wt_m hW234
      have hA241 := fN_of (k := 14) (a := at240) hF240 rfl (by omega)
      have hL241 := fN_of (k := 1) (a := ty240) hF240 rfl (by omega)
      refine r_cVi (As := [.int v237, .int v239]) (rest := []) S hK hZ hP234 hS234 hl.1 58 (by decide) hF240 (C := RX8) rfl (c_X8_seal l D cA ad t hI F234 hW234 v237 v239) (cwV 2 S.2.2.2.2 gL_law_X8_seal rfl rfl rfl (by decide +kernel) ⟨Nat.le_of_ble_eq_true rfl, Nat.le_of_ble_eq_true rfl⟩) rfl rfl (Nat.le_of_ble_eq_true rfl) ⟨by decide +kernel, by decide +kernel⟩ dL_law_654 (fun r242 F242 H242 locs242 hr242 hP242 hS242 => ?_)
      obtain ⟨hW242, hFc242, hr242⟩ := hr242
      obtain ⟨hr242, hm242⟩ := hr242
      obtain ⟨ty244, kn244, no244, en244, at244, sa244, sd244, wr244, pl244, va244, hF244, hb244_1, hb244_2, hb244_3, hb244_4, hb244_5, hb244_6⟩ := wt_m hW242
      have hA245 := fN_of (k := 14) (a := at244) hF244 rfl (by omega)
      have hL245 := fN_of (k := 1) (a := ty244) hF244 rfl (by omega)
      have hq242 := hm242
      rw [show v237 = v231 from e237.trans e231.symm] at hq242
      rw [show v239 = v233 from e239.trans e233.symm] at hq242
      have hT242 : r234 = r242 ∧ RR (AB ad F234) (AB ad F242) := by have q := seal_E hE234 v231 v233; rw [hm234, hq242] at q; exact q
      have hR242 : RR (AB ad F242) (AB ad F242) := RR.clsF hT242.2 hFc242 (by decide)
      refine lv_pop S.1 S.2.1 dL_law_657 rfl ?_
      refine lv_goto (tgt := 841) S.1 S.2.1 dL_law_658 (by decide) ?_
      refine lv_iinc (v := (nI (i + 3))) (lv' := [(3, .int (nI (i + 3))), (0, .ref b), (1, .ref (ad 0)), (2, .ref (ad 58))]) S.1 S.2.1 dL_law_841 hl (k := 3) rfl (nI_add _ 3) (by decide) rfl (fun ls246 hl246 => ?_)
      refine lv_goto (tgt := 18) S.1 S.2.1 dL_law_844 (by decide) ?_
      exact ih (i + 3) F242 H242 locs242 (by omega) (by omega) hW242 hP242 hS242 hR242 ls246 (lv_sub hl246 [1, 2, 3, 0] rfl)
    by_cases hs7_21 : v6.toInt = 21
    · refine lv_tableIn (off := 629) (tgt := 661) S.1 S.2.1 dL_law_32 (by omega) (by omega) (by rw [hs7_21]; rfl) (by decide) ?_
      refine lv_aload_n S.1 S.2.1 dL_law_661 rfl (lv_at hl 1 rfl) ?_
      obtain ⟨c248, d248, k248, dr248, hF248, hc248, hd248, hk248⟩ := wt_main hW
      refine r_cVi (As := []) (rest := []) S hK hZ hP hS hl.1 0 (by decide) hF248 (C := RX7) rfl (c_X7_fits l D cA ad t hI F hW ) (cwV 0 S.2.2.2.2 gL_law_X7_fits rfl rfl rfl (by decide +kernel) ⟨Nat.le_of_ble_eq_true rfl, Nat.le_of_ble_eq_true rfl⟩) rfl rfl (Nat.le_of_ble_eq_true rfl) ⟨by decide +kernel, by decide +kernel⟩ dL_law_662 (fun r247 F247 H247 locs247 hr247 hP247 hS247 => ?_)
      obtain ⟨hW247, hFc247, hr247⟩ := hr247
      obtain ⟨hr247, hm247⟩ := hr247
      have hE247 : RR (AB ad F) (AB ad F247) := RR.refF hR hFc247 (by decide)
      have hR247 : RR (AB ad F247) (AB ad F247) := RR.bothF hR hFc247 (by decide) (by decide)
      refine lv_pop S.1 S.2.1 dL_law_665 rfl ?_
      refine lv_aload_n S.1 S.2.1 dL_law_666 rfl (lv_at hl 2 rfl) ?_
      obtain ⟨ty250, kn250, no250, en250, at250, sa250, sd250, wr250, pl250, va250, hF250, hb250_1, hb250_2, hb250_3, hb250_4, hb250_5, hb250_6⟩ := wt_m hW247
      refine r_cVi (As := []) (rest := []) S hK hZ hP247 hS247 hl.1 58 (by decide) hF250 (C := RX8) rfl (c_X8_fits l D cA ad t hI F247 hW247 ) (cwV 0 S.2.2.2.2 gL_law_X8_fits rfl rfl rfl (by decide +kernel) ⟨Nat.le_of_ble_eq_true rfl, Nat.le_of_ble_eq_true rfl⟩) rfl rfl (Nat.le_of_ble_eq_true rfl) ⟨by decide +kernel, by decide +kernel⟩ dL_law_667 (fun r249 F249 H249 locs249 hr249 hP249 hS249 => ?_)
      obtain ⟨hW249, hFc249, hr249⟩ := hr249
      have hR249 : RR (AB ad F249) (AB ad F249) := RR.bothF hR247 hFc249 (by decide) (by decide)
      refine lv_pop S.1 S.2.1 dL_law_670 rfl ?_
      refine lv_goto (tgt := 841) S.1 S.2.1 dL_law_671 (by decide) ?_
      refine lv_iinc (v := (nI (i + 3))) (lv' := [(3, .int (nI (i + 3))), (0, .ref b), (1, .ref (ad 0)), (2, .ref (ad 58))]) S.1 S.2.1 dL_law_841 hl (k := 3) rfl (nI_add _ 3) (by decide) rfl (fun ls251 hl251 => ?_)
      refine lv_goto (tgt := 18) S.1 S.2.1 dL_law_844 (by decide) ?_
      exact ih (i + 3) F249 H249 locs249 (by omega) (by omega) hW249 hP249 hS249 hR249 ls251 (lv_sub hl251 [1, 2, 3, 0] rfl)
    by_cases hs7_22 : v6.toInt = 22
    · refine lv_tableIn (off := 642) (tgt := 674) S.1 S.2.1 dL_law_32 (by omega) (by omega) (by rw [hs7_22]; rfl) (by decide) ?_
      refine lv_aload_n S.1 S.2.1 dL_law_674 rfl (lv_at hl 1 rfl) ?_
      obtain ⟨c253, d253, k253, dr253, hF253, hc253, hd253, hk253⟩ := wt_main hW
      refine r_cVi (As := []) (rest := []) S hK hZ hP hS hl.1 0 (by decide) hF253 (C := RX7) rfl (c_X7_bought l D cA ad t hI F hW ) (cwV 0 S.2.2.2.2 gL_law_X7_bought rfl rfl rfl (by decide +kernel) ⟨Nat.le_of_ble_eq_true rfl, Nat.le_of_ble_eq_true rfl⟩) rfl rfl (Nat.le_of_ble_eq_true rfl) ⟨by decide +kernel, by decide +kernel⟩ dL_law_675 (fun r252 F252 H252 locs252 hr252 hP252 hS252 => ?_)
      obtain ⟨hW252, hFc252, hr252⟩ := hr252
      obtain ⟨hr252, hm252⟩ := hr252
      have hE252 : RR (AB ad F) (AB ad F252) := RR.refF hR hFc252 (by decide)
      have hR252 : RR (AB ad F252) (AB ad F252) := RR.bothF hR hFc252 (by decide) (by decide)
      refine lv_pop S.1 S.2.1 dL_law_678 rfl ?_
      refine lv_aload_n S.1 S.2.1 dL_law_679 rfl (lv_at hl 2 rfl) ?_
      obtain ⟨ty255, kn255, no255, en255, at255, sa255, sd255, wr255, pl255, va255, hF255, hb255_1, hb255_2, hb255_3, hb255_4, hb255_5, hb255_6⟩ := wt_m hW252
      refine r_cVi (As := []) (rest := []) S hK hZ hP252 hS252 hl.1 58 (by decide) hF255 (C := RX8) rfl (c_X8_bought l D cA ad t hI F252 hW252 ) (cwV 0 S.2.2.2.2 gL_law_X8_bought rfl rfl rfl (by decide +kernel) ⟨Nat.le_of_ble_eq_true rfl, Nat.le_of_ble_eq_true rfl⟩) rfl rfl (Nat.le_of_ble_eq_true rfl) ⟨by decide +kernel, by decide +kernel⟩ dL_law_680 (fun r254 F254 H254 locs254 hr254 hP254 hS254 => ?_)
      obtain ⟨hW254, hFc254, hr254⟩ := hr254
      have hR254 : RR (AB ad F254) (AB ad F254) := RR.bothF hR252 hFc254 (by decide) (by decide)
      refine lv_pop S.1 S.2.1 dL_law_683 rfl ?_
      refine lv_goto (tgt := 841) S.1 S.2.1 dL_law_684 (by decide) ?_
      refine lv_iinc (v := (nI (i + 3))) (lv' := [(3, .int (nI (i + 3))), (0, .ref b), (1, .ref (ad 0)), (2, .ref (ad 58))]) S.1 S.2.1 dL_law_841 hl (k := 3) rfl (nI_add _ 3) (by decide) rfl (fun ls256 hl256 => ?_)
      refine lv_goto (tgt := 18) S.1 S.2.1 dL_law_844 (by decide) ?_
      exact ih (i + 3) F254 H254 locs254 (by omega) (by omega) hW254 hP254 hS254 hR254 ls256 (lv_sub hl256 [1, 2, 3, 0] rfl)
    by_cases hs7_23 : v6.toInt = 23
    · refine lv_tableIn (off := 655) (tgt := 687) S.1 S.2.1 dL_law_32 (by omega) (by omega) (by rw [hs7_23]; rfl) (by decide) ?_
      refine lv_aload_n S.1 S.2.1 dL_law_687 rfl (lv_at hl 1 rfl) ?_
      refine lv_aload_n S.1 S.2.1 dL_law_688 rfl (lv_at hl 0 rfl) ?_
      refine lv_iload_n S.1 S.2.1 dL_law_689 rfl (lv_at hl 3 rfl) ?_
      refine lv_iconst (v := (nI 1)) S.1 S.2.1 dL_law_690 (by decide +kernel) ?_
      refine lv_iadd S.1 S.2.1 dL_law_691 ?_
      refine lv_topi (fun v257 e257 => ?_)
      obtain rfl : v257 = nI (i + 1) := e257.trans (nI_add _ _)
      refine va_sld S.1 S.2.1 hX hbl hbA hS (vp_in_nI (show i + 1 < L by omega) (by omega)) dL_law_692 ?_
      refine lv_topi (fun v258 e258 => ?_)
      obtain ⟨c260, d260, k260, dr260, hF260, hc260, hd260, hk260⟩ := wt_main hW
      refine r_cVi (As := [.int v258]) (rest := []) S hK hZ hP hS hl.1 0 (by decide) hF260 (C := RX7) rfl (c_X7_was l D cA ad t hI F hW v258) (cwV 1 S.2.2.2.2 gL_law_X7_was rfl rfl rfl (by decide +kernel) ⟨Nat.le_of_ble_eq_true rfl, Nat.le_of_ble_eq_true rfl⟩) rfl rfl (Nat.le_of_ble_eq_true rfl) ⟨by decide +kernel, by decide +kernel⟩ dL_law_693 (fun r259 F259 H259 locs259 hr259 hP259 hS259 => ?_)
      obtain ⟨hW259, hFc259, hr259⟩ := hr259
      obtain ⟨hr259, hm259⟩ := hr259
      have hE259 : RR (AB ad F) (AB ad F259) := RR.refF hR hFc259 (by decide)
      have hR259 : RR (AB ad F259) (AB ad F259) := RR.bothF hR hFc259 (by decide) (by decide)
      refine lv_pop S.1 S.2.1 dL_law_696 rfl ?_
      refine lv_aload_n S.1 S.2.1 dL_law_697 rfl (lv_at hl 2 rfl) ?_
      refine lv_aload_n S.1 S.2.1 dL_law_698 rfl (lv_at hl 0 rfl) ?_
      refine lv_iload_n S.1 S.2.1 dL_law_699 rfl (lv_at hl 3 rfl) ?_
      refine lv_iconst (v := (nI 1)) S.1 S.2.1 dL_law_700 (by decide +kernel) ?_
      refine lv_iadd S.1 S.2.1 dL_law_701 ?_
      refine lv_topi (fun v261 e261 => ?_)
      obtain rfl : v261 = nI (i + 1) := e261.trans (nI_add _ _)
      refine va_sld S.1 S.2.1 hX hbl hbA hS259 (vp_in_nI (show i + 1 < L by omega) (by omega)) dL_law_702 ?_
      refine lv_topi (fun v262 e262 => ?_)
      obtain ⟨ty264, kn264, no264, en264, at264, sa264, sd264, wr264, pl264, va264, hF264, hb264_1, hb264_2, hb264_3, hb264_4, hb264_5, hb264_6⟩ := wt_m hW259
      refine r_cVi (As := [.int v262]) (rest := []) S hK hZ hP259 hS259 hl.1 58 (by decide) hF264 (C := RX8) rfl (c_X8_was l D cA ad t hI F259 hW259 v262) (cwV 1 S.2.2.2.2 gL_law_X8_was rfl rfl rfl (by decide +kernel) ⟨Nat.le_of_ble_eq_true rfl, Nat.le_of_ble_eq_true rfl⟩) rfl rfl (Nat.le_of_ble_eq_true rfl) ⟨by decide +kernel, by decide +kernel⟩ dL_law_703 (fun r263 F263 H263 locs263 hr263 hP263 hS263 => ?_)
      obtain ⟨hW263, hFc263, hr263⟩ := hr263
      have hR263 : RR (AB ad F263) (AB ad F263) := RR.bothF hR259 hFc263 (by decide) (by decide)
      refine lv_pop S.1 S.2.1 dL_law_706 rfl ?_
      refine lv_goto (tgt := 841) S.1 S.2.1 dL_law_707 (by decide) ?_
      refine lv_iinc (v := (nI (i + 3))) (lv' := [(3, .int (nI (i + 3))), (0, .ref b), (1, .ref (ad 0)), (2, .ref (ad 58))]) S.1 S.2.1 dL_law_841 hl (k := 3) rfl (nI_add _ 3) (by decide) rfl (fun ls265 hl265 => ?_)
      refine lv_goto (tgt := 18) S.1 S.2.1 dL_law_844 (by decide) ?_
      exact ih (i + 3) F263 H263 locs263 (by omega) (by omega) hW263 hP263 hS263 hR263 ls265 (lv_sub hl265 [1, 2, 3, 0] rfl)
    by_cases hs7_24 : v6.toInt = 24
    · refine lv_tableIn (off := 678) (tgt := 710) S.1 S.2.1 dL_law_32 (by omega) (by omega) (by rw [hs7_24]; rfl) (by decide) ?_
      refine lv_aload_n S.1 S.2.1 dL_law_710 rfl (lv_at hl 1 rfl) ?_
      obtain ⟨c267, d267, k267, dr267, hF267, hc267, hd267, hk267⟩ := wt_main hW
      refine r_cVi (As := []) (rest := []) S hK hZ hP hS hl.1 0 (by decide) hF267 (C := RX7) rfl (c_X7_ask l D cA ad t hI F hW ) (cwV 0 S.2.2.2.2 gL_law_X7_ask rfl rfl rfl (by decide +kernel) ⟨Nat.le_of_ble_eq_true rfl, Nat.le_of_ble_eq_true rfl⟩) rfl rfl (Nat.le_of_ble_eq_true rfl) ⟨by decide +kernel, by decide +kernel⟩ dL_law_711 (fun r266 F266 H266 locs266 hr266 hP266 hS266 => ?_)
      obtain ⟨hW266, hFc266, hr266⟩ := hr266
      obtain ⟨hr266, hm266⟩ := hr266
      have hE266 : RR (AB ad F) (AB ad F266) := RR.refF hR hFc266 (by decide)
      have hR266 : RR (AB ad F266) (AB ad F266) := RR.bothF hR hFc266 (by decide) (by decide)
      refine lv_pop S.1 S.2.1 dL_law_714 rfl ?_
      refine lv_aload_n S.1 S.2.1 dL_law_715 rfl (lv_at hl 2 rfl) ?_
      obtain ⟨ty269, kn269, no269, en269, at269, sa269, sd269, wr269, pl269, va269, hF269, hb269_1, hb269_2, hb269_3, hb269_4, hb269_5, hb269_6⟩ := wt_m hW266
      refine r_cVi (As := []) (rest := []) S hK hZ hP266 hS266 hl.1 58 (by decide) hF269 (C := RX8) rfl (c_X8_ask l D cA ad t hI F266 hW266 ) (cwV 0 S.2.2.2.2 gL_law_X8_ask rfl rfl rfl (by decide +kernel) ⟨Nat.le_of_ble_eq_true rfl, Nat.le_of_ble_eq_true rfl⟩) rfl rfl (Nat.le_of_ble_eq_true rfl) ⟨by decide +kernel, by decide +kernel⟩ dL_law_716 (fun r268 F268 H268 locs268 hr268 hP268 hS268 => ?_)
      obtain ⟨hW268, hFc268, hr268⟩ := hr268
      have hR268 : RR (AB ad F268) (AB ad F268) := RR.bothF hR266 hFc268 (by decide) (by decide)
      refine lv_pop S.1 S.2.1 dL_law_719 rfl ?_
      refine lv_goto (tgt := 841) S.1 S.2.1 dL_law_720 (by decide) ?_
      refine lv_iinc (v := (nI (i + 3))) (lv' := [(3, .int (nI (i + 3))), (0, .ref b), (1, .ref (ad 0)), (2, .ref (ad 58))]) S.1 S.2.1 dL_law_841 hl (k := 3) rfl (nI_add _ 3) (by decide) rfl (fun ls270 hl270 => ?_)
      refine lv_goto (tgt := 18) S.1 S.2.1 dL_law_844 (by decide) ?_
      exact ih (i + 3) F268 H268 locs268 (by omega) (by omega) hW268 hP268 hS268 hR268 ls270 (lv_sub hl270 [1, 2, 3, 0] rfl)
    by_cases hs7_25 : v6.toInt = 25
    · refine lv_tableIn (off := 691) (tgt := 723) S.1 S.2.1 dL_law_32 (by omega) (by omega) (by rw [hs7_25]; rfl) (by decide) ?_
      refine lv_aload_n S.1 S.2.1 dL_law_723 rfl (lv_at hl 1 rfl) ?_
      refine lv_aload_n S.1 S.2.1 dL_law_724 rfl (lv_at hl 0 rfl) ?_
      refine lv_iload_n S.1 S.2.1 dL_law_725 rfl (lv_at hl 3 rfl) ?_
      refine lv_iconst (v := (nI 1)) S.1 S.2.1 dL_law_726 (by decide +kernel) ?_
      refine lv_iadd S.1 S.2.1 dL_law_727 ?_
      refine lv_topi (fun v271 e271 => ?_)
      obtain rfl : v271 = nI (i + 1) := e271.trans (nI_add _ _)
      refine va_sld S.1 S.2.1 hX hbl hbA hS (vp_in_nI (show i + 1 < L by omega) (by omega)) dL_law_728 ?_
      refine lv_topi (fun v272 e272 => ?_)
      obtain ⟨c274, d274, k274, dr274, hF274, hc274, hd274, hk274⟩ := wt_main hW
      refine r_cVi (As := [.int v272]) (rest := []) S hK hZ hP hS hl.1 0 (by decide) hF274 (C := RX7) rfl (c_X7_write l D cA ad t hI F hW v272) (cwV 1 S.2.2.2.2 gL_law_X7_write rfl rfl rfl (by decide +kernel) ⟨Nat.le_of_ble_eq_true rfl, Nat.le_of_ble_eq_true rfl⟩) rfl rfl (Nat.le_of_ble_eq_true rfl) ⟨by decide +kernel, by decide +kernel⟩ dL_law_729 (fun r273 F273 H273 locs273 hr273 hP273 hS273 => ?_)
      obtain ⟨hW273, hFc273, hr273⟩ := hr273
      obtain ⟨hr273, hm273⟩ := hr273
      have hE273 : RR (AB ad F) (AB ad F273) := RR.refF hR hFc273 (by decide)
      refine lv_pop S.1 S.2.1 dL_law_732 rfl ?_
      refine lv_aload_n S.1 S.2.1 dL_law_733 rfl (lv_at hl 2 rfl) ?_
      refine lv_aload_n S.1 S.2.1 dL_law_734 rfl (lv_at hl 0 rfl) ?_
      refine lv_iload_n S.1 S.2.1 dL_law_735 rfl (lv_at hl 3 rfl) ?_
      refine lv_iconst (v := (nI 1)) S.1 S.2.1 dL_law_736 (by decide +kernel) ?_
      refine lv_iadd S.1 S.2.1 dL_law_737 ?_
      refine lv_topi (fun v275 e275 => ?_)
      obtain rfl : v275 = nI (i + 1) := e275.trans (nI_add _ _)
      refine va_sld S.1 S.2.1 hX hbl hbA hS273 (vp_in_nI (show i + 1 < L by omega) (by omega)) dL_law_738 ?_
      refine lv_topi (fun v276 e276 => ?_)
      obtain ⟨ty277, kn277, no277, en277, at277, sa277, sd277, wr277, pl277, va277, hF277, hb277_1, hb277_2, hb277_3, hb277_4, hb277_5, hb277_6⟩ := wt_m hW273
      have hA278 := fN_of (k := 14) (a := at277) hF277 rfl (by omega)
      have hL278 := fN_of (k := 1) (a := ty277) hF277 rfl (by omega)
      refine r_cVi (As := [.int v276]) (rest := []) S hK hZ hP273 hS273 hl.1 58 (by decide) hF277 (C := RX8) rfl (c_X8_write l D cA ad t hI F273 hW273 v276) (cwV 1 S.2.2.2.2 gL_law_X8_write rfl rfl rfl (by decide +kernel) ⟨Nat.le_of_ble_eq_true rfl, Nat.le_of_ble_eq_true rfl⟩) rfl rfl (Nat.le_of_ble_eq_true rfl) ⟨by decide +kernel, by decide +kernel⟩ dL_law_739 (fun r279 F279 H279 locs279 hr279 hP279 hS279 => ?_)
      obtain ⟨hW279, hFc279, hr279⟩ := hr279
      obtain ⟨hr279, hm279⟩ := hr279
      obtain ⟨ty281, kn281, no281, en281, at281, sa281, sd281, wr281, pl281, va281, hF281, hb281_1, hb281_2, hb281_3, hb281_4, hb281_5, hb281_6⟩ := wt_m hW279
      have hA282 := fN_of (k := 14) (a := at281) hF281 rfl (by omega)
      have hL282 := fN_of (k := 1) (a := ty281) hF281 rfl (by omega)
      have hq279 := hm279
      rw [show v276 = v272 from e276.trans e272.symm] at hq279
      have hT279 : r273 = r279 ∧ RR (AB ad F273) (AB ad F279) := by have q := write_E hE273 v272; rw [hm273, hq279] at q; exact q
      have hR279 : RR (AB ad F279) (AB ad F279) := RR.clsF hT279.2 hFc279 (by decide)
      refine lv_pop S.1 S.2.1 dL_law_742 rfl ?_
      refine lv_goto (tgt := 841) S.1 S.2.1 dL_law_743 (by decide) ?_
      refine lv_iinc (v := (nI (i + 3))) (lv' := [(3, .int (nI (i + 3))), (0, .ref b), (1, .ref (ad 0)), (2, .ref (ad 58))]) S.1 S.2.1 dL_law_841 hl (k := 3) rfl (nI_add _ 3) (by decide) rfl (fun ls283 hl283 => ?_)
      refine lv_goto (tgt := 18) S.1 S.2.1 dL_law_844 (by decide) ?_
      exact ih (i + 3) F279 H279 locs279 (by omega) (by omega) hW279 hP279 hS279 hR279 ls283 (lv_sub hl283 [1, 2, 3, 0] rfl)
    by_cases hs7_26 : v6.toInt = 26
    · refine lv_tableIn (off := 714) (tgt := 746) S.1 S.2.1 dL_law_32 (by omega) (by omega) (by rw [hs7_26]; rfl) (by decide) ?_
      refine lv_aload_n S.1 S.2.1 dL_law_746 rfl (lv_at hl 1 rfl) ?_
      obtain ⟨c285, d285, k285, dr285, hF285, hc285, hd285, hk285⟩ := wt_main hW
      refine r_cVi (As := []) (rest := []) S hK hZ hP hS hl.1 0 (by decide) hF285 (C := RX7) rfl (c_X7_tear l D cA ad t hI F hW ) (cwV 0 S.2.2.2.2 gL_law_X7_tear rfl rfl rfl (by decide +kernel) ⟨Nat.le_of_ble_eq_true rfl, Nat.le_of_ble_eq_true rfl⟩) rfl rfl (Nat.le_of_ble_eq_true rfl) ⟨by decide +kernel, by decide +kernel⟩ dL_law_747 (fun r284 F284 H284 locs284 hr284 hP284 hS284 => ?_)
      obtain ⟨hW284, hFc284, hr284⟩ := hr284
      obtain ⟨hr284, hm284⟩ := hr284
      have hE284 : RR (AB ad F) (AB ad F284) := RR.refF hR hFc284 (by decide)
      refine lv_pop S.1 S.2.1 dL_law_750 rfl ?_
      refine lv_aload_n S.1 S.2.1 dL_law_751 rfl (lv_at hl 2 rfl) ?_
      obtain ⟨ty286, kn286, no286, en286, at286, sa286, sd286, wr286, pl286, va286, hF286, hb286_1, hb286_2, hb286_3, hb286_4, hb286_5, hb286_6⟩ := wt_m hW284
      have hA287 := fN_of (k := 14) (a := at286) hF286 rfl (by omega)
      have hL287 := fN_of (k := 1) (a := ty286) hF286 rfl (by omega)
      refine r_cVi (As := []) (rest := []) S hK hZ hP284 hS284 hl.1 58 (by decide) hF286 (C := RX8) rfl (c_X8_tear l D cA ad t hI F284 hW284 ) (cwV 0 S.2.2.2.2 gL_law_X8_tear rfl rfl rfl (by decide +kernel) ⟨Nat.le_of_ble_eq_true rfl, Nat.le_of_ble_eq_true rfl⟩) rfl rfl (Nat.le_of_ble_eq_true rfl) ⟨by decide +kernel, by decide +kernel⟩ dL_law_752 (fun r288 F288 H288 locs288 hr288 hP288 hS288 => ?_)
      obtain ⟨hW288, hFc288, hr288⟩ := hr288
      obtain ⟨hr288, hm288⟩ := hr288
      obtain ⟨ty290, kn290, no290, en290, at290, sa290, sd290, wr290, pl290, va290, hF290, hb290_1, hb290_2, hb290_3, hb290_4, hb290_5, hb290_6⟩ := wt_m hW288
      have hA291 := fN_of (k := 14) (a := at290) hF290 rfl (by omega)
      have hL291 := fN_of (k := 1) (a := ty290) hF290 rfl (by omega)
      have hq288 := hm288
      have hT288 : r284 = r288 ∧ RR (AB ad F284) (AB ad F288) := by have q := tear_E hE284; rw [hm284, hq288] at q; exact q
      have hR288 : RR (AB ad F288) (AB ad F288) := RR.clsF hT288.2 hFc288 (by decide)
      refine lv_pop S.1 S.2.1 dL_law_755 rfl ?_
      refine lv_goto (tgt := 841) S.1 S.2.1 dL_law_756 (by decide) ?_
      refine lv_iinc (v := (nI (i + 3))) (lv' := [(3, .int (nI (i + 3))), (0, .ref b), (1, .ref (ad 0)), (2, .ref (ad 58))]) S.1 S.2.1 dL_law_841 hl (k := 3) rfl (nI_add _ 3) (by decide) rfl (fun ls292 hl292 => ?_)
      refine lv_goto (tgt := 18) S.1 S.2.1 dL_law_844 (by decide) ?_
      exact ih (i + 3) F288 H288 locs288 (by omega) (by omega) hW288 hP288 hS288 hR288 ls292 (lv_sub hl292 [1, 2, 3, 0] rfl)
    by_cases hs7_27 : v6.toInt = 27
    · refine lv_tableIn (off := 727) (tgt := 759) S.1 S.2.1 dL_law_32 (by omega) (by omega) (by rw [hs7_27]; rfl) (by decide) ?_
      refine lv_aload_n S.1 S.2.1 dL_law_759 rfl (lv_at hl 1 rfl) ?_
      obtain ⟨c294, d294, k294, dr294, hF294, hc294, hd294, hk294⟩ := wt_main hW
      refine r_cVp (As := []) (rest := []) S hK hZ hP hS hl.1 0 (by decide) hF294 (C := RX7) rfl (c_X7_judge l D cA ad t hI F hW ) (cwV 0 S.2.2.2.2 gL_law_X7_judge rfl rfl rfl (by decide +kernel) ⟨Nat.le_of_ble_eq_true rfl, Nat.le_of_ble_eq_true rfl⟩) rfl rfl (Nat.le_of_ble_eq_true rfl) ⟨by decide +kernel, by decide +kernel⟩ dL_law_760 (fun r293 hr293 => ?_)
      obtain ⟨hr293, hm293⟩ := hr293
      refine lv_pop S.1 S.2.1 dL_law_763 rfl ?_
      refine lv_aload_n S.1 S.2.1 dL_law_764 rfl (lv_at hl 2 rfl) ?_
      obtain ⟨ty296, kn296, no296, en296, at296, sa296, sd296, wr296, pl296, va296, hF296, hb296_1, hb296_2, hb296_3, hb296_4, hb296_5, hb296_6⟩ := wt_m hW
      refine r_cVp (As := []) (rest := []) S hK hZ hP hS hl.1 58 (by decide) hF296 (C := RX8) rfl (c_X8_judge l D cA ad t hI F hW ) (cwV 0 S.2.2.2.2 gL_law_X8_judge rfl rfl rfl (by decide +kernel) ⟨Nat.le_of_ble_eq_true rfl, Nat.le_of_ble_eq_true rfl⟩) rfl rfl (Nat.le_of_ble_eq_true rfl) ⟨by decide +kernel, by decide +kernel⟩ dL_law_765 (fun r295 hr295 => ?_)
      obtain ⟨hr295, hm295⟩ := hr295
      refine lv_pop S.1 S.2.1 dL_law_768 rfl ?_
      refine lv_goto (tgt := 841) S.1 S.2.1 dL_law_769 (by decide) ?_
      refine lv_iinc (v := (nI (i + 3))) (lv' := [(3, .int (nI (i + 3))), (0, .ref b), (1, .ref (ad 0)), (2, .ref (ad 58))]) S.1 S.2.1 dL_law_841 hl (k := 3) rfl (nI_add _ 3) (by decide) rfl (fun ls297 hl297 => ?_)
      refine lv_goto (tgt := 18) S.1 S.2.1 dL_law_844 (by decide) ?_
      exact ih (i + 3) F H locs (by omega) (by omega) hW hP hS hR ls297 (lv_sub hl297 [1, 2, 3, 0] rfl)
    by_cases hs7_28 : v6.toInt = 28
    · refine lv_tableIn (off := 740) (tgt := 772) S.1 S.2.1 dL_law_32 (by omega) (by omega) (by rw [hs7_28]; rfl) (by decide) ?_
      refine lv_aload_n S.1 S.2.1 dL_law_772 rfl (lv_at hl 1 rfl) ?_
      refine lv_aload_n S.1 S.2.1 dL_law_773 rfl (lv_at hl 0 rfl) ?_
      refine lv_iload_n S.1 S.2.1 dL_law_774 rfl (lv_at hl 3 rfl) ?_
      refine lv_iconst (v := (nI 1)) S.1 S.2.1 dL_law_775 (by decide +kernel) ?_
      refine lv_iadd S.1 S.2.1 dL_law_776 ?_
      refine lv_topi (fun v298 e298 => ?_)
      obtain rfl : v298 = nI (i + 1) := e298.trans (nI_add _ _)
      refine va_sld S.1 S.2.1 hX hbl hbA hS (vp_in_nI (show i + 1 < L by omega) (by omega)) dL_law_777 ?_
      refine lv_topi (fun v299 e299 => ?_)
      obtain ⟨c301, d301, k301, dr301, hF301, hc301, hd301, hk301⟩ := wt_main hW
      refine r_cVi (As := [.int v299]) (rest := []) S hK hZ hP hS hl.1 0 (by decide) hF301 (C := RX7) rfl (c_X7_seed l D cA ad t hI F hW v299) (cwV 1 S.2.2.2.2 gL_law_X7_seed rfl rfl rfl (by decide +kernel) ⟨Nat.le_of_ble_eq_true rfl, Nat.le_of_ble_eq_true rfl⟩) rfl rfl (Nat.le_of_ble_eq_true rfl) ⟨by decide +kernel, by decide +kernel⟩ dL_law_778 (fun r300 F300 H300 locs300 hr300 hP300 hS300 => ?_)
      obtain ⟨hW300, hFc300, hr300⟩ := hr300
      obtain ⟨hr300, hm300⟩ := hr300
      have hE300 : RR (AB ad F) (AB ad F300) := RR.refF hR hFc300 (by decide)
      refine lv_pop S.1 S.2.1 dL_law_781 rfl ?_
      refine lv_aload_n S.1 S.2.1 dL_law_782 rfl (lv_at hl 2 rfl) ?_
      refine lv_aload_n S.1 S.2.1 dL_law_783 rfl (lv_at hl 0 rfl) ?_
      refine lv_iload_n S.1 S.2.1 dL_law_784 rfl (lv_at hl 3 rfl) ?_
      refine lv_iconst (v := (nI 1)) S.1 S.2.1 dL_law_785 (by decide +kernel) ?_
      refine lv_iadd S.1 S.2.1 dL_law_786 ?_
      refine lv_topi (fun v302 e302 => ?_)
      obtain rfl : v302 = nI (i + 1) := e302.trans (nI_add _ _)
      refine va_sld S.1 S.2.1 hX hbl hbA hS300 (vp_in_nI (show i + 1 < L by omega) (by omega)) dL_law_787 ?_
      refine lv_topi (fun v303 e303 => ?_)
      obtain ⟨ty304, kn304, no304, en304, at304, sa304, sd304, wr304, pl304, va304, hF304, hb304_1, hb304_2, hb304_3, hb304_4, hb304_5, hb304_6⟩ := wt_m hW300
      have hA305 := fN_of (k := 14) (a := at304) hF304 rfl (by omega)
      have hL305 := fN_of (k := 1) (a := ty304) hF304 rfl (by omega)
      refine r_cVi (As := [.int v303]) (rest := []) S hK hZ hP300 hS300 hl.1 58 (by decide) hF304 (C := RX8) rfl (c_X8_seed l D cA ad t hI F300 hW300 v303) (cwV 1 S.2.2.2.2 gL_law_X8_seed rfl rfl rfl (by decide +kernel) ⟨Nat.le_of_ble_eq_true rfl, Nat.le_of_ble_eq_true rfl⟩) rfl rfl (Nat.le_of_ble_eq_true rfl) ⟨by decide +kernel, by decide +kernel⟩ dL_law_788 (fun r306 F306 H306 locs306 hr306 hP306 hS306 => ?_)
      obtain ⟨hW306, hFc306, hr306⟩ := hr306
      obtain ⟨hr306, hm306⟩ := hr306
      obtain ⟨ty308, kn308, no308, en308, at308, sa308, sd308, wr308, pl308, va308, hF308, hb308_1, hb308_2, hb308_3, hb308_4, hb308_5, hb308_6⟩ := wt_m hW306
      have hA309 := fN_of (k := 14) (a := at308) hF308 rfl (by omega)
      have hL309 := fN_of (k := 1) (a := ty308) hF308 rfl (by omega)
      have hq306 := hm306
      rw [show v303 = v299 from e303.trans e299.symm] at hq306
      have hT306 : r300 = r306 ∧ RR (AB ad F300) (AB ad F306) := by have q := seed_E hE300 v299; rw [hm300, hq306] at q; exact q
      have hR306 : RR (AB ad F306) (AB ad F306) := RR.clsF hT306.2 hFc306 (by decide)
      refine lv_pop S.1 S.2.1 dL_law_791 rfl ?_
      refine lv_goto (tgt := 841) S.1 S.2.1 dL_law_792 (by decide) ?_
      refine lv_iinc (v := (nI (i + 3))) (lv' := [(3, .int (nI (i + 3))), (0, .ref b), (1, .ref (ad 0)), (2, .ref (ad 58))]) S.1 S.2.1 dL_law_841 hl (k := 3) rfl (nI_add _ 3) (by decide) rfl (fun ls310 hl310 => ?_)
      refine lv_goto (tgt := 18) S.1 S.2.1 dL_law_844 (by decide) ?_
      exact ih (i + 3) F306 H306 locs306 (by omega) (by omega) hW306 hP306 hS306 hR306 ls310 (lv_sub hl310 [1, 2, 3, 0] rfl)
    by_cases hs7_29 : v6.toInt = 29
    · refine lv_tableIn (off := 763) (tgt := 795) S.1 S.2.1 dL_law_32 (by omega) (by omega) (by rw [hs7_29]; rfl) (by decide) ?_
      refine lv_aload_n S.1 S.2.1 dL_law_795 rfl (lv_at hl 1 rfl) ?_
      refine lv_aload_n S.1 S.2.1 dL_law_796 rfl (lv_at hl 0 rfl) ?_
      refine lv_iload_n S.1 S.2.1 dL_law_797 rfl (lv_at hl 3 rfl) ?_
      refine lv_iconst (v := (nI 1)) S.1 S.2.1 dL_law_798 (by decide +kernel) ?_
      refine lv_iadd S.1 S.2.1 dL_law_799 ?_
      refine lv_topi (fun v311 e311 => ?_)
      obtain rfl : v311 = nI (i + 1) := e311.trans (nI_add _ _)
      refine va_sld S.1 S.2.1 hX hbl hbA hS (vp_in_nI (show i + 1 < L by omega) (by omega)) dL_law_800 ?_
      refine lv_topi (fun v312 e312 => ?_)
      obtain ⟨c314, d314, k314, dr314, hF314, hc314, hd314, hk314⟩ := wt_main hW
      refine r_cVi (As := [.int v312]) (rest := []) S hK hZ hP hS hl.1 0 (by decide) hF314 (C := RX7) rfl (c_X7_keep l D cA ad t hI F hW v312) (cwV 1 S.2.2.2.2 gL_law_X7_keep rfl rfl rfl (by decide +kernel) ⟨Nat.le_of_ble_eq_true rfl, Nat.le_of_ble_eq_true rfl⟩) rfl rfl (Nat.le_of_ble_eq_true rfl) ⟨by decide +kernel, by decide +kernel⟩ dL_law_801 (fun r313 F313 H313 locs313 hr313 hP313 hS313 => ?_)
      obtain ⟨hW313, hFc313, hr313⟩ := hr313
      obtain ⟨hr313, hm313⟩ := hr313
      have hE313 : RR (AB ad F) (AB ad F313) := RR.refF hR hFc313 (by decide)
      refine lv_pop S.1 S.2.1 dL_law_804 rfl ?_
      refine lv_aload_n S.1 S.2.1 dL_law_805 rfl (lv_at hl 2 rfl) ?_
      refine lv_aload_n S.1 S.2.1 dL_law_806 rfl (lv_at hl 0 rfl) ?_
      refine lv_iload_n S.1 S.2.1 dL_law_807 rfl (lv_at hl 3 rfl) ?_
      refine lv_iconst (v := (nI 1)) S.1 S.2.1 dL_law_808 (by decide +kernel) ?_
      refine lv_iadd S.1 S.2.1 dL_law_809 ?_
      refine lv_topi (fun v315 e315 => ?_)
      obtain rfl : v315 = nI (i + 1) := e315.trans (nI_add _ _)
      refine va_sld S.1 S.2.1 hX hbl hbA hS313 (vp_in_nI (show i + 1 < L by omega) (by omega)) dL_law_810 ?_
      refine lv_topi (fun v316 e316 => ?_)
      obtain ⟨ty317, kn317, no317, en317, at317, sa317, sd317, wr317, pl317, va317, hF317, hb317_1, hb317_2, hb317_3, hb317_4, hb317_5, hb317_6⟩ := wt_m hW313
      have hA318 := fN_of (k := 14) (a := at317) hF317 rfl (by omega)
      have hL318 := fN_of (k := 1) (a := ty317) hF317 rfl (by omega)
      refine r_cVi (As := [.int v316]) (rest := []) S hK hZ hP313 hS313 hl.1 58 (by decide) hF317 (C := RX8) rfl (c_X8_keep l D cA ad t hI F313 hW313 v316) (cwV 1 S.2.2.2.2 gL_law_X8_keep rfl rfl rfl (by decide +kernel) ⟨Nat.le_of_ble_eq_true rfl, Nat.le_of_ble_eq_true rfl⟩) rfl rfl (Nat.le_of_ble_eq_true rfl) ⟨by decide +kernel, by decide +kernel⟩ dL_law_811 (fun r319 F319 H319 locs319 hr319 hP319 hS319 => ?_)
      obtain ⟨hW319, hFc319, hr319⟩ := hr319
      obtain ⟨hr319, hm319⟩ := hr319
      obtain ⟨hk320, hz320⟩ := hr319
      obtain ⟨ty321, kn321, no321, en321, at321, sa321, sd321, wr321, pl321, va321, hF321, hb321_1, hb321_2, hb321_3, hb321_4, hb321_5, hb321_6⟩ := wt_m hW319
      have hA322 := fN_of (k := 14) (a := at321) hF321 rfl (by omega)
      have hL322 := fN_of (k := 1) (a := ty321) hF321 rfl (by omega)
      have hq319 := hm319
      rw [show v316 = v312 from e316.trans e312.symm] at hq319
      have hT319 : r313 = r319 ∧ RR (AB ad F313) (AB ad F319) := by have q := keep_E hE313 v312; rw [hm313, hq319] at q; exact q
      have hR319 : RR (AB ad F319) (AB ad F319) := RR.clsF hT319.2 hFc319 (by decide)
      refine lv_pop S.1 S.2.1 dL_law_814 rfl ?_
      refine lv_goto (tgt := 841) S.1 S.2.1 dL_law_815 (by decide) ?_
      refine lv_iinc (v := (nI (i + 3))) (lv' := [(3, .int (nI (i + 3))), (0, .ref b), (1, .ref (ad 0)), (2, .ref (ad 58))]) S.1 S.2.1 dL_law_841 hl (k := 3) rfl (nI_add _ 3) (by decide) rfl (fun ls323 hl323 => ?_)
      refine lv_goto (tgt := 18) S.1 S.2.1 dL_law_844 (by decide) ?_
      exact ih (i + 3) F319 H319 locs319 (by omega) (by omega) hW319 hP319 hS319 hR319 ls323 (lv_sub hl323 [1, 2, 3, 0] rfl)
    by_cases hs7_30 : v6.toInt = 30
    · refine lv_tableIn (off := 786) (tgt := 818) S.1 S.2.1 dL_law_32 (by omega) (by omega) (by rw [hs7_30]; rfl) (by decide) ?_
      refine lv_aload_n S.1 S.2.1 dL_law_818 rfl (lv_at hl 1 rfl) ?_
      refine lv_aload_n S.1 S.2.1 dL_law_819 rfl (lv_at hl 0 rfl) ?_
      refine lv_iload_n S.1 S.2.1 dL_law_820 rfl (lv_at hl 3 rfl) ?_
      refine lv_iconst (v := (nI 1)) S.1 S.2.1 dL_law_821 (by decide +kernel) ?_
      refine lv_iadd S.1 S.2.1 dL_law_822 ?_
      refine lv_topi (fun v324 e324 => ?_)
      obtain rfl : v324 = nI (i + 1) := e324.trans (nI_add _ _)
      refine va_sld S.1 S.2.1 hX hbl hbA hS (vp_in_nI (show i + 1 < L by omega) (by omega)) dL_law_823 ?_
      refine lv_topi (fun v325 e325 => ?_)
      obtain ⟨c327, d327, k327, dr327, hF327, hc327, hd327, hk327⟩ := wt_main hW
      refine r_cVi (As := [.int v325]) (rest := []) S hK hZ hP hS hl.1 0 (by decide) hF327 (C := RX7) rfl (c_X7_goBack l D cA ad t hI F hW v325) (cwV 1 S.2.2.2.2 gL_law_X7_goBack rfl rfl rfl (by decide +kernel) ⟨Nat.le_of_ble_eq_true rfl, Nat.le_of_ble_eq_true rfl⟩) rfl rfl (Nat.le_of_ble_eq_true rfl) ⟨by decide +kernel, by decide +kernel⟩ dL_law_824 (fun r326 F326 H326 locs326 hr326 hP326 hS326 => ?_)
      obtain ⟨hW326, hFc326, hr326⟩ := hr326
      obtain ⟨hr326, hm326⟩ := hr326
      have hE326 : RR (AB ad F) (AB ad F326) := RR.refF hR hFc326 (by decide)
      refine lv_pop S.1 S.2.1 dL_law_827 rfl ?_
      refine lv_aload_n S.1 S.2.1 dL_law_828 rfl (lv_at hl 2 rfl) ?_
      refine lv_aload_n S.1 S.2.1 dL_law_829 rfl (lv_at hl 0 rfl) ?_
      refine lv_iload_n S.1 S.2.1 dL_law_830 rfl (lv_at hl 3 rfl) ?_
      refine lv_iconst (v := (nI 1)) S.1 S.2.1 dL_law_831 (by decide +kernel) ?_
      refine lv_iadd S.1 S.2.1 dL_law_832 ?_
      refine lv_topi (fun v328 e328 => ?_)
      obtain rfl : v328 = nI (i + 1) := e328.trans (nI_add _ _)
      refine va_sld S.1 S.2.1 hX hbl hbA hS326 (vp_in_nI (show i + 1 < L by omega) (by omega)) dL_law_833 ?_
      refine lv_topi (fun v329 e329 => ?_)
      obtain ⟨ty330, kn330, no330, en330, at330, sa330, sd330, wr330, pl330, va330, hF330, hb330_1, hb330_2, hb330_3, hb330_4, hb330_5, hb330_6⟩ := wt_m hW326
      have hA331 := fN_of (k := 14) (a := at330) hF330 rfl (by omega)
      have hL331 := fN_of (k := 1) (a := ty330) hF330 rfl (by omega)
      refine r_cVi (As := [.int v329]) (rest := []) S hK hZ hP326 hS326 hl.1 58 (by decide) hF330 (C := RX8) rfl (c_X8_goBack l D cA ad t hI F326 hW326 v329) (cwV 1 S.2.2.2.2 gL_law_X8_goBack rfl rfl rfl (by decide +kernel) ⟨Nat.le_of_ble_eq_true rfl, Nat.le_of_ble_eq_true rfl⟩) rfl rfl (Nat.le_of_ble_eq_true rfl) ⟨by decide +kernel, by decide +kernel⟩ dL_law_834 (fun r332 F332 H332 locs332 hr332 hP332 hS332 => ?_)
      obtain ⟨hW332, hFc332, hr332⟩ := hr332
      obtain ⟨hr332, hm332⟩ := hr332
      obtain ⟨ty334, kn334, no334, en334, at334, sa334, sd334, wr334, pl334, va334, hF334, hb334_1, hb334_2, hb334_3, hb334_4, hb334_5, hb334_6⟩ := wt_m hW332
      have hA335 := fN_of (k := 14) (a := at334) hF334 rfl (by omega)
      have hL335 := fN_of (k := 1) (a := ty334) hF334 rfl (by omega)
      have hq332 := hm332
      rw [show v329 = v325 from e329.trans e325.symm] at hq332
      have hT332 : r326 = r332 ∧ RR (AB ad F326) (AB ad F332) := by have q := goBack_E hE326 v325; rw [hm326, hq332] at q; exact q
      have hR332 : RR (AB ad F332) (AB ad F332) := RR.clsF hT332.2 hFc332 (by decide)
      refine lv_pop S.1 S.2.1 dL_law_837 rfl ?_
      refine lv_goto (tgt := 841) S.1 S.2.1 dL_law_838 (by decide) ?_
      refine lv_iinc (v := (nI (i + 3))) (lv' := [(3, .int (nI (i + 3))), (0, .ref b), (1, .ref (ad 0)), (2, .ref (ad 58))]) S.1 S.2.1 dL_law_841 hl (k := 3) rfl (nI_add _ 3) (by decide) rfl (fun ls336 hl336 => ?_)
      refine lv_goto (tgt := 18) S.1 S.2.1 dL_law_844 (by decide) ?_
      exact ih (i + 3) F332 H332 locs332 (by omega) (by omega) hW332 hP332 hS332 hR332 ls336 (lv_sub hl336 [1, 2, 3, 0] rfl)
    refine lv_tableOut (tgt := 841) S.1 S.2.1 dL_law_32 (by omega) (by decide) ?_
    refine lv_iinc (v := (nI (i + 3))) (lv' := [(3, .int (nI (i + 3))), (0, .ref b), (1, .ref (ad 0)), (2, .ref (ad 58))]) S.1 S.2.1 dL_law_841 hl (k := 3) rfl (nI_add _ 3) (by decide) rfl (fun ls337 hl337 => ?_)
    refine lv_goto (tgt := 18) S.1 S.2.1 dL_law_844 (by decide) ?_
    exact ih (i + 3) F H locs (by omega) (by omega) hW hP hS hR ls337 (lv_sub hl337 [1, 2, 3, 0] rfl)
