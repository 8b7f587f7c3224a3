/-! THE CLAIM OUT OF ONE WALK OF THE LAW'S BODY. Your part is whole_start (and what it stands on); all else here is the same for every law, but numbers. -/
def R_law : String := "JourneyRoadsLaw"
def lw_P (b : Addr) (xs : List Int32) (args : Array Value) (s : State) : Prop := args = #[.ref b] ∧ s.IntsAt b xs ∧ xs.length ≤ 192 ∧ (Jvm.Cond.and given_1 narrow_1).before args s = true
def lw_Q (_ : Array Value) (s : State) (o : Outcome) (t : State) : Prop := o = .returned (some (.int 1)) ∧ Framed s o t [] 600000 7302250
def lw_Z (below : List Frame) (a : Array Value) (s : State) : State → Prop := fun t => ∃ o, t.status = .running ∧ Ended t below o ∧ lw_Q a s o t
/-- the law's own end, with 1 on the stack, nothing written that was there before, its room as the claim has it -/
theorem lw_ret {p : Program} {l : Launch} {e : Env} {s : State} {m : MethodId} {below : List Frame} {meth : Method} {c : Code} {b : Nat} (hx : p.tables.exec = Jvm.exec) (hb : c.code = code) (hr : meth.sig.returnType = ret) (hlocks : meth.locks = false) {pc : Nat} {H : Heap} {ls : Array Slot} (hdg : decode code pc = .ok (.ireturn, 1)) : W p l e room_1 s m #[Value.ref b] below meth c H [] 600000 7302250 (lw_Z below #[Value.ref b] s) (F0 m pc ls [.int 1]) := by
  intro T hT X
  obtain ⟨fs, hret, hrun, hended, hW, hframe⟩ := X.leave (v := some (.int 1)) (hlocks := hlocks) (fun h => by rw [hr] at h; cases h)
  have hmeth' : T.vm.method? m = some meth := X.method'
  refine ⟨T.setFrames fs, ?_, .returned (some (.int 1)), hrun, hended, rfl, ⟨_, rfl⟩, hW, hframe⟩
  jvm_step X.here [X.here.top, hx, hb, hdg, hmeth', hr, ret, narrow_b1]
  (try refine ⟨rfl, ?_⟩); (try refine ⟨rfl, ?_⟩)
  first | (intro acts; rw [hret _ acts rfl rfl rfl]) | rw [hret _ _ rfl rfl rfl]
  exact Steps.refl _
/-- what holds at the law's entry: the machine, the code, the tables' words (any of lw_tbl by 'hts w (by decide +kernel)'), the script of L ints xs at the cell b, what the Statement gives of the start (any of its parts by flat_of_before) -/
def lw_At (p : Program) (s : State) (m : MethodId) (meth : Method) (c : Code) (b L : Nat) (xs : Nat → Int32) : Prop :=
  p.tables.exec = Jvm.exec ∧ c.code = code ∧ meth.sig.returnType = ret ∧ c.maxLocals = 4 ∧ s.vm.findClass R_law = some m.cls ∧ (∀ w ∈ lw_tbl, w.before #[Value.ref b] s = true) ∧ va_X b L xs s s.heap ∧ b < s.heap.size ∧ meth.locks = false ∧ (Jvm.Cond.and given_1 narrow_1).before #[Value.ref b] s = true
set_option maxHeartbeats 16000000 in
set_option maxRecDepth 100000 in
theorem law_loop {p : Program} {e : Env} {s : State} {m : MethodId} {below : List Frame} {meth : Method} {c : Code} (l : Launch) {b L : Nat} {xs : Nat → Int32} (hL : L ≤ 192) (C0 : lw_At p s m meth c b L xs) {D : va_G} {cA ad : Nat → Nat} {t : Nat} (hK : va_K D vwCl (rT cA) s) (hZ : rZ t ad s) (hI : rI ad) (hge : ∀ i, i < rN → s.heap.size ≤ ad i) : ∀ (n i : Nat) (F : Nat → va_E) (H : Heap) (locs : List Loc), i ≤ L → L - i < n → WT cA ad F → va_P D vwCl (rW ad F) H → va_S (rA ad) s.heap H locs → RR (AB ad F) (AB ad F) → ∀ (ls : Array Slot), lv_has ls 4 [(0, .ref b), (1, .ref (ad 0)), (2, .ref (ad 58)), (3, .int (nI i))] → W p l e room_1 s m #[Value.ref b] below meth c H locs 72 5520 (lw_Z below #[Value.ref b] s) (F0 m 18 ls []) := by
  obtain ⟨hx, hb, hr, hml, hown, hts, hX, hbl, hlocks, hgv⟩ := C0
  have S : CallFix p m c cL_law 4 s #[Value.ref b] wsL_law RL := ⟨hx, hb, hml, hown, fun w h => hts w (wsL_law_in w h)⟩
  have hbA : ¬ rA ad b := fun h => by obtain ⟨i9, hi9, he9⟩ := h; have := hge i9 hi9; omega
  intro n
  induction n with
  | zero =>
    intro i F H locs h1 h2
    exact absurd h2 (Nat.not_lt_zero _)
  | succ n ih =>
    intro i F H locs hi hm hW hP hS hR ls hl
    refine lv_iload_n S.1 S.2.1 dL_law_18 rfl (lv_at hl 3 rfl) ?_
    refine lv_aload_n S.1 S.2.1 dL_law_19 rfl (lv_at hl 0 rfl) ?_
    refine va_slen S.1 S.2.1 hX hbl hbA hS dL_law_20 ?_
    refine lv_iconst (v := (nI 3)) S.1 S.2.1 dL_law_21 (by decide +kernel) ?_
    refine lv_isub S.1 S.2.1 dL_law_22 ?_
    refine lv_topi (fun v1 e1 => ?_)
    have ks1 : v1.toInt = ((L : Nat) : Int) - ((3 : Nat) : Int) := by rw [e1]; exact pk_sub_toInt (by omega) (by omega)
    refine lv_icmp_gt (tgt := 847) S.1 S.2.1 dL_law_23 (by decide) (fun c2 => ?_) (fun c2 => ?_)
    · skip
      have k3 := ci_lt rfl (nI_toInt (n := i) (by omega)) c2
      refine lv_iconst (v := 1) S.1 S.2.1 dL_law_847 (by decide +kernel) ?_
      refine va_forget (fun q hq => by obtain ⟨i9, hi9, he9⟩ := hS.2.2 q hq; rw [he9]; exact hge i9 hi9) ?_
      refine W.widen (k := 600000) (n := 7302250) (by decide +kernel) (by decide +kernel) ?_
      exact lw_ret hx hb hr hlocks dL_law_848
    have k4 := ci_nlt rfl (nI_toInt (n := i) (by omega)) c2
    refine lv_aload_n S.1 S.2.1 dL_law_26 rfl (lv_at hl 0 rfl) ?_
    refine lv_iload_n S.1 S.2.1 dL_law_27 rfl (lv_at hl 3 rfl) ?_
    refine va_sld S.1 S.2.1 hX hbl hbA hS (vp_in_nI (show i < L by omega) (by omega)) dL_law_28 ?_
    refine lv_topi (fun v5 e5 => ?_)
    refine lv_bipush (v := (nI 31)) S.1 S.2.1 dL_law_29 (by decide +kernel) ?_
    refine lv_iand S.1 S.2.1 dL_law_31 ?_
    refine lv_topi (fun v6 e6 => ?_)
    by_cases hs7_0 : v6.toInt = 0
    · refine lv_tableIn (off := 140) (tgt := 172) S.1 S.2.1 dL_law_32 (by omega) (by omega) (by rw [hs7_0]; rfl) (by decide) ?_
      refine lv_aload_n S.1 S.2.1 dL_law_172 rfl (lv_at hl 1 rfl) ?_
      refine lv_aload_n S.1 S.2.1 dL_law_173 rfl (lv_at hl 0 rfl) ?_
      refine lv_iload_n S.1 S.2.1 dL_law_174 rfl (lv_at hl 3 rfl) ?_
      refine lv_iconst (v := (nI 1)) S.1 S.2.1 dL_law_175 (by decide +kernel) ?_
      refine lv_iadd S.1 S.2.1 dL_law_176 ?_
      refine lv_topi (fun v8 e8 => ?_)
      obtain rfl : v8 = nI (i + 1) := e8.trans (nI_add _ _)
      refine va_sld S.1 S.2.1 hX hbl hbA hS (vp_in_nI (show i + 1 < L by omega) (by omega)) dL_law_177 ?_
      refine lv_topi (fun v9 e9 => ?_)
      obtain ⟨c11, d11, k11, dr11, hF11, hc11, hd11, hk11⟩ := wt_main hW
      refine r_cVi (As := [.int v9]) (rest := []) S hK hZ hP hS hl.1 0 (by decide) hF11 (C := RX7) rfl (c_X7_feed l D cA ad t hI F hW v9) (cwV 1 S.2.2.2.2 gL_law_X7_feed rfl rfl rfl (by decide +kernel) ⟨Nat.le_of_ble_eq_true rfl, Nat.le_of_ble_eq_true rfl⟩) rfl rfl (Nat.le_of_ble_eq_true rfl) ⟨by decide +kernel, by decide +kernel⟩ dL_law_178 (fun r10 F10 H10 locs10 hr10 hP10 hS10 => ?_)
      obtain ⟨hW10, hFc10, hr10⟩ := hr10
      obtain ⟨hr10, hm10⟩ := hr10
      obtain ⟨he12, hl12⟩ := hr10
      have hE10 : RR (AB ad F) (AB ad F10) := RR.refF hR hFc10 (by decide)
      refine lv_pop S.1 S.2.1 dL_law_181 rfl ?_
      refine lv_aload_n S.1 S.2.1 dL_law_182 rfl (lv_at hl 2 rfl) ?_
      refine lv_aload_n S.1 S.2.1 dL_law_183 rfl (lv_at hl 0 rfl) ?_
      refine lv_iload_n S.1 S.2.1 dL_law_184 rfl (lv_at hl 3 rfl) ?_
      refine lv_iconst (v := (nI 1)) S.1 S.2.1 dL_law_185 (by decide +kernel) ?_
      refine lv_iadd S.1 S.2.1 dL_law_186 ?_
      refine lv_topi (fun v13 e13 => ?_)
      obtain rfl : v13 = nI (i + 1) := e13.trans (nI_add _ _)
      refine va_sld S.1 S.2.1 hX hbl hbA hS10 (vp_in_nI (show i + 1 < L by omega) (by omega)) dL_law_187 ?_
      refine lv_topi (fun v14 e14 => ?_)
      obtain ⟨ty16, kn16, no16, en16, at16, sa16, sd16, wr16, pl16, va16, hF16, hb16_1, hb16_2, hb16_3, hb16_4, hb16_5, hb16_6⟩ := wt_m hW10
      refine r_cVi (As := [.int v14]) (rest := []) S hK hZ hP10 hS10 hl.1 58 (by decide) hF16 (C := RX8) rfl (c_X8_feed l D cA ad t hI F10 hW10 v14) (cwV 1 S.2.2.2.2 gL_law_X8_feed rfl rfl rfl (by decide +kernel) ⟨Nat.le_of_ble_eq_true rfl, Nat.le_of_ble_eq_true rfl⟩) rfl rfl (Nat.le_of_ble_eq_true rfl) ⟨by decide +kernel, by decide +kernel⟩ dL_law_188 (fun r15 F15 H15 locs15 hr15 hP15 hS15 => ?_)
      obtain ⟨hW15, hFc15, hr15⟩ := hr15
      obtain ⟨hr15, hm15⟩ := hr15
      obtain ⟨he17, hl17⟩ := hr15
      have hq15 := hm15
      rw [show v14 = v9 from e14.trans e9.symm] at hq15
      have hT15 : r10 = r15 ∧ RR (AB ad F10) (AB ad F15) := by have q := feed_E hE10 v9; rw [hm10, hq15] at q; exact q
      have hR15 : RR (AB ad F15) (AB ad F15) := RR.clsF hT15.2 hFc15 (by decide)
      refine lv_pop S.1 S.2.1 dL_law_191 rfl ?_
      refine lv_goto (tgt := 841) S.1 S.2.1 dL_law_192 (by decide) ?_
      refine lv_iinc (v := (nI (i + 3))) (lv' := [(3, .int (nI (i + 3))), (0, .ref b), (1, .ref (ad 0)), (2, .ref (ad 58))]) S.1 S.2.1 dL_law_841 hl (k := 3) rfl (nI_add _ 3) (by decide) rfl (fun ls18 hl18 => ?_)
      refine lv_goto (tgt := 18) S.1 S.2.1 dL_law_844 (by decide) ?_
      exact ih (i + 3) F15 H15 locs15 (by omega) (by omega) hW15 hP15 hS15 hR15 ls18 (lv_sub hl18 [1, 2, 3, 0] rfl)
    by_cases hs7_1 : v6.toInt = 1
    · refine lv_tableIn (off := 163) (tgt := 195) S.1 S.2.1 dL_law_32 (by omega) (by omega) (by rw [hs7_1]; rfl) (by decide) ?_
      refine lv_aload_n S.1 S.2.1 dL_law_195 rfl (lv_at hl 1 rfl) ?_
      obtain ⟨c20, d20, k20, dr20, hF20, hc20, hd20, hk20⟩ := wt_main hW
      refine r_cVi (As := []) (rest := []) S hK hZ hP hS hl.1 0 (by decide) hF20 (C := RX7) rfl (c_X7_land l D cA ad t hI F hW ) (cwV 0 S.2.2.2.2 gL_law_X7_land rfl rfl rfl (by decide +kernel) ⟨Nat.le_of_ble_eq_true rfl, Nat.le_of_ble_eq_true rfl⟩) rfl rfl (Nat.le_of_ble_eq_true rfl) ⟨by decide +kernel, by decide +kernel⟩ dL_law_196 (fun r19 F19 H19 locs19 hr19 hP19 hS19 => ?_)
      obtain ⟨hW19, hFc19, hr19⟩ := hr19
      obtain ⟨hr19, hm19⟩ := hr19
      have hE19 : RR (AB ad F) (AB ad F19) := RR.refF hR hFc19 (by decide)
      refine lv_pop S.1 S.2.1 dL_law_199 rfl ?_
      refine lv_aload_n S.1 S.2.1 dL_law_200 rfl (lv_at hl 2 rfl) ?_
      obtain ⟨ty22, kn22, no22, en22, at22, sa22, sd22, wr22, pl22, va22, hF22, hb22_1, hb22_2, hb22_3, hb22_4, hb22_5, hb22_6⟩ := wt_m hW19
      refine r_cVi (As := []) (rest := []) S hK hZ hP19 hS19 hl.1 58 (by decide) hF22 (C := RX8) rfl (c_X8_land l D cA ad t hI F19 hW19 ) (cwV 0 S.2.2.2.2 gL_law_X8_land rfl rfl rfl (by decide +kernel) ⟨Nat.le_of_ble_eq_true rfl, Nat.le_of_ble_eq_true rfl⟩) rfl rfl (Nat.le_of_ble_eq_true rfl) ⟨by decide +kernel, by decide +kernel⟩ dL_law_201 (fun r21 F21 H21 locs21 hr21 hP21 hS21 => ?_)
      obtain ⟨hW21, hFc21, hr21⟩ := hr21
      obtain ⟨hr21, hm21⟩ := hr21
      have hq21 := hm21
      have hT21 : r19 = r21 ∧ RR (AB ad F19) (AB ad F21) := by have q := land_E hE19; rw [hm19, hq21] at q; exact q
      have hR21 : RR (AB ad F21) (AB ad F21) := RR.clsF hT21.2 hFc21 (by decide)
      refine lv_pop S.1 S.2.1 dL_law_204 rfl ?_
      refine lv_goto (tgt := 841) S.1 S.2.1 dL_law_205 (by decide) ?_
      refine lv_iinc (v := (nI (i + 3))) (lv' := [(3, .int (nI (i + 3))), (0, .ref b), (1, .ref (ad 0)), (2, .ref (ad 58))]) S.1 S.2.1 dL_law_841 hl (k := 3) rfl (nI_add _ 3) (by decide) rfl (fun ls23 hl23 => ?_)
      refine lv_goto (tgt := 18) S.1 S.2.1 dL_law_844 (by decide) ?_
      exact ih (i + 3) F21 H21 locs21 (by omega) (by omega) hW21 hP21 hS21 hR21 ls23 (lv_sub hl23 [1, 2, 3, 0] rfl)
    by_cases hs7_2 : v6.toInt = 2
    · refine lv_tableIn (off := 176) (tgt := 208) S.1 S.2.1 dL_law_32 (by omega) (by omega) (by rw [hs7_2]; rfl) (by decide) ?_
      refine lv_aload_n S.1 S.2.1 dL_law_208 rfl (lv_at hl 1 rfl) ?_
      obtain ⟨c25, d25, k25, dr25, hF25, hc25, hd25, hk25⟩ := wt_main hW
      refine r_cVp (As := []) (rest := []) S hK hZ hP hS hl.1 0 (by decide) hF25 (C := RX7) rfl (c_X7_fault l D cA ad t hI F hW ) (cwV 0 S.2.2.2.2 gL_law_X7_fault rfl rfl rfl (by decide +kernel) ⟨Nat.le_of_ble_eq_true rfl, Nat.le_of_ble_eq_true rfl⟩) rfl rfl (Nat.le_of_ble_eq_true rfl) ⟨by decide +kernel, by decide +kernel⟩ dL_law_209 (fun r24 hr24 => ?_)
      obtain ⟨hr24, hm24⟩ := hr24
      refine lv_pop S.1 S.2.1 dL_law_212 rfl ?_
      refine lv_aload_n S.1 S.2.1 dL_law_213 rfl (lv_at hl 2 rfl) ?_
      obtain ⟨ty27, kn27, no27, en27, at27, sa27, sd27, wr27, pl27, va27, hF27, hb27_1, hb27_2, hb27_3, hb27_4, hb27_5, hb27_6⟩ := wt_m hW
      refine r_cVp (As := []) (rest := []) S hK hZ hP hS hl.1 58 (by decide) hF27 (C := RX8) rfl (c_X8_fault l D cA ad t hI F hW ) (cwV 0 S.2.2.2.2 gL_law_X8_fault rfl rfl rfl (by decide +kernel) ⟨Nat.le_of_ble_eq_true rfl, Nat.le_of_ble_eq_true rfl⟩) rfl rfl (Nat.le_of_ble_eq_true rfl) ⟨by decide +kernel, by decide +kernel⟩ dL_law_214 (fun r26 hr26 => ?_)
      obtain ⟨hr26, hm26⟩ := hr26
      refine lv_pop S.1 S.2.1 dL_law_217 rfl ?_
      refine lv_goto (tgt := 841) S.1 S.2.1 dL_law_218 (by decide) ?_
      refine lv_iinc (v := (nI (i + 3))) (lv' := [(3, .int (nI (i + 3))), (0, .ref b), (1, .ref (ad 0)), (2, .ref (ad 58))]) S.1 S.2.1 dL_law_841 hl (k := 3) rfl (nI_add _ 3) (by decide) rfl (fun ls28 hl28 => ?_)
      refine lv_goto (tgt := 18) S.1 S.2.1 dL_law_844 (by decide) ?_
      exact ih (i + 3) F H locs (by omega) (by omega) hW hP hS hR ls28 (lv_sub hl28 [1, 2, 3, 0] rfl)
    by_cases hs7_3 : v6.toInt = 3
    · refine lv_tableIn (off := 189) (tgt := 221) S.1 S.2.1 dL_law_32 (by omega) (by omega) (by rw [hs7_3]; rfl) (by decide) ?_
      refine lv_aload_n S.1 S.2.1 dL_law_221 rfl (lv_at hl 1 rfl) ?_
      refine lv_aload_n S.1 S.2.1 dL_law_222 rfl (lv_at hl 0 rfl) ?_
      refine lv_iload_n S.1 S.2.1 dL_law_223 rfl (lv_at hl 3 rfl) ?_
      refine lv_iconst (v := (nI 1)) S.1 S.2.1 dL_law_224 (by decide +kernel) ?_
      refine lv_iadd S.1 S.2.1 dL_law_225 ?_
      refine lv_topi (fun v29 e29 => ?_)
      obtain rfl : v29 = nI (i + 1) := e29.trans (nI_add _ _)
      refine va_sld S.1 S.2.1 hX hbl hbA hS (vp_in_nI (show i + 1 < L by omega) (by omega)) dL_law_226 ?_
      refine lv_topi (fun v30 e30 => ?_)
      obtain ⟨c32, d32, k32, dr32, hF32, hc32, hd32, hk32⟩ := wt_main hW
      refine r_cVp (As := [.int v30]) (rest := []) S hK hZ hP hS hl.1 0 (by decide) hF32 (C := RX7) rfl (c_X7_told l D cA ad t hI F hW v30) (cwV 1 S.2.2.2.2 gL_law_X7_told rfl rfl rfl (by decide +kernel) ⟨Nat.le_of_ble_eq_true rfl, Nat.le_of_ble_eq_true rfl⟩) rfl rfl (Nat.le_of_ble_eq_true rfl) ⟨by decide +kernel, by decide +kernel⟩ dL_law_227 (fun r31 hr31 => ?_)
      obtain ⟨hr31, hm31⟩ := hr31
      refine lv_pop S.1 S.2.1 dL_law_230 rfl ?_
      refine lv_aload_n S.1 S.2.1 dL_law_231 rfl (lv_at hl 2 rfl) ?_
      refine lv_aload_n S.1 S.2.1 dL_law_232 rfl (lv_at hl 0 rfl) ?_
      refine lv_iload_n S.1 S.2.1 dL_law_233 rfl (lv_at hl 3 rfl) ?_
      refine lv_iconst (v := (nI 1)) S.1 S.2.1 dL_law_234 (by decide +kernel) ?_
      refine lv_iadd S.1 S.2.1 dL_law_235 ?_
      refine lv_topi (fun v33 e33 => ?_)
      obtain rfl : v33 = nI (i + 1) := e33.trans (nI_add _ _)
      refine va_sld S.1 S.2.1 hX hbl hbA hS (vp_in_nI (show i + 1 < L by omega) (by omega)) dL_law_236 ?_
      refine lv_topi (fun v34 e34 => ?_)
      obtain ⟨ty36, kn36, no36, en36, at36, sa36, sd36, wr36, pl36, va36, hF36, hb36_1, hb36_2, hb36_3, hb36_4, hb36_5, hb36_6⟩ := wt_m hW
      refine r_cVp (As := [.int v34]) (rest := []) S hK hZ hP hS hl.1 58 (by decide) hF36 (C := RX8) rfl (c_X8_told l D cA ad t hI F hW v34) (cwV 1 S.2.2.2.2 gL_law_X8_told rfl rfl rfl (by decide +kernel) ⟨Nat.le_of_ble_eq_true rfl, Nat.le_of_ble_eq_true rfl⟩) rfl rfl (Nat.le_of_ble_eq_true rfl) ⟨by decide +kernel, by decide +kernel⟩ dL_law_237 (fun r35 hr35 => ?_)
      obtain ⟨hr35, hm35⟩ := hr35
      refine lv_pop S.1 S.2.1 dL_law_240 rfl ?_
      refine lv_goto (tgt := 841) S.1 S.2.1 dL_law_241 (by decide) ?_
      refine lv_iinc (v := (nI (i + 3))) (lv' := [(3, .int (nI (i + 3))), (0, .ref b), (1, .ref (ad 0)), (2, .ref (ad 58))]) S.1 S.2.1 dL_law_841 hl (k := 3) rfl (nI_add _ 3) (by decide) rfl (fun ls37 hl37 => ?_)
      refine lv_goto (tgt := 18) S.1 S.2.1 dL_law_844 (by decide) ?_
      exact ih (i + 3) F H locs (by omega) (by omega) hW hP hS hR ls37 (lv_sub hl37 [1, 2, 3, 0] rfl)
    by_cases hs7_4 : v6.toInt = 4
    · refine lv_tableIn (off := 212) (tgt := 244) S.1 S.2.1 dL_law_32 (by omega) (by omega) (by rw [hs7_4]; rfl) (by decide) ?_
      refine lv_aload_n S.1 S.2.1 dL_law_244 rfl (lv_at hl 1 rfl) ?_
      refine lv_aload_n S.1 S.2.1 dL_law_245 rfl (lv_at hl 0 rfl) ?_
      refine lv_iload_n S.1 S.2.1 dL_law_246 rfl (lv_at hl 3 rfl) ?_
      refine lv_iconst (v := (nI 1)) S.1 S.2.1 dL_law_247 (by decide +kernel) ?_
      refine lv_iadd S.1 S.2.1 dL_law_248 ?_
      refine lv_topi (fun v38 e38 => ?_)
      obtain rfl : v38 = nI (i + 1) := e38.trans (nI_add _ _)
      refine va_sld S.1 S.2.1 hX hbl hbA hS (vp_in_nI (show i + 1 < L by omega) (by omega)) dL_law_249 ?_
      refine lv_topi (fun v39 e39 => ?_)
      refine lv_aload_n S.1 S.2.1 dL_law_250 rfl (lv_at hl 0 rfl) ?_
      refine lv_iload_n S.1 S.2.1 dL_law_251 rfl (lv_at hl 3 rfl) ?_
      refine lv_iconst (v := (nI 2)) S.1 S.2.1 dL_law_252 (by decide +kernel) ?_
      refine lv_iadd S.1 S.2.1 dL_law_253 ?_
      refine lv_topi (fun v40 e40 => ?_)
      obtain rfl : v40 = nI (i + 2) := e40.trans (nI_add _ _)
      refine va_sld S.1 S.2.1 hX hbl hbA hS (vp_in_nI (show i + 2 < L by omega) (by omega)) dL_law_254 ?_
      refine lv_topi (fun v41 e41 => ?_)
      obtain ⟨c43, d43, k43, dr43, hF43, hc43, hd43, hk43⟩ := wt_main hW
      refine r_cVp (As := [.int v39, .int v41]) (rest := []) S hK hZ hP hS hl.1 0 (by decide) hF43 (C := RX7) rfl (c_X7_town l D cA ad t hI F hW v39 v41) (cwV 2 S.2.2.2.2 gL_law_X7_town rfl rfl rfl (by decide +kernel) ⟨Nat.le_of_ble_eq_true rfl, Nat.le_of_ble_eq_true rfl⟩) rfl rfl (Nat.le_of_ble_eq_true rfl) ⟨by decide +kernel, by decide +kernel⟩ dL_law_255 (fun r42 hr42 => ?_)
      obtain ⟨hr42, hm42⟩ := hr42
      refine lv_pop S.1 S.2.1 dL_law_258 rfl ?_
      refine lv_aload_n S.1 S.2.1 dL_law_259 rfl (lv_at hl 2 rfl) ?_
      refine lv_aload_n S.1 S.2.1 dL_law_260 rfl (lv_at hl 0 rfl) ?_
      refine lv_iload_n S.1 S.2.1 dL_law_261 rfl (lv_at hl 3 rfl) ?_
      refine lv_iconst (v := (nI 1)) S.1 S.2.1 dL_law_262 (by decide +kernel) ?_
      refine lv_iadd S.1 S.2.1 dL_law_263 ?_
      refine lv_topi (fun v44 e44 => ?_)
      obtain rfl : v44 = nI (i + 1) := e44.trans (nI_add _ _)
      refine va_sld S.1 S.2.1 hX hbl hbA hS (vp_in_nI (show i + 1 < L by omega) (by omega)) dL_law_264 ?_
      refine lv_topi (fun v45 e45 => ?_)
      refine lv_aload_n S.1 S.2.1 dL_law_265 rfl (lv_at hl 0 rfl) ?_
      refine lv_iload_n S.1 S.2.1 dL_law_266 rfl (lv_at hl 3 rfl) ?_
      refine lv_iconst (v := (nI 2)) S.1 S.2.1 dL_law_267 (by decide +kernel) ?_
      refine lv_iadd S.1 S.2.1 dL_law_268 ?_
      refine lv_topi (fun v46 e46 => ?_)
      obtain rfl : v46 = nI (i + 2) := e46.trans (nI_add _ _)
      refine va_sld S.1 S.2.1 hX hbl hbA hS (vp_in_nI (show i + 2 < L by omega) (by omega)) dL_law_269 ?_
      refine lv_topi (fun v47 e47 => ?_)
      obtain ⟨ty49, kn49, no49, en49, at49, sa49, sd49, wr49, pl49, va49, hF49, hb49_1, hb49_2, hb49_3, hb49_4, hb49_5, hb49_6⟩ := wt_m hW
      refine r_cVp (As := [.int v45, .int v47]) (rest := []) S hK hZ hP hS hl.1 58 (by decide) hF49 (C := RX8) rfl (c_X8_town l D cA ad t hI F hW v45 v47) (cwV 2 S.2.2.2.2 gL_law_X8_town rfl rfl rfl (by decide +kernel) ⟨Nat.le_of_ble_eq_true rfl, Nat.le_of_ble_eq_true rfl⟩) rfl rfl (Nat.le_of_ble_eq_true rfl) ⟨by decide +kernel, by decide +kernel⟩ dL_law_270 (fun r48 hr48 => ?_)
      obtain ⟨hr48, hm48⟩ := hr48
      refine lv_pop S.1 S.2.1 dL_law_273 rfl ?_
      refine lv_goto (tgt := 841) S.1 S.2.1 dL_law_274 (by decide) ?_
      refine lv_iinc (v := (nI (i + 3))) (lv' := [(3, .int (nI (i + 3))), (0, .ref b), (1, .ref (ad 0)), (2, .ref (ad 58))]) S.1 S.2.1 dL_law_841 hl (k := 3) rfl (nI_add _ 3) (by decide) rfl (fun ls50 hl50 => ?_)
      refine lv_goto (tgt := 18) S.1 S.2.1 dL_law_844 (by decide) ?_
      exact ih (i + 3) F H locs (by omega) (by omega) hW hP hS hR ls50 (lv_sub hl50 [1, 2, 3, 0] rfl)
    by_cases hs7_5 : v6.toInt = 5
    · refine lv_tableIn (off := 245) (tgt := 277) S.1 S.2.1 dL_law_32 (by omega) (by omega) (by rw [hs7_5]; rfl) (by decide) ?_
      refine lv_aload_n S.1 S.2.1 dL_law_277 rfl (lv_at hl 1 rfl) ?_
      refine lv_aload_n S.1 S.2.1 dL_law_278 rfl (lv_at hl 0 rfl) ?_
      refine lv_iload_n S.1 S.2.1 dL_law_279 rfl (lv_at hl 3 rfl) ?_
      refine lv_iconst (v := (nI 1)) S.1 S.2.1 dL_law_280 (by decide +kernel) ?_
      refine lv_iadd S.1 S.2.1 dL_law_281 ?_
      refine lv_topi (fun v51 e51 => ?_)
      obtain rfl : v51 = nI (i + 1) := e51.trans (nI_add _ _)
      refine va_sld S.1 S.2.1 hX hbl hbA hS (vp_in_nI (show i + 1 < L by omega) (by omega)) dL_law_282 ?_
      refine lv_topi (fun v52 e52 => ?_)
      refine lv_aload_n S.1 S.2.1 dL_law_283 rfl (lv_at hl 0 rfl) ?_
      refine lv_iload_n S.1 S.2.1 dL_law_284 rfl (lv_at hl 3 rfl) ?_
      refine lv_iconst (v := (nI 2)) S.1 S.2.1 dL_law_285 (by decide +kernel) ?_
      refine lv_iadd S.1 S.2.1 dL_law_286 ?_
      refine lv_topi (fun v53 e53 => ?_)
      obtain rfl : v53 = nI (i + 2) := e53.trans (nI_add _ _)
      refine va_sld S.1 S.2.1 hX hbl hbA hS (vp_in_nI (show i + 2 < L by omega) (by omega)) dL_law_287 ?_
      refine lv_topi (fun v54 e54 => ?_)
      obtain ⟨c56, d56, k56, dr56, hF56, hc56, hd56, hk56⟩ := wt_main hW
      refine r_cVp (As := [.int v52, .int v54]) (rest := []) S hK hZ hP hS hl.1 0 (by decide) hF56 (C := RX7) rfl (c_X7_road l D cA ad t hI F hW v52 v54) (cwV 2 S.2.2.2.2 gL_law_X7_road rfl rfl rfl (by decide +kernel) ⟨Nat.le_of_ble_eq_true rfl, Nat.le_of_ble_eq_true rfl⟩) rfl rfl (Nat.le_of_ble_eq_true rfl) ⟨by decide +kernel, by decide +kernel⟩ dL_law_288 (fun r55 hr55 => ?_)
      obtain ⟨hr55, hm55⟩ := hr55
      refine lv_pop S.1 S.2.1 dL_law_291 rfl ?_
      refine lv_aload_n S.1 S.2.1 dL_law_292 rfl (lv_at hl 2 rfl) ?_
      refine lv_aload_n S.1 S.2.1 dL_law_293 rfl (lv_at hl 0 rfl) ?_
      refine lv_iload_n S.1 S.2.1 dL_law_294 rfl (lv_at hl 3 rfl) ?_
      refine lv_iconst (v := (nI 1)) S.1 S.2.1 dL_law_295 (by decide +kernel) ?_
      refine lv_iadd S.1 S.2.1 dL_law_296 ?_
      refine lv_topi (fun v57 e57 => ?_)
      obtain rfl : v57 = nI (i + 1) := e57.trans (nI_add _ _)
      refine va_sld S.1 S.2.1 hX hbl hbA hS (vp_in_nI (show i + 1 < L by omega) (by omega)) dL_law_297 ?_
      refine lv_topi (fun v58 e58 => ?_)
      refine lv_aload_n S.1 S.2.1 dL_law_298 rfl (lv_at hl 0 rfl) ?_
      refine lv_iload_n S.1 S.2.1 dL_law_299 rfl (lv_at hl 3 rfl) ?_
      refine lv_iconst (v := (nI 2)) S.1 S.2.1 dL_law_300 (by decide +kernel) ?_
      refine lv_iadd S.1 S.2.1 dL_law_301 ?_
      refine lv_topi (fun v59 e59 => ?_)
      obtain rfl : v59 = nI (i + 2) := e59.trans (nI_add _ _)
      refine va_sld S.1 S.2.1 hX hbl hbA hS (vp_in_nI (show i + 2 < L by omega) (by omega)) dL_law_302 ?_
      refine lv_topi (fun v60 e60 => ?_)
      obtain ⟨ty62, kn62, no62, en62, at62, sa62, sd62, wr62, pl62, va62, hF62, hb62_1, hb62_2, hb62_3, hb62_4, hb62_5, hb62_6⟩ := wt_m hW
      refine r_cVp (As := [.int v58, .int v60]) (rest := []) S hK hZ hP hS hl.1 58 (by decide) hF62 (C := RX8) rfl (c_X8_road l D cA ad t hI F hW v58 v60) (cwV 2 S.2.2.2.2 gL_law_X8_road rfl rfl rfl (by decide +kernel) ⟨Nat.le_of_ble_eq_true rfl, Nat.le_of_ble_eq_true rfl⟩) rfl rfl (Nat.le_of_ble_eq_true rfl) ⟨by decide +kernel, by decide +kernel⟩ dL_law_303 (fun r61 hr61 => ?_)
      obtain ⟨hr61, hm61⟩ := hr61
      refine lv_pop S.1 S.2.1 dL_law_306 rfl ?_
      refine lv_goto (tgt := 841) S.1 S.2.1 dL_law_307 (by decide) ?_
      refine lv_iinc (v := (nI (i + 3))) (lv' := [(3, .int (nI (i + 3))), (0, .ref b), (1, .ref (ad 0)), (2, .ref (ad 58))]) S.1 S.2.1 dL_law_841 hl (k := 3) rfl (nI_add _ 3) (by decide) rfl (fun ls63 hl63 => ?_)
      refine lv_goto (tgt := 18) S.1 S.2.1 dL_law_844 (by decide) ?_
      exact ih (i + 3) F H locs (by omega) (by omega) hW hP hS hR ls63 (lv_sub hl63 [1, 2, 3, 0] rfl)
    by_cases hs7_6 : v6.toInt = 6
    · refine lv_tableIn (off := 278) (tgt := 310) S.1 S.2.1 dL_law_32 (by omega) (by omega) (by rw [hs7_6]; rfl) (by decide) ?_
      refine lv_aload_n S.1 S.2.1 dL_law_310 rfl (lv_at hl 1 rfl) ?_
      obtain ⟨c65, d65, k65, dr65, hF65, hc65, hd65, hk65⟩ := wt_main hW
      refine r_cVi (As := []) (rest := []) S hK hZ hP hS hl.1 0 (by decide) hF65 (C := RX7) rfl (c_X7_stay l D cA ad t hI F hW ) (cwV 0 S.2.2.2.2 gL_law_X7_stay rfl rfl rfl (by decide +kernel) ⟨Nat.le_of_ble_eq_true rfl, Nat.le_of_ble_eq_true rfl⟩) rfl rfl (Nat.le_of_ble_eq_true rfl) ⟨by decide +kernel, by decide +kernel⟩ dL_law_311 (fun r64 F64 H64 locs64 hr64 hP64 hS64 => ?_)
      obtain ⟨hW64, hFc64, hr64⟩ := hr64
      obtain ⟨hr64, hm64⟩ := hr64
      have hE64 : RR (AB ad F) (AB ad F64) := RR.refF hR hFc64 (by decide)
      refine lv_pop S.1 S.2.1 dL_law_314 rfl ?_
      refine lv_aload_n S.1 S.2.1 dL_law_315 rfl (lv_at hl 2 rfl) ?_
      obtain ⟨ty66, kn66, no66, en66, at66, sa66, sd66, wr66, pl66, va66, hF66, hb66_1, hb66_2, hb66_3, hb66_4, hb66_5, hb66_6⟩ := wt_m hW64
      have hA67 := fN_of (k := 14) (a := at66) hF66 rfl (by omega)
      have hL67 := fN_of (k := 1) (a := ty66) hF66 rfl (by omega)
      refine r_cVi (As := []) (rest := []) S hK hZ hP64 hS64 hl.1 58 (by decide) hF66 (C := RX8) rfl (c_X8_stay l D cA ad t hI F64 hW64 ) (cwV 0 S.2.2.2.2 gL_law_X8_stay rfl rfl rfl (by decide +kernel) ⟨Nat.le_of_ble_eq_true rfl, Nat.le_of_ble_eq_true rfl⟩) rfl rfl (Nat.le_of_ble_eq_true rfl) ⟨by decide +kernel, by decide +kernel⟩ dL_law_316 (fun r68 F68 H68 locs68 hr68 hP68 hS68 => ?_)
      obtain ⟨hW68, hFc68, hr68⟩ := hr68
      obtain ⟨hr68, hm68⟩ := hr68
      obtain ⟨ty70, kn70, no70, en70, at70, sa70, sd70, wr70, pl70, va70, hF70, hb70_1, hb70_2, hb70_3, hb70_4, hb70_5, hb70_6⟩ := wt_m hW68
      have hA71 := fN_of (k := 14) (a := at70) hF70 rfl (by omega)
      have hL71 := fN_of (k := 1) (a := ty70) hF70 rfl (by omega)
      have hq68 := hm68
      obtain ⟨x68, hx68, he68⟩ := hereB hW64
      have hT68 : r64 = r68 ∧ RR (AB ad F64) (AB ad F68) := by have q := stay_E' hE64 hx68 he68; rw [hm64, hq68] at q; exact q
      have hR68 : RR (AB ad F68) (AB ad F68) := RR.clsF hT68.2 hFc68 (by decide)
      refine lv_pop S.1 S.2.1 dL_law_319 rfl ?_
      refine lv_goto (tgt := 841) S.1 S.2.1 dL_law_320 (by decide) ?_
      refine lv_iinc (v := (nI (i + 3))) (lv' := [(3, .int (nI (i + 3))), (0, .ref b), (1, .ref (ad 0)), (2, .ref (ad 58))]) S.1 S.2.1 dL_law_841 hl (k := 3) rfl (nI_add _ 3) (by decide) rfl (fun ls72 hl72 => ?_)
      refine lv_goto (tgt := 18) S.1 S.2.1 dL_law_844 (by decide) ?_
      exact ih (i + 3) F68 H68 locs68 (by omega) (by omega) hW68 hP68 hS68 hR68 ls72 (lv_sub hl72 [1, 2, 3, 0] rfl)
    by_cases hs7_7 : v6.toInt = 7
    · refine lv_tableIn (off := 291) (tgt := 323) S.1 S.2.1 dL_law_32 (by omega) (by omega) (by rw [hs7_7]; rfl) (by decide) ?_
      refine lv_aload_n S.1 S.2.1 dL_law_323 rfl (lv_at hl 1 rfl) ?_
      refine lv_aload_n S.1 S.2.1 dL_law_324 rfl (lv_at hl 0 rfl) ?_
      refine lv_iload_n S.1 S.2.1 dL_law_325 rfl (lv_at hl 3 rfl) ?_
      refine lv_iconst (v := (nI 1)) S.1 S.2.1 dL_law_326 (by decide +kernel) ?_
      refine lv_iadd S.1 S.2.1 dL_law_327 ?_
      refine lv_topi (fun v73 e73 => ?_)
      obtain rfl : v73 = nI (i + 1) := e73.trans (nI_add _ _)
      refine va_sld S.1 S.2.1 hX hbl hbA hS (vp_in_nI (show i + 1 < L by omega) (by omega)) dL_law_328 ?_
      refine lv_topi (fun v74 e74 => ?_)
      obtain ⟨c76, d76, k76, dr76, hF76, hc76, hd76, hk76⟩ := wt_main hW
      refine r_cVi (As := [.int v74]) (rest := []) S hK hZ hP hS hl.1 0 (by decide) hF76 (C := RX7) rfl (c_X7_walk l D cA ad t hI F hW v74) (cwV 1 S.2.2.2.2 gL_law_X7_walk rfl rfl rfl (by decide +kernel) ⟨Nat.le_of_ble_eq_true rfl, Nat.le_of_ble_eq_true rfl⟩) rfl rfl (Nat.le_of_ble_eq_true rfl) ⟨by decide +kernel, by decide +kernel⟩ dL_law_329 (fun r75 F75 H75 locs75 hr75 hP75 hS75 => ?_)
      obtain ⟨hW75, hFc75, hr75⟩ := hr75
      obtain ⟨hr75, hm75⟩ := hr75
      have hE75 : RR (AB ad F) (AB ad F75) := RR.refF hR hFc75 (by decide)
      refine lv_pop S.1 S.2.1 dL_law_332 rfl ?_
      refine lv_aload_n S.1 S.2.1 dL_law_333 rfl (lv_at hl 2 rfl) ?_
      refine lv_aload_n S.1 S.2.1 dL_law_334 rfl (lv_at hl 0 rfl) ?_
      refine lv_iload_n S.1 S.2.1 dL_law_335 rfl (lv_at hl 3 rfl) ?_
      refine lv_iconst (v := (nI 1)) S.1 S.2.1 dL_law_336 (by decide +kernel) ?_
      refine lv_iadd S.1 S.2.1 dL_law_337 ?_
      refine lv_topi (fun v77 e77 => ?_)
      obtain rfl : v77 = nI (i + 1) := e77.trans (nI_add _ _)
      refine va_sld S.1 S.2.1 hX hbl hbA hS75 (vp_in_nI (show i + 1 < L by omega) (by omega)) dL_law_338 ?_
      refine lv_topi (fun v78 e78 => ?_)
      obtain ⟨ty79, kn79, no79, en79, at79, sa79, sd79, wr79, pl79, va79, hF79, hb79_1, hb79_2, hb79_3, hb79_4, hb79_5, hb79_6⟩ := wt_m hW75
      have hA80 := fN_of (k := 14) (a := at79) hF79 rfl (by omega)
      have hL80 := fN_of (k := 1) (a := ty79) hF79 rfl (by omega)
      refine r_cVi (As := [.int v78]) (rest := []) S hK hZ hP75 hS75 hl.1 58 (by decide) hF79 (C := RX8) rfl (c_X8_walk l D cA ad t hI F75 hW75 v78) (cwV 1 S.2.2.2.2 gL_law_X8_walk rfl rfl rfl (by decide +kernel) ⟨Nat.le_of_ble_eq_true rfl, Nat.le_of_ble_eq_true rfl⟩) rfl rfl (Nat.le_of_ble_eq_true rfl) ⟨by decide +kernel, by decide +kernel⟩ dL_law_339 (fun r81 F81 H81 locs81 hr81 hP81 hS81 => ?_)
      obtain ⟨hW81, hFc81, hr81⟩ := hr81
      obtain ⟨hr81, hm81⟩ := hr81
      obtain ⟨ty83, kn83, no83, en83, at83, sa83, sd83, wr83, pl83, va83, hF83, hb83_1, hb83_2, hb83_3, hb83_4, hb83_5, hb83_6⟩ := wt_m hW81
      have hA84 := fN_of (k := 14) (a := at83) hF83 rfl (by omega)
      have hL84 := fN_of (k := 1) (a := ty83) hF83 rfl (by omega)
      have hq81 := hm81
      rw [show v78 = v74 from e78.trans e74.symm] at hq81
      obtain ⟨x81, hx81, he81⟩ := hereB hW75
      have hT81 : r75 = r81 ∧ RR (AB ad F75) (AB ad F81) := by have q := walk_E hE75 hx81 he81 v74; rw [hm75, hq81] at q; exact q
      have hR81 : RR (AB ad F81) (AB ad F81) := RR.clsF hT81.2 hFc81 (by decide)
      refine lv_pop S.1 S.2.1 dL_law_342 rfl ?_
      refine lv_goto (tgt := 841) S.1 S.2.1 dL_law_343 (by decide) ?_
      refine lv_iinc (v := (nI (i + 3))) (lv' := [(3, .int (nI (i + 3))), (0, .ref b), (1, .ref (ad 0)), (2, .ref (ad 58))]) S.1 S.2.1 dL_law_841 hl (k := 3) rfl (nI_add _ 3) (by decide) rfl (fun ls85 hl85 => ?_)
      refine lv_goto (tgt := 18) S.1 S.2.1 dL_law_844 (by decide) ?_
      exact ih (i + 3) F81 H81 locs81 (by omega) (by omega) hW81 hP81 hS81 hR81 ls85 (lv_sub hl85 [1, 2, 3, 0] rfl)
    by_cases hs7_8 : v6.toInt = 8
    · refine lv_tableIn (off := 314) (tgt := 346) S.1 S.2.1 dL_law_32 (by omega) (by omega) (by rw [hs7_8]; rfl) (by decide) ?_
      refine lv_aload_n S.1 S.2.1 dL_law_346 rfl (lv_at hl 1 rfl) ?_
      refine lv_aload_n S.1 S.2.1 dL_law_347 rfl (lv_at hl 0 rfl) ?_
      refine lv_iload_n S.1 S.2.1 dL_law_348 rfl (lv_at hl 3 rfl) ?_
      refine lv_iconst (v := (nI 1)) S.1 S.2.1 dL_law_349 (by decide +kernel) ?_
      refine lv_iadd S.1 S.2.1 dL_law_350 ?_
      refine lv_topi (fun v86 e86 => ?_)
      obtain rfl : v86 = nI (i + 1) := e86.trans (nI_add _ _)
      refine va_sld S.1 S.2.1 hX hbl hbA hS (vp_in_nI (show i + 1 < L by omega) (by omega)) dL_law_351 ?_
      refine lv_topi (fun v87 e87 => ?_)
      refine lv_aload_n S.1 S.2.1 dL_law_352 rfl (lv_at hl 0 rfl) ?_
      refine lv_iload_n S.1 S.2.1 dL_law_353 rfl (lv_at hl 3 rfl) ?_
      refine lv_iconst (v := (nI 2)) S.1 S.2.1 dL_law_354 (by decide +kernel) ?_
      refine lv_iadd S.1 S.2.1 dL_law_355 ?_
      refine lv_topi (fun v88 e88 => ?_)
      obtain rfl : v88 = nI (i + 2) := e88.trans (nI_add _ _)
      refine va_sld S.1 S.2.1 hX hbl hbA hS (vp_in_nI (show i + 2 < L by omega) (by omega)) dL_law_356 ?_
      refine lv_topi (fun v89 e89 => ?_)
      refine lv_if_eq (tgt := 364) S.1 S.2.1 dL_law_357 (by decide) (fun c90 => ?_) (fun c90 => ?_)
      · skip
        have k91 := ci_eq rfl z_ti c90
        refine lv_iconst (v := (nI 0)) S.1 S.2.1 dL_law_364 (by decide +kernel) ?_
        obtain ⟨c93, d93, k93, dr93, hF93, hc93, hd93, hk93⟩ := wt_main hW
        refine r_cVi (As := [.int v87, .int (nI 0)]) (rest := []) S hK hZ hP hS hl.1 0 (by decide) hF93 (C := RX7) rfl (c_X7_war l D cA ad t hI F hW v87 (nI 0)) (cwV 2 S.2.2.2.2 gL_law_X7_war rfl rfl rfl (by decide +kernel) ⟨Nat.le_of_ble_eq_true rfl, Nat.le_of_ble_eq_true rfl⟩) rfl rfl (Nat.le_of_ble_eq_true rfl) ⟨by decide +kernel, by decide +kernel⟩ dL_law_365 (fun r92 F92 H92 locs92 hr92 hP92 hS92 => ?_)
        obtain ⟨hW92, hFc92, hr92⟩ := hr92
        obtain ⟨hr92, hm92⟩ := hr92
        have hE92 : RR (AB ad F) (AB ad F92) := RR.refF hR hFc92 (by decide)
        refine lv_pop S.1 S.2.1 dL_law_368 rfl ?_
        refine lv_aload_n S.1 S.2.1 dL_law_369 rfl (lv_at hl 2 rfl) ?_
        refine lv_aload_n S.1 S.2.1 dL_law_370 rfl (lv_at hl 0 rfl) ?_
        refine lv_iload_n S.1 S.2.1 dL_law_371 rfl (lv_at hl 3 rfl) ?_
        refine lv_iconst (v := (nI 1)) S.1 S.2.1 dL_law_372 (by decide +kernel) ?_
        refine lv_iadd S.1 S.2.1 dL_law_373 ?_
        refine lv_topi (fun v94 e94 => ?_)
        obtain rfl : v94 = nI (i + 1) := e94.trans (nI_add _ _)
        refine va_sld S.1 S.2.1 hX hbl hbA hS92 (vp_in_nI (show i + 1 < L by omega) (by omega)) dL_law_374 ?_
        refine lv_topi (fun v95 e95 => ?_)
        refine lv_aload_n S.1 S.2.1 dL_law_375 rfl (lv_at hl 0 rfl) ?_
        refine lv_iload_n S.1 S.2.1 dL_law_376 rfl (lv_at hl 3 rfl) ?_
        refine lv_iconst (v := (nI 2)) S.1 S.2.1 dL_law_377 (by decide +kernel) ?_
        refine lv_iadd S.1 S.2.1 dL_law_378 ?_
        refine lv_topi (fun v96 e96 => ?_)
        obtain rfl : v96 = nI (i + 2) := e96.trans (nI_add _ _)
        refine va_sld S.1 S.2.1 hX hbl hbA hS92 (vp_in_nI (show i + 2 < L by omega) (by omega)) dL_law_379 ?_
        refine lv_topi (fun v97 e97 => ?_)
        refine lv_if_eq (tgt := 387) S.1 S.2.1 dL_law_380 (by decide) (fun c98 => ?_) (fun c98 => absurd ((e97.trans e89.symm).trans c90) c98)
        have k99 := ci_eq rfl z_ti c98
        refine lv_iconst (v := (nI 0)) S.1 S.2.1 dL_law_387 (by decide +kernel) ?_
        obtain ⟨ty100, kn100, no100, en100, at100, sa100, sd100, wr100, pl100, va100, hF100, hb100_1, hb100_2, hb100_3, hb100_4, hb100_5, hb100_6⟩ := wt_m hW92
        have hA101 := fN_of (k := 14) (a := at100) hF100 rfl (by omega)
        have hL101 := fN_of (k := 1) (a := ty100) hF100 rfl (by omega)
        refine r_cVi (As := [.int v95, .int (nI 0)]) (rest := []) S hK hZ hP92 hS92 hl.1 58 (by decide) hF100 (C := RX8) rfl (c_X8_war l D cA ad t hI F92 hW92 v95 (nI 0)) (cwV 2 S.2.2.2.2 gL_law_X8_war rfl rfl rfl (by decide +kernel) ⟨Nat.le_of_ble_eq_true rfl, Nat.le_of_ble_eq_true rfl⟩) rfl rfl (Nat.le_of_ble_eq_true rfl) ⟨by decide +kernel, by decide +kernel⟩ dL_law_388 (fun r102 F102 H102 locs102 hr102 hP102 hS102 => ?_)
        obtain ⟨hW102, hFc102, hr102⟩ := hr102
        obtain ⟨hr102, hm102⟩ := hr102
        obtain ⟨ty104, kn104, no104, en104, at104, sa104, sd104, wr104, pl104, va104, hF104, hb104_1, hb104_2, hb104_3, hb104_4, hb104_5, hb104_6⟩ := wt_m hW102
        have hA105 := fN_of (k := 14) (a := at104) hF104 rfl (by omega)
        have hL105 := fN_of (k := 1) (a := ty104) hF104 rfl (by omega)
        have hq102 := hm102
        rw [show v95 = v87 from e95.trans e87.symm] at hq102
        have hT102 : r92 = r102 ∧ RR (AB ad F92) (AB ad F102) := by have q := war_E hE92 v87 (nI 0); rw [hm92, hq102] at q; exact q
        have hR102 : RR (AB ad F102) (AB ad F102) := RR.clsF hT102.2 hFc102 (by decide)
        refine lv_pop S.1 S.2.1 dL_law_391 rfl ?_
        refine lv_goto (tgt := 841) S.1 S.2.1 dL_law_392 (by decide) ?_
        refine lv_iinc (v := (nI (i + 3))) (lv' := [(3, .int (nI (i + 3))), (0, .ref b), (1, .ref (ad 0)), (2, .ref (ad 58))]) S.1 S.2.1 dL_law_841 hl (k := 3) rfl (nI_add _ 3) (by decide) rfl (fun ls106 hl106 => ?_)
        refine lv_goto (tgt := 18) S.1 S.2.1 dL_law_844 (by decide) ?_
        exact ih (i + 3) F102 H102 locs102 (by omega) (by omega) hW102 hP102 hS102 hR102 ls106 (lv_sub hl106 [1, 2, 3, 0] rfl)
      have k107 := ci_ne rfl z_ti c90
      refine lv_iconst (v := (nI 1)) S.1 S.2.1 dL_law_360 (by decide +kernel) ?_
      refine lv_goto (tgt := 365) S.1 S.2.1 dL_law_361 (by decide) ?_
      obtain ⟨c109, d109, k109, dr109, hF109, hc109, hd109, hk109⟩ := wt_main hW
      refine r_cVi (As := [.int v87, .int (nI 1)]) (rest := []) S hK hZ hP hS hl.1 0 (by decide) hF109 (C := RX7) rfl (c_X7_war l D cA ad t hI F hW v87 (nI 1)) (cwV 2 S.2.2.2.2 gL_law_X7_war rfl rfl rfl (by decide +kernel) ⟨Nat.le_of_ble_eq_true rfl, Nat.le_of_ble_eq_true rfl⟩) rfl rfl (Nat.le_of_ble_eq_true rfl) ⟨by decide +kernel, by decide +kernel⟩ dL_law_365 (fun r108 F108 H108 locs108 hr108 hP108 hS108 => ?_)
      obtain ⟨hW108, hFc108, hr108⟩ := hr108
      obtain ⟨hr108, hm108⟩ := hr108
      have hE108 : RR (AB ad F) (AB ad F108) := RR.refF hR hFc108 (by decide)
      refine lv_pop S.1 S.2.1 dL_law_368 rfl ?_
      refine lv_aload_n S.1 S.2.1 dL_law_369 rfl (lv_at hl 2 rfl) ?_
      refine lv_aload_n S.1 S.2.1 dL_law_370 rfl (lv_at hl 0 rfl) ?_
      refine lv_iload_n S.1 S.2.1 dL_law_371 rfl (lv_at hl 3 rfl) ?_
      refine lv_iconst (v := (nI 1)) S.1 S.2.1 dL_law_372 (by decide +kernel) ?_
      refine lv_iadd S.1 S.2.1 dL_law_373 ?_
      refine lv_topi (fun v110 e110 => ?_)
      obtain rfl : v110 = nI (i + 1) := e110.trans (nI_add _ _)
      refine va_sld S.1 S.2.1 hX hbl hbA hS108 (vp_in_nI (show i + 1 < L by omega) (by omega)) dL_law_374 ?_
      refine lv_topi (fun v111 e111 => ?_)
      refine lv_aload_n S.1 S.2.1 dL_law_375 rfl (lv_at hl 0 rfl) ?_
      refine lv_iload_n S.1 S.2.1 dL_law_376 rfl (lv_at hl 3 rfl) ?_
      refine lv_iconst (v := (nI 2)) S.1 S.2.1 dL_law_377 (by decide +kernel) ?_
      refine lv_iadd S.1 S.2.1 dL_law_378 ?_
      refine lv_topi (fun v112 e112 => ?_)
      obtain rfl : v112 = nI (i + 2) := e112.trans (nI_add _ _)
      refine va_sld S.1 S.2.1 hX hbl hbA hS108 (vp_in_nI (show i + 2 < L by omega) (by omega)) dL_law_379 ?_
      refine lv_topi (fun v113 e113 => ?_)
      refine lv_if_eq (tgt := 387) S.1 S.2.1 dL_law_380 (by decide) (fun c114 => absurd ((e89.trans e113.symm).trans c114) c90) (fun c114 => ?_)
      have k115 := ci_ne rfl z_ti c114
      refine lv_iconst (v := (nI 1)) S.1 S.2.1 dL_law_383 (by decide +kernel) ?_
      refine lv_goto (tgt := 388) S.1 S.2.1 dL_law_384 (by decide) ?_
      obtain ⟨ty116, kn116, no116, en116, at116, sa116, sd116, wr116, pl116, va116, hF116, hb116_1, hb116_2, hb116_3, hb116_4, hb116_5, hb116_6⟩ := wt_m hW108
      have hA117 := fN_of (k := 14) (a := at116) hF116 rfl (by omega)
      have hL117 := fN_of (k := 1) (a := ty116) hF116 rfl (by omega)
      refine r_cVi (As := [.int v111, .int (nI 1)]) (rest := []) S hK hZ hP108 hS108 hl.1 58 (by decide) hF116 (C := RX8) rfl (c_X8_war l D cA ad t hI F108 hW108 v111 (nI 1)) (cwV 2 S.2.2.2.2 gL_law_X8_war rfl rfl rfl (by decide +kernel) ⟨Nat.le_of_ble_eq_true rfl, Nat.le_of_ble_eq_true rfl⟩) rfl rfl (Nat.le_of_ble_eq_true rfl) ⟨by decide +kernel, by decide +kernel⟩ dL_law_388 (fun r118 F118 H118 locs118 hr118 hP118 hS118 => ?_)
      obtain ⟨hW118, hFc118, hr118⟩ := hr118
      obtain ⟨hr118, hm118⟩ := hr118
      obtain ⟨ty120, kn120, no120, en120, at120, sa120, sd120, wr120, pl120, va120, hF120, hb120_1, hb120_2, hb120_3, hb120_4, hb120_5, hb120_6⟩ := wt_m hW118
      have hA121 := fN_of (k := 14) (a := at120) hF120 rfl (by omega)
      have hL121 := fN_of (k := 1) (a := ty120) hF120 rfl (by omega)
      have hq118 := hm118
      rw [show v111 = v87 from e111.trans e87.symm] at hq118
      have hT118 : r108 = r118 ∧ RR (AB ad F108) (AB ad F118) := by have q := war_E hE108 v87 (nI 1); rw [hm108, hq118] at q; exact q
      have hR118 : RR (AB ad F118) (AB ad F118) := RR.clsF hT118.2 hFc118 (by decide)
      refine lv_pop S.1 S.2.1 dL_law_391 rfl ?_
      refine lv_goto (tgt := 841) S.1 S.2.1 dL_law_392 (by decide) ?_
      refine lv_iinc (v := (nI (i + 3))) (lv' := [(3, .int (nI (i + 3))), (0, .ref b), (1, .ref (ad 0)), (2, .ref (ad 58))]) S.1 S.2.1 dL_law_841 hl (k := 3) rfl (nI_add _ 3) (by decide) rfl (fun ls122 hl122 => ?_)
      refine lv_goto (tgt := 18) S.1 S.2.1 dL_law_844 (by decide) ?_
      exact ih (i + 3) F118 H118 locs118 (by omega) (by omega) hW118 hP118 hS118 hR118 ls122 (lv_sub hl122 [1, 2, 3, 0] rfl)
    by_cases hs7_9 : v6.toInt = 9
    · refine lv_tableIn (off := 363) (tgt := 395) S.1 S.2.1 dL_law_32 (by omega) (by omega) (by rw [hs7_9]; rfl) (by decide) ?_
      refine lv_aload_n S.1 S.2.1 dL_law_395 rfl (lv_at hl 1 rfl) ?_
      obtain ⟨c124, d124, k124, dr124, hF124, hc124, hd124, hk124⟩ := wt_main hW
      refine r_cVi (As := []) (rest := []) S hK hZ hP hS hl.1 0 (by decide) hF124 (C := RX7) rfl (c_X7_home l D cA ad t hI F hW ) (cwV 0 S.2.2.2.2 gL_law_X7_home rfl rfl rfl (by decide +kernel) ⟨Nat.le_of_ble_eq_true rfl, Nat.le_of_ble_eq_true rfl⟩) rfl rfl (Nat.le_of_ble_eq_true rfl) ⟨by decide +kernel, by decide +kernel⟩ dL_law_396 (fun r123 F123 H123 locs123 hr123 hP123 hS123 => ?_)
      obtain ⟨hW123, hFc123, hr123⟩ := hr123
      obtain ⟨hr123, hm123⟩ := hr123
      have hE123 : RR (AB ad F) (AB ad F123) := RR.refF hR hFc123 (by decide)
      refine lv_pop S.1 S.2.1 dL_law_399 rfl ?_
      refine lv_aload_n S.1 S.2.1 dL_law_400 rfl (lv_at hl 2 rfl) ?_
      obtain ⟨ty125, kn125, no125, en125, at125, sa125, sd125, wr125, pl125, va125, hF125, hb125_1, hb125_2, hb125_3, hb125_4, hb125_5, hb125_6⟩ := wt_m hW123
      have hA126 := fN_of (k := 14) (a := at125) hF125 rfl (by omega)
      have hL126 := fN_of (k := 1) (a := ty125) hF125 rfl (by omega)
      refine r_cVi (As := []) (rest := []) S hK hZ hP123 hS123 hl.1 58 (by decide) hF125 (C := RX8) rfl (c_X8_home l D cA ad t hI F123 hW123 ) (cwV 0 S.2.2.2.2 gL_law_X8_home rfl rfl rfl (by decide +kernel) ⟨Nat.le_of_ble_eq_true rfl, Nat.le_of_ble_eq_true rfl⟩) rfl rfl (Nat.le_of_ble_eq_true rfl) ⟨by decide +kernel, by decide +kernel⟩ dL_law_401 (fun r127 F127 H127 locs127 hr127 hP127 hS127 => ?_)
      obtain ⟨hW127, hFc127, hr127⟩ := hr127
      obtain ⟨hr127, hm127⟩ := hr127
      obtain ⟨ty129, kn129, no129, en129, at129, sa129, sd129, wr129, pl129, va129, hF129, hb129_1, hb129_2, hb129_3, hb129_4, hb129_5, hb129_6⟩ := wt_m hW127
      have hA130 := fN_of (k := 14) (a := at129) hF129 rfl (by omega)
      have hL130 := fN_of (k := 1) (a := ty129) hF129 rfl (by omega)
      have hq127 := hm127
      have hT127 : r123 = r127 ∧ RR (AB ad F123) (AB ad F127) := by have q := home_E hE123; rw [hm123, hq127] at q; exact q
      have hR127 : RR (AB ad F127) (AB ad F127) := RR.clsF hT127.2 hFc127 (by decide)
      refine lv_pop S.1 S.2.1 dL_law_404 rfl ?_
      refine lv_goto (tgt := 841) S.1 S.2.1 dL_law_405 (by decide) ?_
      refine lv_iinc (v := (nI (i + 3))) (lv' := [(3, .int (nI (i + 3))), (0, .ref b), (1, .ref (ad 0)), (2, .ref (ad 58))]) S.1 S.2.1 dL_law_841 hl (k := 3) rfl (nI_add _ 3) (by decide) rfl (fun ls131 hl131 => ?_)
      refine lv_goto (tgt := 18) S.1 S.2.1 dL_law_844 (by decide) ?_
      exact ih (i + 3) F127 H127 locs127 (by omega) (by omega) hW127 hP127 hS127 hR127 ls131 (lv_sub hl131 [1, 2, 3, 0] rfl)
    by_cases hs7_10 : v6.toInt = 10
    · refine lv_tableIn (off := 376) (tgt := 408) S.1 S.2.1 dL_law_32 (by omega) (by omega) (by rw [hs7_10]; rfl) (by decide) ?_
      refine lv_aload_n S.1 S.2.1 dL_law_408 rfl (lv_at hl 1 rfl) ?_
      refine lv_aload_n S.1 S.2.1 dL_law_409 rfl (lv_at hl 0 rfl) ?_
      refine lv_iload_n S.1 S.2.1 dL_law_410 rfl (lv_at hl 3 rfl) ?_
      refine lv_iconst (v := (nI 1)) S.1 S.2.1 dL_law_411 (by decide +kernel) ?_
      refine lv_iadd S.1 S.2.1 dL_law_412 ?_
      refine lv_topi (fun v132 e132 => ?_)
      obtain rfl : v132 = nI (i + 1) := e132.trans (nI_add _ _)
      refine va_sld S.1 S.2.1 hX hbl hbA hS (vp_in_nI (show i + 1 < L by omega) (by omega)) dL_law_413 ?_
      refine lv_topi (fun v133 e133 => ?_)
      obtain ⟨c135, d135, k135, dr135, hF135, hc135, hd135, hk135⟩ := wt_main hW
      refine r_cVi (As := [.int v133]) (rest := []) S hK hZ hP hS hl.1 0 (by decide) hF135 (C := RX7) rfl (c_X7_drift l D cA ad t hI F hW v133) (cwV 1 S.2.2.2.2 gL_law_X7_drift rfl rfl rfl (by decide +kernel) ⟨Nat.le_of_ble_eq_true rfl, Nat.le_of_ble_eq_true rfl⟩) rfl rfl (Nat.le_of_ble_eq_true rfl) ⟨by decide +kernel, by decide +kernel⟩ dL_law_414 (fun r134 F134 H134 locs134 hr134 hP134 hS134 => ?_)
      obtain ⟨hW134, hFc134, hr134⟩ := hr134
      obtain ⟨hr134, hm134⟩ := hr134
      have hE134 : RR (AB ad F) (AB ad F134) := RR.refF hR hFc134 (by decide)
      refine lv_pop S.1 S.2.1 dL_law_417 rfl ?_
      refine lv_aload_n S.1 S.2.1 dL_law_418 rfl (lv_at hl 2 rfl) ?_
      refine lv_aload_n S.1 S.2.1 dL_law_419 rfl (lv_at hl 0 rfl) ?_
      refine lv_iload_n S.1 S.2.1 dL_law_420 rfl (lv_at hl 3 rfl) ?_
      refine lv_iconst (v := (nI 1)) S.1 S.2.1 dL_law_421 (by decide +kernel) ?_
      refine lv_iadd S.1 S.2.1 dL_law_422 ?_
      refine lv_topi (fun v136 e136 => ?_)
      obtain rfl : v136 = nI (i + 1) := e136.trans (nI_add _ _)
      refine va_sld S.1 S.2.1 hX hbl hbA hS134 (vp_in_nI (show i + 1 < L by omega) (by omega)) dL_law_423 ?_
      refine lv_topi (fun v137 e137 => ?_)
      obtain ⟨ty138, kn138, no138, en138, at138, sa138, sd138, wr138, pl138, va138, hF138, hb138_1, hb138_2, hb138_3, hb138_4, hb138_5, hb138_6⟩ := wt_m hW134
      have hA139 := fN_of (k := 14) (a := at138) hF138 rfl (by omega)
      have hL139 := fN_of (k := 1) (a := ty138) hF138 rfl (by omega)
      refine r_cVi (As := [.int v137]) (rest := []) S hK hZ hP134 hS134 hl.1 58 (by decide) hF138 (C := RX8) rfl (c_X8_drift l D cA ad t hI F134 hW134 v137) (cwV 1 S.2.2.2.2 gL_law_X8_drift rfl rfl rfl (by decide +kernel) ⟨Nat.le_of_ble_eq_true rfl, Nat.le_of_ble_eq_true rfl⟩) rfl rfl (Nat.le_of_ble_eq_true rfl) ⟨by decide +kernel, by decide +kernel⟩ dL_law_424 (fun r140 F140 H140 locs140 hr140 hP140 hS140 => ?_)
      obtain ⟨hW140, hFc140, hr140⟩ := hr140
      obtain ⟨hr140, hm140⟩ := hr140
      obtain ⟨ty142, kn142, no142, en142, at142, sa142, sd142, wr142, pl142, va142, hF142, hb142_1, hb142_2, hb142_3, hb142_4, hb142_5, hb142_6⟩ := wt_m hW140
      have hA143 := fN_of (k := 14) (a := at142) hF142 rfl (by omega)
      have hL143 := fN_of (k := 1) (a := ty142) hF142 rfl (by omega)
      have hq140 := hm140
      rw [show v137 = v133 from e137.trans e133.symm] at hq140
      obtain ⟨x140, hx140, he140⟩ := hereB hW134
      have hT140 : r134 = r140 ∧ RR (AB ad F134) (AB ad F140) := by have q := drift_E hE134 hx140 he140 v133; rw [hm134, hq140] at q; exact q
      have hR140 : RR (AB ad F140) (AB ad F140) := RR.clsF hT140.2 hFc140 (by decide)
      refine lv_pop S.1 S.2.1 dL_law_427 rfl ?_
      refine lv_goto (tgt := 841) S.1 S.2.1 dL_law_428 (by decide) ?_
      refine lv_iinc (v := (nI (i + 3))) (lv' := [(3, .int (nI (i + 3))), (0, .ref b), (1, .ref (ad 0)), (2, .ref (ad 58))]) S.1 S.2.1 dL_law_841 hl (k := 3) rfl (nI_add _ 3) (by decide) rfl (fun ls144 hl144 => ?_)
      refine lv_goto (tgt := 18) S.1 S.2.1 dL_law_844 (by decide) ?_
      exact ih (i + 3) F140 H140 locs140 (by omega) (by omega) hW140 hP140 hS140 hR140 ls144 (lv_sub hl144 [1, 2, 3, 0] rfl)
    by_cases hs7_11 : v6.toInt = 11
    · refine lv_tableIn (off := 399) (tgt := 431) S.1 S.2.1 dL_law_32 (by omega) (by omega) (by rw [hs7_11]; rfl) (by decide) ?_
      refine lv_aload_n S.1 S.2.1 dL_law_431 rfl (lv_at hl 1 rfl) ?_
      obtain ⟨c146, d146, k146, dr146, hF146, hc146, hd146, hk146⟩ := wt_main hW
      refine r_cVi (As := []) (rest := []) S hK hZ hP hS hl.1 0 (by decide) hF146 (C := RX7) rfl (c_X7_undo l D cA ad t hI F hW ) (cwV 0 S.2.2.2.2 gL_law_X7_undo rfl rfl rfl (by decide +kernel) ⟨Nat.le_of_ble_eq_true rfl, Nat.le_of_ble_eq_true rfl⟩) rfl rfl (Nat.le_of_ble_eq_true rfl) ⟨by decide +kernel, by decide +kernel⟩ dL_law_432 (fun r145 F145 H145 locs145 hr145 hP145 hS145 => ?_)
      obtain ⟨hW145, hFc145, hr145⟩ := hr145
      obtain ⟨hr145, hm145⟩ := hr145
      have hE145 : RR (AB ad F) (AB ad F145) := RR.refF hR hFc145 (by decide)
      refine lv_pop S.1 S.2.1 dL_law_435 rfl ?_
      refine lv_aload_n S.1 S.2.1 dL_law_436 rfl (lv_at hl 2 rfl) ?_
      obtain ⟨ty147, kn147, no147, en147, at147, sa147, sd147, wr147, pl147, va147, hF147, hb147_1, hb147_2, hb147_3, hb147_4, hb147_5, hb147_6⟩ := wt_m hW145
      have hA148 := fN_of (k := 14) (a := at147) hF147 rfl (by omega)
      have hL148 := fN_of (k := 1) (a := ty147) hF147 rfl (by omega)
      refine r_cVi (As := []) (rest := []) S hK hZ hP145 hS145 hl.1 58 (by decide) hF147 (C := RX8) rfl (c_X8_undo l D cA ad t hI F145 hW145 ) (cwV 0 S.2.2.2.2 gL_law_X8_undo rfl rfl rfl (by decide +kernel) ⟨Nat.le_of_ble_eq_true rfl, Nat.le_of_ble_eq_true rfl⟩) rfl rfl (Nat.le_of_ble_eq_true rfl) ⟨by decide +kernel, by decide +kernel⟩ dL_law_437 (fun r149 F149 H149 locs149 hr149 hP149 hS149 => ?_)
      obtain ⟨hW149, hFc149, hr149⟩ := hr149
      obtain ⟨hr149, hm149⟩ := hr149
      obtain ⟨ty151, kn151, no151, en151, at151, sa151, sd151, wr151, pl151, va151, hF151, hb151_1, hb151_2, hb151_3, hb151_4, hb151_5, hb151_6⟩ := wt_m hW149
      have hA152 := fN_of (k := 14) (a := at151) hF151 rfl (by omega)
      have hL152 := fN_of (k := 1) (a := ty151) hF151 rfl (by omega)
      have hq149 := hm149
      have hT149 : r145 = r149 ∧ RR (AB ad F145) (AB ad F149) := by have q := undo_E hE145; rw [hm145, hq149] at q; exact q
      have hR149 : RR (AB ad F149) (AB ad F149) := RR.clsF hT149.2 hFc149 (by decide)
      refine lv_pop S.1 S.2.1 dL_law_440 rfl ?_
      refine lv_goto (tgt := 841) S.1 S.2.1 dL_law_441 (by decide) ?_
      refine lv_iinc (v := (nI (i + 3))) (lv' := [(3, .int (nI (i + 3))), (0, .ref b), (1, .ref (ad 0)), (2, .ref (ad 58))]) S.1 S.2.1 dL_law_841 hl (k := 3) rfl (nI_add _ 3) (by decide) rfl (fun ls153 hl153 => ?_)
      refine lv_goto (tgt := 18) S.1 S.2.1 dL_law_844 (by decide) ?_
      exact ih (i + 3) F149 H149 locs149 (by omega) (by omega) hW149 hP149 hS149 hR149 ls153 (lv_sub hl153 [1, 2, 3, 0] rfl)
    by_cases hs7_12 : v6.toInt = 12
    · refine lv_tableIn (off := 412) (tgt := 444) S.1 S.2.1 dL_law_32 (by omega) (by omega) (by rw [hs7_12]; rfl) (by decide) ?_
      refine lv_aload_n S.1 S.2.1 dL_law_444 rfl (lv_at hl 1 rfl) ?_
      refine lv_aload_n S.1 S.2.1 dL_law_445 rfl (lv_at hl 0 rfl) ?_
      refine lv_iload_n S.1 S.2.1 dL_law_446 rfl (lv_at hl 3 rfl) ?_
      refine lv_iconst (v := (nI 1)) S.1 S.2.1 dL_law_447 (by decide +kernel) ?_
      refine lv_iadd S.1 S.2.1 dL_law_448 ?_
      refine lv_topi (fun v154 e154 => ?_)
      obtain rfl : v154 = nI (i + 1) := e154.trans (nI_add _ _)
      refine va_sld S.1 S.2.1 hX hbl hbA hS (vp_in_nI (show i + 1 < L by omega) (by omega)) dL_law_449 ?_
      refine lv_topi (fun v155 e155 => ?_)
      obtain ⟨c157, d157, k157, dr157, hF157, hc157, hd157, hk157⟩ := wt_main hW
      refine r_cVp (As := [.int v155]) (rest := []) S hK hZ hP hS hl.1 0 (by decide) hF157 (C := RX7) rfl (c_X7_may l D cA ad t hI F hW v155) (cwV 1 S.2.2.2.2 gL_law_X7_may rfl rfl rfl (by decide +kernel) ⟨Nat.le_of_ble_eq_true rfl, Nat.le_of_ble_eq_true rfl⟩) rfl rfl (Nat.le_of_ble_eq_true rfl) ⟨by decide +kernel, by decide +kernel⟩ dL_law_450 (fun r156 hr156 => ?_)
      obtain ⟨hr156, hm156⟩ := hr156
      refine lv_pop S.1 S.2.1 dL_law_453 rfl ?_
      refine lv_aload_n S.1 S.2.1 dL_law_454 rfl (lv_at hl 2 rfl) ?_
      refine lv_aload_n S.1 S.2.1 dL_law_455 rfl (lv_at hl 0 rfl) ?_
      refine lv_iload_n S.1 S.2.1 dL_law_456 rfl (lv_at hl 3 rfl) ?_
      refine lv_iconst (v := (nI 1)) S.1 S.2.1 dL_law_457 (by decide +kernel) ?_
      refine lv_iadd S.1 S.2.1 dL_law_458 ?_
      refine lv_topi (fun v158 e158 => ?_)
      obtain rfl : v158 = nI (i + 1) := e158.trans (nI_add _ _)
      refine va_sld S.1 S.2.1 hX hbl hbA hS (vp_in_nI (show i + 1 < L by omega) (by omega)) dL_law_459 ?_
      refine lv_topi (fun v159 e159 => ?_)
      obtain ⟨ty161, kn161, no161, en161, at161, sa161, sd161, wr161, pl161, va161, hF161, hb161_1, hb161_2, hb161_3, hb161_4, hb161_5, hb161_6⟩ := wt_m hW
      refine r_cVp (As := [.int v159]) (rest := []) S hK hZ hP hS hl.1 58 (by decide) hF161 (C := RX8) rfl (c_X8_may l D cA ad t hI F hW v159) (cwV 1 S.2.2.2.2 gL_law_X8_may rfl rfl rfl (by decide +kernel) ⟨Nat.le_of_ble_eq_true rfl, Nat.le_of_ble_eq_true rfl⟩) rfl rfl (Nat.le_of_ble_eq_true rfl) ⟨by decide +kernel, by decide +kernel⟩ dL_law_460 (fun r160 hr160 => ?_)
      obtain ⟨hr160, hm160⟩ := hr160
      refine lv_pop S.1 S.2.1 dL_law_463 rfl ?_
      refine lv_goto (tgt := 841) S.1 S.2.1 dL_law_464 (by decide) ?_
      refine lv_iinc (v := (nI (i + 3))) (lv' := [(3, .int (nI (i + 3))), (0, .ref b), (1, .ref (ad 0)), (2, .ref (ad 58))]) S.1 S.2.1 dL_law_841 hl (k := 3) rfl (nI_add _ 3) (by decide) rfl (fun ls162 hl162 => ?_)
      refine lv_goto (tgt := 18) S.1 S.2.1 dL_law_844 (by decide) ?_
      exact ih (i + 3) F H locs (by omega) (by omega) hW hP hS hR ls162 (lv_sub hl162 [1, 2, 3, 0] rfl)
    by_cases hs7_13 : v6.toInt = 13
    · refine lv_tableIn (off := 435) (tgt := 467) S.1 S.2.1 dL_law_32 (by omega) (by omega) (by rw [hs7_13]; rfl) (by decide) ?_
      refine lv_aload_n S.1 S.2.1 dL_law_467 rfl (lv_at hl 1 rfl) ?_
      refine lv_aload_n S.1 S.2.1 dL_law_468 rfl (lv_at hl 0 rfl) ?_
      refine lv_iload_n S.1 S.2.1 dL_law_469 rfl (lv_at hl 3 rfl) ?_
      refine lv_iconst (v := (nI 1)) S.1 S.2.1 dL_law_470 (by decide +kernel) ?_
      refine lv_iadd S.1 S.2.1 dL_law_471 ?_
      refine lv_topi (fun v163 e163 => ?_)
      obtain rfl : v163 = nI (i + 1) := e163.trans (nI_add _ _)
      refine va_sld S.1 S.2.1 hX hbl hbA hS (vp_in_nI (show i + 1 < L by omega) (by omega)) dL_law_472 ?_
      refine lv_topi (fun v164 e164 => ?_)
      obtain ⟨c166, d166, k166, dr166, hF166, hc166, hd166, hk166⟩ := wt_main hW
      refine r_cVi (As := [.int v164]) (rest := []) S hK hZ hP hS hl.1 0 (by decide) hF166 (C := RX7) rfl (c_X7_reach l D cA ad t hI F hW v164) (cwV 1 S.2.2.2.2 gL_law_X7_reach rfl rfl rfl (by decide +kernel) ⟨Nat.le_of_ble_eq_true rfl, Nat.le_of_ble_eq_true rfl⟩) rfl rfl (Nat.le_of_ble_eq_true rfl) ⟨by decide +kernel, by decide +kernel⟩ dL_law_473 (fun r165 F165 H165 locs165 hr165 hP165 hS165 => ?_)
      obtain ⟨hW165, hFc165, hr165⟩ := hr165
      obtain ⟨hr165, hm165⟩ := hr165
      have hE165 : RR (AB ad F) (AB ad F165) := RR.refF hR hFc165 (by decide)
      have hR165 : RR (AB ad F165) (AB ad F165) := RR.bothF hR hFc165 (by decide) (by decide)
      refine lv_pop S.1 S.2.1 dL_law_476 rfl ?_
      refine lv_aload_n S.1 S.2.1 dL_law_477 rfl (lv_at hl 2 rfl) ?_
      refine lv_aload_n S.1 S.2.1 dL_law_478 rfl (lv_at hl 0 rfl) ?_
      refine lv_iload_n S.1 S.2.1 dL_law_479 rfl (lv_at hl 3 rfl) ?_
      refine lv_iconst (v := (nI 1)) S.1 S.2.1 dL_law_480 (by decide +kernel) ?_
      refine lv_iadd S.1 S.2.1 dL_law_481 ?_
      refine lv_topi (fun v167 e167 => ?_)
      obtain rfl : v167 = nI (i + 1) := e167.trans (nI_add _ _)
      refine va_sld S.1 S.2.1 hX hbl hbA hS165 (vp_in_nI (show i + 1 < L by omega) (by omega)) dL_law_482 ?_
      refine lv_topi (fun v168 e168 => ?_)
      obtain ⟨ty170, kn170, no170, en170, at170, sa170, sd170, wr170, pl170, va170, hF170, hb170_1, hb170_2, hb170_3, hb170_4, hb170_5, hb170_6⟩ := wt_m hW165
      refine r_cVp (As := [.int v168]) (rest := []) S hK hZ hP165 hS165 hl.1 58 (by decide) hF170 (C := RX8) rfl (c_X8_reach l D cA ad t hI F165 hW165 v168) (cwV 1 S.2.2.2.2 gL_law_X8_reach rfl rfl rfl (by decide +kernel) ⟨Nat.le_of_ble_eq_true rfl, Nat.le_of_ble_eq_true rfl⟩) rfl rfl (Nat.le_of_ble_eq_true rfl) ⟨by decide +kernel, by decide +kernel⟩ dL_law_483 (fun r169 hr169 => ?_)
      obtain ⟨hr169, hm169⟩ := hr169
      refine lv_pop S.1 S.2.1 dL_law_486 rfl ?_
      refine lv_goto (tgt := 841) S.1 S.2.1 dL_law_487 (by decide) ?_
      refine lv_iinc (v := (nI (i + 3))) (lv' := [(3, .int (nI (i + 3))), (0, .ref b), (1, .ref (ad 0)), (2, .ref (ad 58))]) S.1 S.2.1 dL_law_841 hl (k := 3) rfl (nI_add _ 3) (by decide) rfl (fun ls171 hl171 => ?_)
      refine lv_goto (tgt := 18) S.1 S.2.1 dL_law_844 (by decide) ?_
      exact ih (i + 3) F165 H165 locs165 (by omega) (by omega) hW165 hP165 hS165 hR165 ls171 (lv_sub hl171 [1, 2, 3, 0] rfl)
    by_cases hs7_14 : v6.toInt = 14
    · refine lv_tableIn (off := 458) (tgt := 490) S.1 S.2.1 dL_law_32 (by omega) (by omega) (by rw [hs7_14]; rfl) (by decide) ?_
      refine lv_aload_n S.1 S.2.1 dL_law_490 rfl (lv_at hl 1 rfl) ?_
      refine lv_aload_n S.1 S.2.1 dL_law_491 rfl (lv_at hl 0 rfl) ?_
      refine lv_iload_n S.1 S.2.1 dL_law_492 rfl (lv_at hl 3 rfl) ?_
      refine lv_iconst (v := (nI 1)) S.1 S.2.1 dL_law_493 (by decide +kernel) ?_
      refine lv_iadd S.1 S.2.1 dL_law_494 ?_
      refine lv_topi (fun v172 e172 => ?_)
      obtain rfl : v172 = nI (i + 1) := e172.trans (nI_add _ _)
      refine va_sld S.1 S.2.1 hX hbl hbA hS (vp_in_nI (show i + 1 < L by omega) (by omega)) dL_law_495 ?_
      refine lv_topi (fun v173 e173 => ?_)
      refine lv_aload_n S.1 S.2.1 dL_law_496 rfl (lv_at hl 0 rfl) ?_
      refine lv_iload_n S.1 S.2.1 dL_law_497 rfl (lv_at hl 3 rfl) ?_
      refine lv_iconst (v := (nI 2)) S.1 S.2.1 dL_law_498 (by decide +kernel) ?_
      refine lv_iadd S.1 S.2.1 dL_law_499 ?_
      refine lv_topi (fun v174 e174 => ?_)
      obtain rfl : v174 = nI (i + 2) := e174.trans (nI_add _ _)
      refine va_sld S.1 S.2.1 hX hbl hbA hS (vp_in_nI (show i + 2 < L by omega) (by omega)) dL_law_500 ?_
      refine lv_topi (fun v175 e175 => ?_)
      obtain ⟨c177, d177, k177, dr177, hF177, hc177, hd177, hk177⟩ := wt_main hW
      refine r_cVi (As := [.int v173, .int v175]) (rest := []) S hK hZ hP hS hl.1 0 (by decide) hF177 (C := RX7) rfl (c_X7_best l D cA ad t hI F hW v173 v175) (cwV 2 S.2.2.2.2 gL_law_X7_best rfl rfl rfl (by decide +kernel) ⟨Nat.le_of_ble_eq_true rfl, Nat.le_of_ble_eq_true rfl⟩) rfl rfl (Nat.le_of_ble_eq_true rfl) ⟨by decide +kernel, by decide +kernel⟩ dL_law_501 (fun r176 F176 H176 locs176 hr176 hP176 hS176 => ?_)
      obtain ⟨hW176, hFc176, hr176⟩ := hr176
      have hR176 : RR (AB ad F176) (AB ad F176) := RR.bothF hR hFc176 (by decide) (by decide)
      refine lv_pop S.1 S.2.1 dL_law_504 rfl ?_
      refine lv_aload_n S.1 S.2.1 dL_law_505 rfl (lv_at hl 2 rfl) ?_
      refine lv_aload_n S.1 S.2.1 dL_law_506 rfl (lv_at hl 0 rfl) ?_
      refine lv_iload_n S.1 S.2.1 dL_law_507 rfl (lv_at hl 3 rfl) ?_
      refine lv_iconst (v := (nI 1)) S.1 S.2.1 dL_law_508 (by decide +kernel) ?_
      refine lv_iadd S.1 S.2.1 dL_law_509 ?_
      refine lv_topi (fun v178 e178 => ?_)
      obtain rfl : v178 = nI (i + 1) := e178.trans (nI_add _ _)
      refine va_sld S.1 S.2.1 hX hbl hbA hS176 (vp_in_nI (show i + 1 < L by omega) (by omega)) dL_law_510 ?_
      refine lv_topi (fun v179 e179 => ?_)
      refine lv_aload_n S.1 S.2.1 dL_law_511 rfl (lv_at hl 0 rfl) ?_
      refine lv_iload_n S.1 S.2.1 dL_law_512 rfl (lv_at hl 3 rfl) ?_
      refine lv_iconst (v := (nI 2)) S.1 S.2.1 dL_law_513 (by decide +kernel) ?_
      refine lv_iadd S.1 S.2.1 dL_law_514 ?_
      refine lv_topi (fun v180 e180 => ?_)
      obtain rfl : v180 = nI (i + 2) := e180.trans (nI_add _ _)
      refine va_sld S.1 S.2.1 hX hbl hbA hS176 (vp_in_nI (show i + 2 < L by omega) (by omega)) dL_law_515 ?_
      refine lv_topi (fun v181 e181 => ?_)
      obtain ⟨ty183, kn183, no183, en183, at183, sa183, sd183, wr183, pl183, va183, hF183, hb183_1, hb183_2, hb183_3, hb183_4, hb183_5, hb183_6⟩ := wt_m hW176
      refine r_cVi (As := [.int v179, .int v181]) (rest := []) S hK hZ hP176 hS176 hl.1 58 (by decide) hF183 (C := RX8) rfl (c_X8_best l D cA ad t hI F176 hW176 v179 v181) (cwV 2 S.2.2.2.2 gL_law_X8_best rfl rfl rfl (by decide +kernel) ⟨Nat.le_of_ble_eq_true rfl, Nat.le_of_ble_eq_true rfl⟩) rfl rfl (Nat.le_of_ble_eq_true rfl) ⟨by decide +kernel, by decide +kernel⟩ dL_law_516 (fun r182 F182 H182 locs182 hr182 hP182 hS182 => ?_)
      obtain ⟨hW182, hFc182, hr182⟩ := hr182
      have hR182 : RR (AB ad F182) (AB ad F182) := RR.bothF hR176 hFc182 (by decide) (by decide)
      refine lv_pop S.1 S.2.1 dL_law_519 rfl ?_
      refine lv_goto (tgt := 841) S.1 S.2.1 dL_law_520 (by decide) ?_
      refine lv_iinc (v := (nI (i + 3))) (lv' := [(3, .int (nI (i + 3))), (0, .ref b), (1, .ref (ad 0)), (2, .ref (ad 58))]) S.1 S.2.1 dL_law_841 hl (k := 3) rfl (nI_add _ 3) (by decide) rfl (fun ls184 hl184 => ?_)
      refine lv_goto (tgt := 18) S.1 S.2.1 dL_law_844 (by decide) ?_
      exact ih (i + 3) F182 H182 locs182 (by omega) (by omega) hW182 hP182 hS182 hR182 ls184 (lv_sub hl184 [1, 2, 3, 0] rfl)
    by_cases hs7_15 : v6.toInt = 15
    · refine lv_tableIn (off := 491) (tgt := 523) S.1 S.2.1 dL_law_32 (by omega) (by omega) (by rw [hs7_15]; rfl) (by decide) ?_
      refine lv_aload_n S.1 S.2.1 dL_law_523 rfl (lv_at hl 1 rfl) ?_
      refine lv_aload_n S.1 S.2.1 dL_law_524 rfl (lv_at hl 0 rfl) ?_
      refine lv_iload_n S.1 S.2.1 dL_law_525 rfl (lv_at hl 3 rfl) ?_
      refine lv_iconst (v := (nI 1)) S.1 S.2.1 dL_law_526 (by decide +kernel) ?_
      refine lv_iadd S.1 S.2.1 dL_law_527 ?_
      refine lv_topi (fun v185 e185 => ?_)
      obtain rfl : v185 = nI (i + 1) := e185.trans (nI_add _ _)
      refine va_sld S.1 S.2.1 hX hbl hbA hS (vp_in_nI (show i + 1 < L by omega) (by omega)) dL_law_528 ?_
      refine lv_topi (fun v186 e186 => ?_)
      obtain ⟨c188, d188, k188, dr188, hF188, hc188, hd188, hk188⟩ := wt_main hW
      refine r_cVi (As := [.int v186]) (rest := []) S hK hZ hP hS hl.1 0 (by decide) hF188 (C := RX7) rfl (c_X7_seals l D cA ad t hI F hW v186) (cwV 1 S.2.2.2.2 gL_law_X7_seals rfl rfl rfl (by decide +kernel) ⟨Nat.le_of_ble_eq_true rfl, Nat.le_of_ble_eq_true rfl⟩) rfl rfl (Nat.le_of_ble_eq_true rfl) ⟨by decide +kernel, by decide +kernel⟩ dL_law_529 (fun r187 F187 H187 locs187 hr187 hP187 hS187 => ?_)
      obtain ⟨hW187, hFc187, hr187⟩ := hr187
      have hR187 : RR (AB ad F187) (AB ad F187) := RR.bothF hR hFc187 (by decide) (by decide)
      refine lv_pop S.1 S.2.1 dL_law_532 rfl ?_
      refine lv_aload_n S.1 S.2.1 dL_law_533 rfl (lv_at hl 2 rfl) ?_
      refine lv_aload_n S.1 S.2.1 dL_law_534 rfl (lv_at hl 0 rfl) ?_
      refine lv_iload_n S.1 S.2.1 dL_law_535 rfl (lv_at hl 3 rfl) ?_
      refine lv_iconst (v := (nI 1)) S.1 S.2.1 dL_law_536 (by decide +kernel) ?_
      refine lv_iadd S.1 S.2.1 dL_law_537 ?_
      refine lv_topi (fun v189 e189 => ?_)
      obtain rfl : v189 = nI (i + 1) := e189.trans (nI_add _ _)
      refine va_sld S.1 S.2.1 hX hbl hbA hS187 (vp_in_nI (show i + 1 < L by omega) (by omega)) dL_law_538 ?_
      refine lv_topi (fun v190 e190 => ?_)
      obtain ⟨ty192, kn192, no192, en192, at192, sa192, sd192, wr192, pl192, va192, hF192, hb192_1, hb192_2, hb192_3, hb192_4, hb192_5, hb192_6⟩ := wt_m hW187
      refine r_cVi (As := [.int v190]) (rest := []) S hK hZ hP187 hS187 hl.1 58 (by decide) hF192 (C := RX8) rfl (c_X8_seals l D cA ad t hI F187 hW187 v190) (cwV 1 S.2.2.2.2 gL_law_X8_seals rfl rfl rfl (by decide +kernel) ⟨Nat.le_of_ble_eq_true rfl, Nat.le_of_ble_eq_true rfl⟩) rfl rfl (Nat.le_of_ble_eq_true rfl) ⟨by decide +kernel, by decide +kernel⟩ dL_law_539 (fun r191 F191 H191 locs191 hr191 hP191 hS191 => ?_)
      obtain ⟨hW191, hFc191, hr191⟩ := hr191
      have hR191 : RR (AB ad F191) (AB ad F191) := RR.bothF hR187 hFc191 (by decide) (by decide)
      refine lv_pop S.1 S.2.1 dL_law_542 rfl ?_
      refine lv_goto (tgt := 841) S.1 S.2.1 dL_law_543 (by decide) ?_
      refine lv_iinc (v := (nI (i + 3))) (lv' := [(3, .int (nI (i + 3))), (0, .ref b), (1, .ref (ad 0)), (2, .ref (ad 58))]) S.1 S.2.1 dL_law_841 hl (k := 3) rfl (nI_add _ 3) (by decide) rfl (fun ls193 hl193 => ?_)
      refine lv_goto (tgt := 18) S.1 S.2.1 dL_law_844 (by decide) ?_
      exact ih (i + 3) F191 H191 locs191 (by omega) (by omega) hW191 hP191 hS191 hR191 ls193 (lv_sub hl193 [1, 2, 3, 0] rfl)
    by_cases hs7_16 : v6.toInt = 16
    · refine lv_tableIn (off := 514) (tgt := 546) S.1 S.2.1 dL_law_32 (by omega) (by omega) (by rw [hs7_16]; rfl) (by decide) ?_
      refine lv_aload_n S.1 S.2.1 dL_law_546 rfl (lv_at hl 1 rfl) ?_
      refine lv_aload_n S.1 S.2.1 dL_law_547 rfl (lv_at hl 0 rfl) ?_
      refine lv_iload_n S.1 S.2.1 dL_law_548 rfl (lv_at hl 3 rfl) ?_
      refine lv_iconst (v := (nI 1)) S.1 S.2.1 dL_law_549 (by decide +kernel) ?_
      refine lv_iadd S.1 S.2.1 dL_law_550 ?_
      refine lv_topi (fun v194 e194 => ?_)
      obtain rfl : v194 = nI (i + 1) := e194.trans (nI_add _ _)
      refine va_sld S.1 S.2.1 hX hbl hbA hS (vp_in_nI (show i + 1 < L by omega) (by omega)) dL_law_551 ?_
      refine lv_topi (fun v195 e195 => ?_)
      obtain ⟨c197, d197, k197, dr197, hF197, hc197, hd197, hk197⟩ := wt_main hW
      refine r_cVi (As := [.int v195]) (rest := []) S hK hZ hP hS hl.1 0 (by decide) hF197 (C := RX7) rfl (c_X7_two l D cA ad t hI F hW v195) (cwV 1 S.2.2.2.2 gL_law_X7_two rfl rfl rfl (by decide +kernel) ⟨Nat.le_of_ble_eq_true rfl, Nat.le_of_ble_eq_true rfl⟩) rfl rfl (Nat.le_of_ble_eq_true rfl) ⟨by decide +kernel, by decide +kernel⟩ dL_law_552 (fun r196 F196 H196 locs196 hr196 hP196 hS196 => ?_)
      obtain ⟨hW196, hFc196, hr196⟩ := hr196
      obtain ⟨hr196, hm196⟩ := hr196
      have hE196 : RR (AB ad F) (AB ad F196) := RR.refF hR hFc196 (by decide)
      have hR196 : RR (AB ad F196) (AB ad F196) := RR.bothF hR hFc196 (by decide) (by decide)
      refine lv_pop S.1 S.2.1 dL_law_555 rfl ?_
      refine lv_aload_n S.1 S.2.1 dL_law_556 rfl (lv_at hl 2 rfl) ?_
      refine lv_aload_n S.1 S.2.1 dL_law_557 rfl (lv_at hl 0 rfl) ?_
      refine lv_iload_n S.1 S.2.1 dL_law_558 rfl (lv_at hl 3 rfl) ?_
      refine lv_iconst (v := (nI 1)) S.1 S.2.1 dL_law_559 (by decide +kernel) ?_
      refine lv_iadd S.1 S.2.1 dL_law_560 ?_
      refine lv_topi (fun v198 e198 => ?_)
      obtain rfl : v198 = nI (i + 1) := e198.trans (nI_add _ _)
      refine va_sld S.1 S.2.1 hX hbl hbA hS196 (vp_in_nI (show i + 1 < L by omega) (by omega)) dL_law_561 ?_
      refine lv_topi (fun v199 e199 => ?_)
      obtain ⟨ty201, kn201, no201, en201, at201, sa201, sd201, wr201, pl201, va201, hF201, hb201_1, hb201_2, hb201_3, hb201_4, hb201_5, hb201_6⟩ := wt_m hW196
      refine r_cVp (As := [.int v199]) (rest := []) S hK hZ hP196 hS196 hl.1 58 (by decide) hF201 (C := RX8) rfl (c_X8_two l D cA ad t hI F196 hW196 v199) (cwV 1 S.2.2.2.2 gL_law_X8_two rfl rfl rfl (by decide +kernel) ⟨Nat.le_of_ble_eq_true rfl, Nat.le_of_ble_eq_true rfl⟩) rfl rfl (Nat.le_of_ble_eq_true rfl) ⟨by decide +kernel, by decide +kernel⟩ dL_law_562 (fun r200 hr200 => ?_)
      obtain ⟨hr200, hm200⟩ := hr200
      refine lv_pop S.1 S.2.1 dL_law_565 rfl ?_
      refine lv_goto (tgt := 841) S.1 S.2.1 dL_law_566 (by decide) ?_
      refine lv_iinc (v := (nI (i + 3))) (lv' := [(3, .int (nI (i + 3))), (0, .ref b), (1, .ref (ad 0)), (2, .ref (ad 58))]) S.1 S.2.1 dL_law_841 hl (k := 3) rfl (nI_add _ 3) (by decide) rfl (fun ls202 hl202 => ?_)
      refine lv_goto (tgt := 18) S.1 S.2.1 dL_law_844 (by decide) ?_
      exact ih (i + 3) F196 H196 locs196 (by omega) (by omega) hW196 hP196 hS196 hR196 ls202 (lv_sub hl202 [1, 2, 3, 0] rfl)
    by_cases hs7_17 : v6.toInt = 17
    · refine lv_tableIn (off := 537) (tgt := 569) S.1 S.2.1 dL_law_32 (by omega) (by omega) (by rw [hs7_17]; rfl) (by decide) ?_
      refine lv_aload_n S.1 S.2.1 dL_law_569 rfl (lv_at hl 1 rfl) ?_
      obtain ⟨c204, d204, k204, dr204, hF204, hc204, hd204, hk204⟩ := wt_main hW
      refine r_cVp (As := []) (rest := []) S hK hZ hP hS hl.1 0 (by decide) hF204 (C := RX7) rfl (c_X7_idle l D cA ad t hI F hW ) (cwV 0 S.2.2.2.2 gL_law_X7_idle rfl rfl rfl (by decide +kernel) ⟨Nat.le_of_ble_eq_true rfl, Nat.le_of_ble_eq_true rfl⟩) rfl rfl (Nat.le_of_ble_eq_true rfl) ⟨by decide +kernel, by decide +kernel⟩ dL_law_570 (fun r203 hr203 => ?_)
      obtain ⟨hr203, hm203⟩ := hr203
      refine lv_pop S.1 S.2.1 dL_law_573 rfl ?_
      refine lv_aload_n S.1 S.2.1 dL_law_574 rfl (lv_at hl 2 rfl) ?_
      obtain ⟨ty206, kn206, no206, en206, at206, sa206, sd206, wr206, pl206, va206, hF206, hb206_1, hb206_2, hb206_3, hb206_4, hb206_5, hb206_6⟩ := wt_m hW
      refine r_cVp (As := []) (rest := []) S hK hZ hP hS hl.1 58 (by decide) hF206 (C := RX8) rfl (c_X8_idle l D cA ad t hI F hW ) (cwV 0 S.2.2.2.2 gL_law_X8_idle rfl rfl rfl (by decide +kernel) ⟨Nat.le_of_ble_eq_true rfl, Nat.le_of_ble_eq_true rfl⟩) rfl rfl (Nat.le_of_ble_eq_true rfl) ⟨by decide +kernel, by decide +kernel⟩ dL_law_575 (fun r205 hr205 => ?_)
      obtain ⟨hr205, hm205⟩ := hr205
      refine lv_pop S.1 S.2.1 dL_law_578 rfl ?_
      refine lv_goto (tgt := 841) S.1 S.2.1 dL_law_579 (by decide) ?_
      refine lv_iinc (v := (nI (i + 3))) (lv' := [(3, .int (nI (i + 3))), (0, .ref b), (1, .ref (ad 0)), (2, .ref (ad 58))]) S.1 S.2.1 dL_law_841 hl (k := 3) rfl (nI_add _ 3) (by decide) rfl (fun ls207 hl207 => ?_)
      refine lv_goto (tgt := 18) S.1 S.2.1 dL_law_844 (by decide) ?_
      exact ih (i + 3) F H locs (by omega) (by omega) hW hP hS hR ls207 (lv_sub hl207 [1, 2, 3, 0] rfl)
    by_cases hs7_18 : v6.toInt = 18
    · refine lv_tableIn (off := 550) (tgt := 582) S.1 S.2.1 dL_law_32 (by omega) (by omega) (by rw [hs7_18]; rfl) (by decide) ?_
      refine lv_aload_n S.1 S.2.1 dL_law_582 rfl (lv_at hl 1 rfl) ?_
      obtain ⟨c209, d209, k209, dr209, hF209, hc209, hd209, hk209⟩ := wt_main hW
      refine r_cVi (As := []) (rest := []) S hK hZ hP hS hl.1 0 (by decide) hF209 (C := RX7) rfl (c_X7_stranded l D cA ad t hI F hW ) (cwV 0 S.2.2.2.2 gL_law_X7_stranded rfl rfl rfl (by decide +kernel) ⟨Nat.le_of_ble_eq_true rfl, Nat.le_of_ble_eq_true rfl⟩) rfl rfl (Nat.le_of_ble_eq_true rfl) ⟨by decide +kernel, by decide +kernel⟩ dL_law_583 (fun r208 F208 H208 locs208 hr208 hP208 hS208 => ?_)
      obtain ⟨hW208, hFc208, hr208⟩ := hr208
      obtain ⟨hr208, hm208⟩ := hr208
      have hE208 : RR (AB ad F) (AB ad F208) := RR.refF hR hFc208 (by decide)
      have hR208 : RR (AB ad F208) (AB ad F208) := RR.bothF hR hFc208 (by decide) (by decide)
      refine lv_pop S.1 S.2.1 dL_law_586 rfl ?_
      refine lv_aload_n S.1 S.2.1 dL_law_587 rfl (lv_at hl 2 rfl) ?_
      obtain ⟨ty211, kn211, no211, en211, at211, sa211, sd211, wr211, pl211, va211, hF211, hb211_1, hb211_2, hb211_3, hb211_4, hb211_5, hb211_6⟩ := wt_m hW208
      refine r_cVp (As := []) (rest := []) S hK hZ hP208 hS208 hl.1 58 (by decide) hF211 (C := RX8) rfl (c_X8_stranded l D cA ad t hI F208 hW208 ) (cwV 0 S.2.2.2.2 gL_law_X8_stranded rfl rfl rfl (by decide +kernel) ⟨Nat.le_of_ble_eq_true rfl, Nat.le_of_ble_eq_true rfl⟩) rfl rfl (Nat.le_of_ble_eq_true rfl) ⟨by decide +kernel, by decide +kernel⟩ dL_law_588 (fun r210 hr210 => ?_)
      obtain ⟨hr210, hm210⟩ := hr210
      refine lv_pop S.1 S.2.1 dL_law_591 rfl ?_
      refine lv_goto (tgt := 841) S.1 S.2.1 dL_law_592 (by decide) ?_
      refine lv_iinc (v := (nI (i + 3))) (lv' := [(3, .int (nI (i + 3))), (0, .ref b), (1, .ref (ad 0)), (2, .ref (ad 58))]) S.1 S.2.1 dL_law_841 hl (k := 3) rfl (nI_add _ 3) (by decide) rfl (fun ls212 hl212 => ?_)
      refine lv_goto (tgt := 18) S.1 S.2.1 dL_law_844 (by decide) ?_
      exact ih (i + 3) F208 H208 locs208 (by omega) (by omega) hW208 hP208 hS208 hR208 ls212 (lv_sub hl212 [1, 2, 3, 0] rfl)
    by_cases hs7_19 : v6.toInt = 19
    · refine lv_tableIn (off := 563) (tgt := 595) S.1 S.2.1 dL_law_32 (by omega) (by omega) (by rw [hs7_19]; rfl) (by decide) ?_
      refine lv_aload_n S.1 S.2.1 dL_law_595 rfl (lv_at hl 1 rfl) ?_
      refine lv_aload_n S.1 S.2.1 dL_law_596 rfl (lv_at hl 0 rfl) ?_
      refine lv_iload_n S.1 S.2.1 dL_law_597 rfl (lv_at hl 3 rfl) ?_
      refine lv_iconst (v := (nI 1)) S.1 S.2.1 dL_law_598 (by decide +kernel) ?_
      refine lv_iadd S.1 S.2.1 dL_law_599 ?_
      refine lv_topi (fun v213 e213 => ?_)
      obtain rfl : v213 = nI (i + 1) := e213.trans (nI_add _ _)
      refine va_sld S.1 S.2.1 hX hbl hbA hS (vp_in_nI (show i + 1 < L by omega) (by omega)) dL_law_600 ?_
      refine lv_topi (fun v214 e214 => ?_)
      refine lv_aload_n S.1 S.2.1 dL_law_601 rfl (lv_at hl 0 rfl) ?_
      refine lv_iload_n S.1 S.2.1 dL_law_602 rfl (lv_at hl 3 rfl) ?_
      refine lv_iconst (v := (nI 2)) S.1 S.2.1 dL_law_603 (by decide +kernel) ?_
      refine lv_iadd S.1 S.2.1 dL_law_604 ?_
      refine lv_topi (fun v215 e215 => ?_)
      obtain rfl : v215 = nI (i + 2) := e215.trans (nI_add _ _)
      refine va_sld S.1 S.2.1 hX hbl hbA hS (vp_in_nI (show i + 2 < L by omega) (by omega)) dL_law_605 ?_
      refine lv_topi (fun v216 e216 => ?_)
      obtain ⟨c218, d218, k218, dr218, hF218, hc218, hd218, hk218⟩ := wt_main hW
      refine r_cVp (As := [.int v214, .int v216]) (rest := []) S hK hZ hP hS hl.1 0 (by decide) hF218 (C := RX7) rfl (c_X7_snow l D cA ad t hI F hW v214 v216) (cwV 2 S.2.2.2.2 gL_law_X7_snow rfl rfl rfl (by decide +kernel) ⟨Nat.le_of_ble_eq_true rfl, Nat.le_of_ble_eq_true rfl⟩) rfl rfl (Nat.le_of_ble_eq_true rfl) ⟨by decide +kernel, by decide +kernel⟩ dL_law_606 (fun r217 hr217 => ?_)
      refine lv_pop S.1 S.2.1 dL_law_609 rfl ?_
      refine lv_aload_n S.1 S.2.1 dL_law_610 rfl (lv_at hl 2 rfl) ?_
      refine lv_aload_n S.1 S.2.1 dL_law_611 rfl (lv_at hl 0 rfl) ?_
      refine lv_iload_n S.1 S.2.1 dL_law_612 rfl (lv_at hl 3 rfl) ?_
      refine lv_iconst (v := (nI 1)) S.1 S.2.1 dL_law_613 (by decide +kernel) ?_
      refine lv_iadd S.1 S.2.1 dL_law_614 ?_
      refine lv_topi (fun v219 e219 => ?_)
      obtain rfl : v219 = nI (i + 1) := e219.trans (nI_add _ _)
      refine va_sld S.1 S.2.1 hX hbl hbA hS (vp_in_nI (show i + 1 < L by omega) (by omega)) dL_law_615 ?_
      refine lv_topi (fun v220 e220 => ?_)
      refine lv_aload_n S.1 S.2.1 dL_law_616 rfl (lv_at hl 0 rfl) ?_
      refine lv_iload_n S.1 S.2.1 dL_law_617 rfl (lv_at hl 3 rfl) ?_
      refine lv_iconst (v := (nI 2)) S.1 S.2.1 dL_law_618 (by decide +kernel) ?_
      refine lv_iadd S.1 S.2.1 dL_law_619 ?_
      refine lv_topi (fun v221 e221 => ?_)
      obtain rfl : v221 = nI (i + 2) := e221.trans (nI_add _ _)
      refine va_sld S.1 S.2.1 hX hbl hbA hS (vp_in_nI (show i + 2 < L by omega) (by omega)) dL_law_620 ?_
      refine lv_topi (fun v222 e222 => ?_)
      obtain ⟨ty224, kn224, no224, en224, at224, sa224, sd224, wr224, pl224, va224, hF224, hb224_1, hb224_2, hb224_3, hb224_4, hb224_5, hb224_6⟩ := wt_m hW
      refine r_cVp (As := [.int v220, .int v222]) (rest := []) S hK hZ hP hS hl.1 58 (by decide) hF224 (C := RX8) rfl (c_X8_snow l D cA ad t hI F hW v220 v222) (cwV 2 S.2.2.2.2 gL_law_X8_snow rfl rfl rfl (by decide +kernel) ⟨Nat.le_of_ble_eq_true rfl, Nat.le_of_ble_eq_true rfl⟩) rfl rfl (Nat.le_of_ble_eq_true rfl) ⟨by decide +kernel, by decide +kernel⟩ dL_law_621 (fun r223 hr223 => ?_)
      refine lv_pop S.1 S.2.1 dL_law_624 rfl ?_
      refine lv_goto (tgt := 841) S.1 S.2.1 dL_law_625 (by decide) ?_
      refine lv_iinc (v := (nI (i + 3))) (lv' := [(3, .int (nI (i + 3))), (0, .ref b), (1, .ref (ad 0)), (2, .ref (ad 58))]) S.1 S.2.1 dL_law_841 hl (k := 3) rfl (nI_add _ 3) (by decide) rfl (fun ls225 hl225 => ?_)
      refine lv_goto (tgt := 18) S.1 S.2.1 dL_law_844 (by decide) ?_
      exact ih (i + 3) F H locs (by omega) (by omega) hW hP hS hR ls225 (lv_sub hl225 [1, 2, 3, 0] rfl)
    by_cases hs7_20 : v6.toInt = 20
    · refine lv_tableIn (off := 596) (tgt := 628) S.1 S.2.1 dL_law_32 (by omega) (by omega) (by rw [hs7_20]; rfl) (by decide) ?_
      refine lv_aload_n S.1 S.2.1 dL_law_628 rfl (lv_at hl 1 rfl) ?_
      refine lv_aload_n S.1 S.2.1 dL_law_629 rfl (lv_at hl 0 rfl) ?_
      refine lv_iload_n S.1 S.2.1 dL_law_630 rfl (lv_at hl 3 rfl) ?_
      refine lv_iconst (v := (nI 1)) S.1 S.2.1 dL_law_631 (by decide +kernel) ?_
      refine lv_iadd S.1 S.2.1 dL_law_632 ?_
      refine lv_topi (fun v226 e226 => ?_)
      obtain rfl : v226 = nI (i + 1) := e226.trans (nI_add _ _)
      refine va_sld S.1 S.2.1 hX hbl hbA hS (vp_in_nI (show i + 1 < L by omega) (by omega)) dL_law_633 ?_
      refine lv_topi (fun v227 e227 => ?_)
      refine lv_aload_n S.1 S.2.1 dL_law_634 rfl (lv_at hl 0 rfl) ?_
      refine lv_iload_n S.1 S.2.1 dL_law_635 rfl (lv_at hl 3 rfl) ?_
      refine lv_iconst (v := (nI 2)) S.1 S.2.1 dL_law_636 (by decide +kernel) ?_
      refine lv_iadd S.1 S.2.1 dL_law_637 ?_
      refine lv_topi (fun v228 e228 => ?_)
      obtain rfl : v228 = nI (i + 2) := e228.trans (nI_add _ _)
      refine va_sld S.1 S.2.1 hX hbl hbA hS (vp_in_nI (show i + 2 < L by omega) (by omega)) dL_law_638 ?_
      refine lv_topi (fun v229 e229 => ?_)
      obtain ⟨c231, d231, k231, dr231, hF231, hc231, hd231, hk231⟩ := wt_main hW
      refine r_cVi (As := [.int v227, .int v229]) (rest := []) S hK hZ hP hS hl.1 0 (by decide) hF231 (C := RX7) rfl (c_X7_seal l D cA ad t hI F hW v227 v229) (cwV 2 S.2.2.2.2 gL_law_X7_seal rfl rfl rfl (by decide +kernel) ⟨Nat.le_of_ble_eq_true rfl, Nat.le_of_ble_eq_true rfl⟩) rfl rfl (Nat.le_of_ble_eq_true rfl) ⟨by decide +kernel, by decide +kernel⟩ dL_law_639 (fun r230 F230 H230 locs230 hr230 hP230 hS230 => ?_)
      obtain ⟨hW230, hFc230, hr230⟩ := hr230
      obtain ⟨hr230, hm230⟩ := hr230
      have hE230 : RR (AB ad F) (AB ad F230) := RR.refF hR hFc230 (by decide)
      refine lv_pop S.1 S.2.1 dL_law_642 rfl ?_
      refine lv_aload_n S.1 S.2.1 dL_law_643 rfl (lv_at hl 2 rfl) ?_
      refine lv_aload_n S.1 S.2.1 dL_law_644 rfl (lv_at hl 0 rfl) ?_
      refine lv_iload_n S.1 S.2.1 dL_law_645 rfl (lv_at hl 3 rfl) ?_
      refine lv_iconst (v := (nI 1)) S.1 S.2.1 dL_law_646 (by decide +kernel) ?_
      refine lv_iadd S.1 S.2.1 dL_law_647 ?_
      refine lv_topi (fun v232 e232 => ?_)
      obtain rfl : v232 = nI (i + 1) := e232.trans (nI_add _ _)
      refine va_sld S.1 S.2.1 hX hbl hbA hS230 (vp_in_nI (show i + 1 < L by omega) (by omega)) dL_law_648 ?_
      refine lv_topi (fun v233 e233 => ?_)
      refine lv_aload_n S.1 S.2.1 dL_law_649 rfl (lv_at hl 0 rfl) ?_
      refine lv_iload_n S.1 S.2.1 dL_law_650 rfl (lv_at hl 3 rfl) ?_
      refine lv_iconst (v := (nI 2)) S.1 S.2.1 dL_law_651 (by decide +kernel) ?_
      refine lv_iadd S.1 S.2.1 dL_law_652 ?_
      refine lv_topi (fun v234 e234 => ?_)
      obtain rfl : v234 = nI (i + 2) := e234.trans (nI_add _ _)
      refine va_sld S.1 S.2.1 hX hbl hbA hS230 (vp_in_nI (show i + 2 < L by omega) (by omega)) dL_law_653 ?_
      refine lv_topi (fun v235 e235 => ?_)
      obtain ⟨ty236, kn236, no236, en236, at236, sa236, sd236, wr236, pl236, va236, hF236, hb236_1, hb236_2, hb236_3, hb236_4, hb236_5, hb236_6⟩ := wt_m hW230
      have hA237 := fN_of (k := 14) (a := at236) hF236 rfl (by omega)
      have hL237 := fN_of (k := 1) (a := ty236) hF236 rfl (by omega)
      refine r_cVi (As := [.int v233, .int v235]) (rest := []) S hK hZ hP230 hS230 hl.1 58 (by decide) hF236 (C := RX8) rfl (c_X8_seal l D cA ad t hI F230 hW230 v233 v235) (cwV 2 S.2.2.2.2 gL_law_X8_seal rfl rfl rfl (by decide +kernel) ⟨Nat.le_of_ble_eq_true rfl, Nat.le_of_ble_eq_true rfl⟩) rfl rfl (Nat.le_of_ble_eq_true rfl) ⟨by decide +kernel, by decide +kernel⟩ dL_law_654 (fun r238 F238 H238 locs238 hr238 hP238 hS238 => ?_)
      obtain ⟨hW238, hFc238, hr238⟩ := hr238
      obtain ⟨hr238, hm238⟩ := hr238
      obtain ⟨ty240, kn240, no240, en240, at240, sa240, sd240, wr240, pl240, va240, hF240, hb240_1, hb240_2, hb240_3, hb240_4, hb240_5, hb240_6⟩ := wt_m hW238
      have hA241 := fN_of (k := 14) (a := at240) hF240 rfl (by omega)
      have hL241 := fN_of (k := 1) (a := ty240) hF240 rfl (by omega)
      have hq238 := hm238
      rw [show v233 = v227 from e233.trans e227.symm] at hq238
      rw [show v235 = v229 from e235.trans e229.symm] at hq238
      have hT238 : r230 = r238 ∧ RR (AB ad F230) (AB ad F238) := by have q := seal_E hE230 v227 v229; rw [hm230, hq238] at q; exact q
      have hR238 : RR (AB ad F238) (AB ad F238) := RR.clsF hT238.2 hFc238 (by decide)
      refine lv_pop S.1 S.2.1 dL_law_657 rfl ?_
      refine lv_goto (tgt := 841) S.1 S.2.1 dL_law_658 (by decide) ?_
      refine lv_iinc (v := (nI (i + 3))) (lv' := [(3, .int (nI (i + 3))), (0, .ref b), (1, .ref (ad 0)), (2, .ref (ad 58))]) S.1 S.2.1 dL_law_841 hl (k := 3) rfl (nI_add _ 3) (by decide) rfl (fun ls242 hl242 => ?_)
      refine lv_goto (tgt := 18) S.1 S.2.1 dL_law_844 (by decide) ?_
      exact ih (i + 3) F238 H238 locs238 (by omega) (by omega) hW238 hP238 hS238 hR238 ls242 (lv_sub hl242 [1, 2, 3, 0] rfl)
    by_cases hs7_21 : v6.toInt = 21
    · refine lv_tableIn (off := 629) (tgt := 661) S.1 S.2.1 dL_law_32 (by omega) (by omega) (by rw [hs7_21]; rfl) (by decide) ?_
      refine lv_aload_n S.1 S.2.1 dL_law_661 rfl (lv_at hl 1 rfl) ?_
      obtain ⟨c244, d244, k244, dr244, hF244, hc244, hd244, hk244⟩ := wt_main hW
      refine r_cVi (As := []) (rest := []) S hK hZ hP hS hl.1 0 (by decide) hF244 (C := RX7) rfl (c_X7_fits l D cA ad t hI F hW ) (cwV 0 S.2.2.2.2 gL_law_X7_fits rfl rfl rfl (by decide +kernel) ⟨Nat.le_of_ble_eq_true rfl, Nat.le_of_ble_eq_true rfl⟩) rfl rfl (Nat.le_of_ble_eq_true rfl) ⟨by decide +kernel, by decide +kernel⟩ dL_law_662 (fun r243 F243 H243 locs243 hr243 hP243 hS243 => ?_)
      obtain ⟨hW243, hFc243, hr243⟩ := hr243
      obtain ⟨hr243, hm243⟩ := hr243
      have hE243 : RR (AB ad F) (AB ad F243) := RR.refF hR hFc243 (by decide)
      have hR243 : RR (AB ad F243) (AB ad F243) := RR.bothF hR hFc243 (by decide) (by decide)
      refine lv_pop S.1 S.2.1 dL_law_665 rfl ?_
      refine lv_aload_n S.1 S.2.1 dL_law_666 rfl (lv_at hl 2 rfl) ?_
      obtain ⟨ty246, kn246, no246, en246, at246, sa246, sd246, wr246, pl246, va246, hF246, hb246_1, hb246_2, hb246_3, hb246_4, hb246_5, hb246_6⟩ := wt_m hW243
      refine r_cVi (As := []) (rest := []) S hK hZ hP243 hS243 hl.1 58 (by decide) hF246 (C := RX8) rfl (c_X8_fits l D cA ad t hI F243 hW243 ) (cwV 0 S.2.2.2.2 gL_law_X8_fits rfl rfl rfl (by decide +kernel) ⟨Nat.le_of_ble_eq_true rfl, Nat.le_of_ble_eq_true rfl⟩) rfl rfl (Nat.le_of_ble_eq_true rfl) ⟨by decide +kernel, by decide +kernel⟩ dL_law_667 (fun r245 F245 H245 locs245 hr245 hP245 hS245 => ?_)
      obtain ⟨hW245, hFc245, hr245⟩ := hr245
      have hR245 : RR (AB ad F245) (AB ad F245) := RR.bothF hR243 hFc245 (by decide) (by decide)
      refine lv_pop S.1 S.2.1 dL_law_670 rfl ?_
      refine lv_goto (tgt := 841) S.1 S.2.1 dL_law_671 (by decide) ?_
      refine lv_iinc (v := (nI (i + 3))) (lv' := [(3, .int (nI (i + 3))), (0, .ref b), (1, .ref (ad 0)), (2, .ref (ad 58))]) S.1 S.2.1 dL_law_841 hl (k := 3) rfl (nI_add _ 3) (by decide) rfl (fun ls247 hl247 => ?_)
      refine lv_goto (tgt := 18) S.1 S.2.1 dL_law_844 (by decide) ?_
      exact ih (i + 3) F245 H245 locs245 (by omega) (by omega) hW245 hP245 hS245 hR245 ls247 (lv_sub hl247 [1, 2, 3, 0] rfl)
    by_cases hs7_22 : v6.toInt = 22
    · refine lv_tableIn (off := 642) (tgt := 674) S.1 S.2.1 dL_law_32 (by omega) (by omega) (by rw [hs7_22]; rfl) (by decide) ?_
      refine lv_aload_n S.1 S.2.1 dL_law_674 rfl (lv_at hl 1 rfl) ?_
      obtain ⟨c249, d249, k249, dr249, hF249, hc249, hd249, hk249⟩ := wt_main hW
      refine r_cVi (As := []) (rest := []) S hK hZ hP hS hl.1 0 (by decide) hF249 (C := RX7) rfl (c_X7_bought l D cA ad t hI F hW ) (cwV 0 S.2.2.2.2 gL_law_X7_bought rfl rfl rfl (by decide +kernel) ⟨Nat.le_of_ble_eq_true rfl, Nat.le_of_ble_eq_true rfl⟩) rfl rfl (Nat.le_of_ble_eq_true rfl) ⟨by decide +kernel, by decide +kernel⟩ dL_law_675 (fun r248 F248 H248 locs248 hr248 hP248 hS248 => ?_)
      obtain ⟨hW248, hFc248, hr248⟩ := hr248
      obtain ⟨hr248, hm248⟩ := hr248
      have hE248 : RR (AB ad F) (AB ad F248) := RR.refF hR hFc248 (by decide)
      have hR248 : RR (AB ad F248) (AB ad F248) := RR.bothF hR hFc248 (by decide) (by decide)
      refine lv_pop S.1 S.2.1 dL_law_678 rfl ?_
      refine lv_aload_n S.1 S.2.1 dL_law_679 rfl (lv_at hl 2 rfl) ?_
      obtain ⟨ty251, kn251, no251, en251, at251, sa251, sd251, wr251, pl251, va251, hF251, hb251_1, hb251_2, hb251_3, hb251_4, hb251_5, hb251_6⟩ := wt_m hW248
      refine r_cVi (As := []) (rest := []) S hK hZ hP248 hS248 hl.1 58 (by decide) hF251 (C := RX8) rfl (c_X8_bought l D cA ad t hI F248 hW248 ) (cwV 0 S.2.2.2.2 gL_law_X8_bought rfl rfl rfl (by decide +kernel) ⟨Nat.le_of_ble_eq_true rfl, Nat.le_of_ble_eq_true rfl⟩) rfl rfl (Nat.le_of_ble_eq_true rfl) ⟨by decide +kernel, by decide +kernel⟩ dL_law_680 (fun r250 F250 H250 locs250 hr250 hP250 hS250 => ?_)
      obtain ⟨hW250, hFc250, hr250⟩ := hr250
      have hR250 : RR (AB ad F250) (AB ad F250) := RR.bothF hR248 hFc250 (by decide) (by decide)
      refine lv_pop S.1 S.2.1 dL_law_683 rfl ?_
      refine lv_goto (tgt := 841) S.1 S.2.1 dL_law_684 (by decide) ?_
      refine lv_iinc (v := (nI (i + 3))) (lv' := [(3, .int (nI (i + 3))), (0, .ref b), (1, .ref (ad 0)), (2, .ref (ad 58))]) S.1 S.2.1 dL_law_841 hl (k := 3) rfl (nI_add _ 3) (by decide) rfl (fun ls252 hl252 => ?_)
      refine lv_goto (tgt := 18) S.1 S.2.1 dL_law_844 (by decide) ?_
      exact ih (i + 3) F250 H250 locs250 (by omega) (by omega) hW250 hP250 hS250 hR250 ls252 (lv_sub hl252 [1, 2, 3, 0] rfl)
    by_cases hs7_23 : v6.toInt = 23
    · refine lv_tableIn (off := 655) (tgt := 687) S.1 S.2.1 dL_law_32 (by omega) (by omega) (by rw [hs7_23]; rfl) (by decide) ?_
      refine lv_aload_n S.1 S.2.1 dL_law_687 rfl (lv_at hl 1 rfl) ?_
      refine lv_aload_n S.1 S.2.1 dL_law_688 rfl (lv_at hl 0 rfl) ?_
      refine lv_iload_n S.1 S.2.1 dL_law_689 rfl (lv_at hl 3 rfl) ?_
      refine lv_iconst (v := (nI 1)) S.1 S.2.1 dL_law_690 (by decide +kernel) ?_
      refine lv_iadd S.1 S.2.1 dL_law_691 ?_
      refine lv_topi (fun v253 e253 => ?_)
      obtain rfl : v253 = nI (i + 1) := e253.trans (nI_add _ _)
      refine va_sld S.1 S.2.1 hX hbl hbA hS (vp_in_nI (show i + 1 < L by omega) (by omega)) dL_law_692 ?_
      refine lv_topi (fun v254 e254 => ?_)
      obtain ⟨c256, d256, k256, dr256, hF256, hc256, hd256, hk256⟩ := wt_main hW
      refine r_cVi (As := [.int v254]) (rest := []) S hK hZ hP hS hl.1 0 (by decide) hF256 (C := RX7) rfl (c_X7_was l D cA ad t hI F hW v254) (cwV 1 S.2.2.2.2 gL_law_X7_was rfl rfl rfl (by decide +kernel) ⟨Nat.le_of_ble_eq_true rfl, Nat.le_of_ble_eq_true rfl⟩) rfl rfl (Nat.le_of_ble_eq_true rfl) ⟨by decide +kernel, by decide +kernel⟩ dL_law_693 (fun r255 F255 H255 locs255 hr255 hP255 hS255 => ?_)
      obtain ⟨hW255, hFc255, hr255⟩ := hr255
      obtain ⟨hr255, hm255⟩ := hr255
      have hE255 : RR (AB ad F) (AB ad F255) := RR.refF hR hFc255 (by decide)
      have hR255 : RR (AB ad F255) (AB ad F255) := RR.bothF hR hFc255 (by decide) (by decide)
      refine lv_pop S.1 S.2.1 dL_law_696 rfl ?_
      refine lv_aload_n S.1 S.2.1 dL_law_697 rfl (lv_at hl 2 rfl) ?_
      refine lv_aload_n S.1 S.2.1 dL_law_698 rfl (lv_at hl 0 rfl) ?_
      refine lv_iload_n S.1 S.2.1 dL_law_699 rfl (lv_at hl 3 rfl) ?_
      refine lv_iconst (v := (nI 1)) S.1 S.2.1 dL_law_700 (by decide +kernel) ?_
      refine lv_iadd S.1 S.2.1 dL_law_701 ?_
      refine lv_topi (fun v257 e257 => ?_)
      obtain rfl : v257 = nI (i + 1) := e257.trans (nI_add _ _)
      refine va_sld S.1 S.2.1 hX hbl hbA hS255 (vp_in_nI (show i + 1 < L by omega) (by omega)) dL_law_702 ?_
      refine lv_topi (fun v258 e258 => ?_)
      obtain ⟨ty260, kn260, no260, en260, at260, sa260, sd260, wr260, pl260, va260, hF260, hb260_1, hb260_2, hb260_3, hb260_4, hb260_5, hb260_6⟩ := wt_m hW255
      refine r_cVi (As := [.int v258]) (rest := []) S hK hZ hP255 hS255 hl.1 58 (by decide) hF260 (C := RX8) rfl (c_X8_was l D cA ad t hI F255 hW255 v258) (cwV 1 S.2.2.2.2 gL_law_X8_was rfl rfl rfl (by decide +kernel) ⟨Nat.le_of_ble_eq_true rfl, Nat.le_of_ble_eq_true rfl⟩) rfl rfl (Nat.le_of_ble_eq_true rfl) ⟨by decide +kernel, by decide +kernel⟩ dL_law_703 (fun r259 F259 H259 locs259 hr259 hP259 hS259 => ?_)
      obtain ⟨hW259, hFc259, hr259⟩ := hr259
      have hR259 : RR (AB ad F259) (AB ad F259) := RR.bothF hR255 hFc259 (by decide) (by decide)
      refine lv_pop S.1 S.2.1 dL_law_706 rfl ?_
      refine lv_goto (tgt := 841) S.1 S.2.1 dL_law_707 (by decide) ?_
      refine lv_iinc (v := (nI (i + 3))) (lv' := [(3, .int (nI (i + 3))), (0, .ref b), (1, .ref (ad 0)), (2, .ref (ad 58))]) S.1 S.2.1 dL_law_841 hl (k := 3) rfl (nI_add _ 3) (by decide) rfl (fun ls261 hl261 => ?_)
      refine lv_goto (tgt := 18) S.1 S.2.1 dL_law_844 (by decide) ?_
      exact ih (i + 3) F259 H259 locs259 (by omega) (by omega) hW259 hP259 hS259 hR259 ls261 (lv_sub hl261 [1, 2, 3, 0] rfl)
    by_cases hs7_24 : v6.toInt = 24
    · refine lv_tableIn (off := 678) (tgt := 710) S.1 S.2.1 dL_law_32 (by omega) (by omega) (by rw [hs7_24]; rfl) (by decide) ?_
      refine lv_aload_n S.1 S.2.1 dL_law_710 rfl (lv_at hl 1 rfl) ?_
      obtain ⟨c263, d263, k263, dr263, hF263, hc263, hd263, hk263⟩ := wt_main hW
      refine r_cVi (As := []) (rest := []) S hK hZ hP hS hl.1 0 (by decide) hF263 (C := RX7) rfl (c_X7_ask l D cA ad t hI F hW ) (cwV 0 S.2.2.2.2 gL_law_X7_ask rfl rfl rfl (by decide +kernel) ⟨Nat.le_of_ble_eq_true rfl, Nat.le_of_ble_eq_true rfl⟩) rfl rfl (Nat.le_of_ble_eq_true rfl) ⟨by decide +kernel, by decide +kernel⟩ dL_law_711 (fun r262 F262 H262 locs262 hr262 hP262 hS262 => ?_)
      obtain ⟨hW262, hFc262, hr262⟩ := hr262
      obtain ⟨hr262, hm262⟩ := hr262
      have hE262 : RR (AB ad F) (AB ad F262) := RR.refF hR hFc262 (by decide)
      have hR262 : RR (AB ad F262) (AB ad F262) := RR.bothF hR hFc262 (by decide) (by decide)
      refine lv_pop S.1 S.2.1 dL_law_714 rfl ?_
      refine lv_aload_n S.1 S.2.1 dL_law_715 rfl (lv_at hl 2 rfl) ?_
      obtain ⟨ty265, kn265, no265, en265, at265, sa265, sd265, wr265, pl265, va265, hF265, hb265_1, hb265_2, hb265_3, hb265_4, hb265_5, hb265_6⟩ := wt_m hW262
      refine r_cVi (As := []) (rest := []) S hK hZ hP262 hS262 hl.1 58 (by decide) hF265 (C := RX8) rfl (c_X8_ask l D cA ad t hI F262 hW262 ) (cwV 0 S.2.2.2.2 gL_law_X8_ask rfl rfl rfl (by decide +kernel) ⟨Nat.le_of_ble_eq_true rfl, Nat.le_of_ble_eq_true rfl⟩) rfl rfl (Nat.le_of_ble_eq_true rfl) ⟨by decide +kernel, by decide +kernel⟩ dL_law_716 (fun r264 F264 H264 locs264 hr264 hP264 hS264 => ?_)
      obtain ⟨hW264, hFc264, hr264⟩ := hr264
      have hR264 : RR (AB ad F264) (AB ad F264) := RR.bothF hR262 hFc264 (by decide) (by decide)
      refine lv_pop S.1 S.2.1 dL_law_719 rfl ?_
      refine lv_goto (tgt := 841) S.1 S.2.1 dL_law_720 (by decide) ?_
      refine lv_iinc (v := (nI (i + 3))) (lv' := [(3, .int (nI (i + 3))), (0, .ref b), (1, .ref (ad 0)), (2, .ref (ad 58))]) S.1 S.2.1 dL_law_841 hl (k := 3) rfl (nI_add _ 3) (by decide) rfl (fun ls266 hl266 => ?_)
      refine lv_goto (tgt := 18) S.1 S.2.1 dL_law_844 (by decide) ?_
      exact ih (i + 3) F264 H264 locs264 (by omega) (by omega) hW264 hP264 hS264 hR264 ls266 (lv_sub hl266 [1, 2, 3, 0] rfl)
    by_cases hs7_25 : v6.toInt = 25
    · refine lv_tableIn (off := 691) (tgt := 723) S.1 S.2.1 dL_law_32 (by omega) (by omega) (by rw [hs7_25]; rfl) (by decide) ?_
      refine lv_aload_n S.1 S.2.1 dL_law_723 rfl (lv_at hl 1 rfl) ?_
      refine lv_aload_n S.1 S.2.1 dL_law_724 rfl (lv_at hl 0 rfl) ?_
      refine lv_iload_n S.1 S.2.1 dL_law_725 rfl (lv_at hl 3 rfl) ?_
      refine lv_iconst (v := (nI 1)) S.1 S.2.1 dL_law_726 (by decide +kernel) ?_
      refine lv_iadd S.1 S.2.1 dL_law_727 ?_
      refine lv_topi (fun v267 e267 => ?_)
      obtain rfl : v267 = nI (i + 1) := e267.trans (nI_add _ _)
      refine va_sld S.1 S.2.1 hX hbl hbA hS (vp_in_nI (show i + 1 < L by omega) (by omega)) dL_law_728 ?_
      refine lv_topi (fun v268 e268 => ?_)
      obtain ⟨c270, d270, k270, dr270, hF270, hc270, hd270, hk270⟩ := wt_main hW
      refine r_cVi (As := [.int v268]) (rest := []) S hK hZ hP hS hl.1 0 (by decide) hF270 (C := RX7) rfl (c_X7_write l D cA ad t hI F hW v268) (cwV 1 S.2.2.2.2 gL_law_X7_write rfl rfl rfl (by decide +kernel) ⟨Nat.le_of_ble_eq_true rfl, Nat.le_of_ble_eq_true rfl⟩) rfl rfl (Nat.le_of_ble_eq_true rfl) ⟨by decide +kernel, by decide +kernel⟩ dL_law_729 (fun r269 F269 H269 locs269 hr269 hP269 hS269 => ?_)
      obtain ⟨hW269, hFc269, hr269⟩ := hr269
      obtain ⟨hr269, hm269⟩ := hr269
      have hE269 : RR (AB ad F) (AB ad F269) := RR.refF hR hFc269 (by decide)
      refine lv_pop S.1 S.2.1 dL_law_732 rfl ?_
      refine lv_aload_n S.1 S.2.1 dL_law_733 rfl (lv_at hl 2 rfl) ?_
      refine lv_aload_n S.1 S.2.1 dL_law_734 rfl (lv_at hl 0 rfl) ?_
      refine lv_iload_n S.1 S.2.1 dL_law_735 rfl (lv_at hl 3 rfl) ?_
      refine lv_iconst (v := (nI 1)) S.1 S.2.1 dL_law_736 (by decide +kernel) ?_
      refine lv_iadd S.1 S.2.1 dL_law_737 ?_
      refine lv_topi (fun v271 e271 => ?_)
      obtain rfl : v271 = nI (i + 1) := e271.trans (nI_add _ _)
      refine va_sld S.1 S.2.1 hX hbl hbA hS269 (vp_in_nI (show i + 1 < L by omega) (by omega)) dL_law_738 ?_
      refine lv_topi (fun v272 e272 => ?_)
      obtain ⟨ty273, kn273, no273, en273, at273, sa273, sd273, wr273, pl273, va273, hF273, hb273_1, hb273_2, hb273_3, hb273_4, hb273_5, hb273_6⟩ := wt_m hW269
      have hA274 := fN_of (k := 14) (a := at273) hF273 rfl (by omega)
      have hL274 := fN_of (k := 1) (a := ty273) hF273 rfl (by omega)
      refine r_cVi (As := [.int v272]) (rest := []) S hK hZ hP269 hS269 hl.1 58 (by decide) hF273 (C := RX8) rfl (c_X8_write l D cA ad t hI F269 hW269 v272) (cwV 1 S.2.2.2.2 gL_law_X8_write rfl rfl rfl (by decide +kernel) ⟨Nat.le_of_ble_eq_true rfl, Nat.le_of_ble_eq_true rfl⟩) rfl rfl (Nat.le_of_ble_eq_true rfl) ⟨by decide +kernel, by decide +kernel⟩ dL_law_739 (fun r275 F275 H275 locs275 hr275 hP275 hS275 => ?_)
      obtain ⟨hW275, hFc275, hr275⟩ := hr275
      obtain ⟨hr275, hm275⟩ := hr275
      obtain ⟨ty277, kn277, no277, en277, at277, sa277, sd277, wr277, pl277, va277, hF277, hb277_1, hb277_2, hb277_3, hb277_4, hb277_5, hb277_6⟩ := wt_m hW275
      have hA278 := fN_of (k := 14) (a := at277) hF277 rfl (by omega)
      have hL278 := fN_of (k := 1) (a := ty277) hF277 rfl (by omega)
      have hq275 := hm275
      rw [show v272 = v268 from e272.trans e268.symm] at hq275
      have hT275 : r269 = r275 ∧ RR (AB ad F269) (AB ad F275) := by have q := write_E hE269 v268; rw [hm269, hq275] at q; exact q
      have hR275 : RR (AB ad F275) (AB ad F275) := RR.clsF hT275.2 hFc275 (by decide)
      refine lv_pop S.1 S.2.1 dL_law_742 rfl ?_
      refine lv_goto (tgt := 841) S.1 S.2.1 dL_law_743 (by decide) ?_
      refine lv_iinc (v := (nI (i + 3))) (lv' := [(3, .int (nI (i + 3))), (0, .ref b), (1, .ref (ad 0)), (2, .ref (ad 58))]) S.1 S.2.1 dL_law_841 hl (k := 3) rfl (nI_add _ 3) (by decide) rfl (fun ls279 hl279 => ?_)
      refine lv_goto (tgt := 18) S.1 S.2.1 dL_law_844 (by decide) ?_
      exact ih (i + 3) F275 H275 locs275 (by omega) (by omega) hW275 hP275 hS275 hR275 ls279 (lv_sub hl279 [1, 2, 3, 0] rfl)
    by_cases hs7_26 : v6.toInt = 26
    · refine lv_tableIn (off := 714) (tgt := 746) S.1 S.2.1 dL_law_32 (by omega) (by omega) (by rw [hs7_26]; rfl) (by decide) ?_
      refine lv_aload_n S.1 S.2.1 dL_law_746 rfl (lv_at hl 1 rfl) ?_
      obtain ⟨c281, d281, k281, dr281, hF281, hc281, hd281, hk281⟩ := wt_main hW
      refine r_cVi (As := []) (rest := []) S hK hZ hP hS hl.1 0 (by decide) hF281 (C := RX7) rfl (c_X7_tear l D cA ad t hI F hW ) (cwV 0 S.2.2.2.2 gL_law_X7_tear rfl rfl rfl (by decide +kernel) ⟨Nat.le_of_ble_eq_true rfl, Nat.le_of_ble_eq_true rfl⟩) rfl rfl (Nat.le_of_ble_eq_true rfl) ⟨by decide +kernel, by decide +kernel⟩ dL_law_747 (fun r280 F280 H280 locs280 hr280 hP280 hS280 => ?_)
      obtain ⟨hW280, hFc280, hr280⟩ := hr280
      obtain ⟨hr280, hm280⟩ := hr280
      have hE280 : RR (AB ad F) (AB ad F280) := RR.refF hR hFc280 (by decide)
      refine lv_pop S.1 S.2.1 dL_law_750 rfl ?_
      refine lv_aload_n S.1 S.2.1 dL_law_751 rfl (lv_at hl 2 rfl) ?_
      obtain ⟨ty282, kn282, no282, en282, at282, sa282, sd282, wr282, pl282, va282, hF282, hb282_1, hb282_2, hb282_3, hb282_4, hb282_5, hb282_6⟩ := wt_m hW280
      have hA283 := fN_of (k := 14) (a := at282) hF282 rfl (by omega)
      have hL283 := fN_of (k := 1) (a := ty282) hF282 rfl (by omega)
      refine r_cVi (As := []) (rest := []) S hK hZ hP280 hS280 hl.1 58 (by decide) hF282 (C := RX8) rfl (c_X8_tear l D cA ad t hI F280 hW280 ) (cwV 0 S.2.2.2.2 gL_law_X8_tear rfl rfl rfl (by decide +kernel) ⟨Nat.le_of_ble_eq_true rfl, Nat.le_of_ble_eq_true rfl⟩) rfl rfl (Nat.le_of_ble_eq_true rfl) ⟨by decide +kernel, by decide +kernel⟩ dL_law_752 (fun r284 F284 H284 locs284 hr284 hP284 hS284 => ?_)
      obtain ⟨hW284, hFc284, hr284⟩ := hr284
      obtain ⟨hr284, hm284⟩ := hr284
      obtain ⟨ty286, kn286, no286, en286, at286, sa286, sd286, wr286, pl286, va286, hF286, hb286_1, hb286_2, hb286_3, hb286_4, hb286_5, hb286_6⟩ := wt_m hW284
      have hA287 := fN_of (k := 14) (a := at286) hF286 rfl (by omega)
      have hL287 := fN_of (k := 1) (a := ty286) hF286 rfl (by omega)
      have hq284 := hm284
      have hT284 : r280 = r284 ∧ RR (AB ad F280) (AB ad F284) := by have q := tear_E hE280; rw [hm280, hq284] at q; exact q
      have hR284 : RR (AB ad F284) (AB ad F284) := RR.clsF hT284.2 hFc284 (by decide)
      refine lv_pop S.1 S.2.1 dL_law_755 rfl ?_
      refine lv_goto (tgt := 841) S.1 S.2.1 dL_law_756 (by decide) ?_
      refine lv_iinc (v := (nI (i + 3))) (lv' := [(3, .int (nI (i + 3))), (0, .ref b), (1, .ref (ad 0)), (2, .ref (ad 58))]) S.1 S.2.1 dL_law_841 hl (k := 3) rfl (nI_add _ 3) (by decide) rfl (fun ls288 hl288 => ?_)
      refine lv_goto (tgt := 18) S.1 S.2.1 dL_law_844 (by decide) ?_
      exact ih (i + 3) F284 H284 locs284 (by omega) (by omega) hW284 hP284 hS284 hR284 ls288 (lv_sub hl288 [1, 2, 3, 0] rfl)
    by_cases hs7_27 : v6.toInt = 27
    · refine lv_tableIn (off := 727) (tgt := 759) S.1 S.2.1 dL_law_32 (by omega) (by omega) (by rw [hs7_27]; rfl) (by decide) ?_
      refine lv_aload_n S.1 S.2.1 dL_law_759 rfl (lv_at hl 1 rfl) ?_
      obtain ⟨c290, d290, k290, dr290, hF290, hc290, hd290, hk290⟩ := wt_main hW
      refine r_cVp (As := []) (rest := []) S hK hZ hP hS hl.1 0 (by decide) hF290 (C := RX7) rfl (c_X7_judge l D cA ad t hI F hW ) (cwV 0 S.2.2.2.2 gL_law_X7_judge rfl rfl rfl (by decide +kernel) ⟨Nat.le_of_ble_eq_true rfl, Nat.le_of_ble_eq_true rfl⟩) rfl rfl (Nat.le_of_ble_eq_true rfl) ⟨by decide +kernel, by decide +kernel⟩ dL_law_760 (fun r289 hr289 => ?_)
      obtain ⟨hr289, hm289⟩ := hr289
      refine lv_pop S.1 S.2.1 dL_law_763 rfl ?_
      refine lv_aload_n S.1 S.2.1 dL_law_764 rfl (lv_at hl 2 rfl) ?_
      obtain ⟨ty292, kn292, no292, en292, at292, sa292, sd292, wr292, pl292, va292, hF292, hb292_1, hb292_2, hb292_3, hb292_4, hb292_5, hb292_6⟩ := wt_m hW
      refine r_cVp (As := []) (rest := []) S hK hZ hP hS hl.1 58 (by decide) hF292 (C := RX8) rfl (c_X8_judge l D cA ad t hI F hW ) (cwV 0 S.2.2.2.2 gL_law_X8_judge rfl rfl rfl (by decide +kernel) ⟨Nat.le_of_ble_eq_true rfl, Nat.le_of_ble_eq_true rfl⟩) rfl rfl (Nat.le_of_ble_eq_true rfl) ⟨by decide +kernel, by decide +kernel⟩ dL_law_765 (fun r291 hr291 => ?_)
      obtain ⟨hr291, hm291⟩ := hr291
      refine lv_pop S.1 S.2.1 dL_law_768 rfl ?_
      refine lv_goto (tgt := 841) S.1 S.2.1 dL_law_769 (by decide) ?_
      refine lv_iinc (v := (nI (i + 3))) (lv' := [(3, .int (nI (i + 3))), (0, .ref b), (1, .ref (ad 0)), (2, .ref (ad 58))]) S.1 S.2.1 dL_law_841 hl (k := 3) rfl (nI_add _ 3) (by decide) rfl (fun ls293 hl293 => ?_)
      refine lv_goto (tgt := 18) S.1 S.2.1 dL_law_844 (by decide) ?_
      exact ih (i + 3) F H locs (by omega) (by omega) hW hP hS hR ls293 (lv_sub hl293 [1, 2, 3, 0] rfl)
    by_cases hs7_28 : v6.toInt = 28
    · refine lv_tableIn (off := 740) (tgt := 772) S.1 S.2.1 dL_law_32 (by omega) (by omega) (by rw [hs7_28]; rfl) (by decide) ?_
      refine lv_aload_n S.1 S.2.1 dL_law_772 rfl (lv_at hl 1 rfl) ?_
      refine lv_aload_n S.1 S.2.1 dL_law_773 rfl (lv_at hl 0 rfl) ?_
      refine lv_iload_n S.1 S.2.1 dL_law_774 rfl (lv_at hl 3 rfl) ?_
      refine lv_iconst (v := (nI 1)) S.1 S.2.1 dL_law_775 (by decide +kernel) ?_
      refine lv_iadd S.1 S.2.1 dL_law_776 ?_
      refine lv_topi (fun v294 e294 => ?_)
      obtain rfl : v294 = nI (i + 1) := e294.trans (nI_add _ _)
      refine va_sld S.1 S.2.1 hX hbl hbA hS (vp_in_nI (show i + 1 < L by omega) (by omega)) dL_law_777 ?_
      refine lv_topi (fun v295 e295 => ?_)
      obtain ⟨c297, d297, k297, dr297, hF297, hc297, hd297, hk297⟩ := wt_main hW
      refine r_cVi (As := [.int v295]) (rest := []) S hK hZ hP hS hl.1 0 (by decide) hF297 (C := RX7) rfl (c_X7_seed l D cA ad t hI F hW v295) (cwV 1 S.2.2.2.2 gL_law_X7_seed rfl rfl rfl (by decide +kernel) ⟨Nat.le_of_ble_eq_true rfl, Nat.le_of_ble_eq_true rfl⟩) rfl rfl (Nat.le_of_ble_eq_true rfl) ⟨by decide +kernel, by decide +kernel⟩ dL_law_778 (fun r296 F296 H296 locs296 hr296 hP296 hS296 => ?_)
      obtain ⟨hW296, hFc296, hr296⟩ := hr296
      obtain ⟨hr296, hm296⟩ := hr296
      have hE296 : RR (AB ad F) (AB ad F296) := RR.refF hR hFc296 (by decide)
      refine lv_pop S.1 S.2.1 dL_law_781 rfl ?_
      refine lv_aload_n S.1 S.2.1 dL_law_782 rfl (lv_at hl 2 rfl) ?_
      refine lv_aload_n S.1 S.2.1 dL_law_783 rfl (lv_at hl 0 rfl) ?_
      refine lv_iload_n S.1 S.2.1 dL_law_784 rfl (lv_at hl 3 rfl) ?_
      refine lv_iconst (v := (nI 1)) S.1 S.2.1 dL_law_785 (by decide +kernel) ?_
      refine lv_iadd S.1 S.2.1 dL_law_786 ?_
      refine lv_topi (fun v298 e298 => ?_)
      obtain rfl : v298 = nI (i + 1) := e298.trans (nI_add _ _)
      refine va_sld S.1 S.2.1 hX hbl hbA hS296 (vp_in_nI (show i + 1 < L by omega) (by omega)) dL_law_787 ?_
      refine lv_topi (fun v299 e299 => ?_)
      obtain ⟨ty300, kn300, no300, en300, at300, sa300, sd300, wr300, pl300, va300, hF300, hb300_1, hb300_2, hb300_3, hb300_4, hb300_5, hb300_6⟩ := wt_m hW296
      have hA301 := fN_of (k := 14) (a := at300) hF300 rfl (by omega)
      have hL301 := fN_of (k := 1) (a := ty300) hF300 rfl (by omega)
      refine r_cVi (As := [.int v299]) (rest := []) S hK hZ hP296 hS296 hl.1 58 (by decide) hF300 (C := RX8) rfl (c_X8_seed l D cA ad t hI F296 hW296 v299) (cwV 1 S.2.2.2.2 gL_law_X8_seed rfl rfl rfl (by decide +kernel) ⟨Nat.le_of_ble_eq_true rfl, Nat.le_of_ble_eq_true rfl⟩) rfl rfl (Nat.le_of_ble_eq_true rfl) ⟨by decide +kernel, by decide +kernel⟩ dL_law_788 (fun r302 F302 H302 locs302 hr302 hP302 hS302 => ?_)
      obtain ⟨hW302, hFc302, hr302⟩ := hr302
      obtain ⟨hr302, hm302⟩ := hr302
      obtain ⟨ty304, kn304, no304, en304, at304, sa304, sd304, wr304, pl304, va304, hF304, hb304_1, hb304_2, hb304_3, hb304_4, hb304_5, hb304_6⟩ := wt_m hW302
      have hA305 := fN_of (k := 14) (a := at304) hF304 rfl (by omega)
      have hL305 := fN_of (k := 1) (a := ty304) hF304 rfl (by omega)
      have hq302 := hm302
      rw [show v299 = v295 from e299.trans e295.symm] at hq302
      have hT302 : r296 = r302 ∧ RR (AB ad F296) (AB ad F302) := by have q := seed_E hE296 v295; rw [hm296, hq302] at q; exact q
      have hR302 : RR (AB ad F302) (AB ad F302) := RR.clsF hT302.2 hFc302 (by decide)
      refine lv_pop S.1 S.2.1 dL_law_791 rfl ?_
      refine lv_goto (tgt := 841) S.1 S.2.1 dL_law_792 (by decide) ?_
      refine lv_iinc (v := (nI (i + 3))) (lv' := [(3, .int (nI (i + 3))), (0, .ref b), (1, .ref (ad 0)), (2, .ref (ad 58))]) S.1 S.2.1 dL_law_841 hl (k := 3) rfl (nI_add _ 3) (by decide) rfl (fun ls306 hl306 => ?_)
      refine lv_goto (tgt := 18) S.1 S.2.1 dL_law_844 (by decide) ?_
      exact ih (i + 3) F302 H302 locs302 (by omega) (by omega) hW302 hP302 hS302 hR302 ls306 (lv_sub hl306 [1, 2, 3, 0] rfl)
    by_cases hs7_29 : v6.toInt = 29
    · refine lv_tableIn (off := 763) (tgt := 795) S.1 S.2.1 dL_law_32 (by omega) (by omega) (by rw [hs7_29]; rfl) (by decide) ?_
      refine lv_aload_n S.1 S.2.1 dL_law_795 rfl (lv_at hl 1 rfl) ?_
      refine lv_aload_n S.1 S.2.1 dL_law_796 rfl (lv_at hl 0 rfl) ?_
      refine lv_iload_n S.1 S.2.1 dL_law_797 rfl (lv_at hl 3 rfl) ?_
      refine lv_iconst (v := (nI 1)) S.1 S.2.1 dL_law_798 (by decide +kernel) ?_
      refine lv_iadd S.1 S.2.1 dL_law_799 ?_
      refine lv_topi (fun v307 e307 => ?_)
      obtain rfl : v307 = nI (i + 1) := e307.trans (nI_add _ _)
      refine va_sld S.1 S.2.1 hX hbl hbA hS (vp_in_nI (show i + 1 < L by omega) (by omega)) dL_law_800 ?_
      refine lv_topi (fun v308 e308 => ?_)
      obtain ⟨c310, d310, k310, dr310, hF310, hc310, hd310, hk310⟩ := wt_main hW
      refine r_cVi (As := [.int v308]) (rest := []) S hK hZ hP hS hl.1 0 (by decide) hF310 (C := RX7) rfl (c_X7_keep l D cA ad t hI F hW v308) (cwV 1 S.2.2.2.2 gL_law_X7_keep rfl rfl rfl (by decide +kernel) ⟨Nat.le_of_ble_eq_true rfl, Nat.le_of_ble_eq_true rfl⟩) rfl rfl (Nat.le_of_ble_eq_true rfl) ⟨by decide +kernel, by decide +kernel⟩ dL_law_801 (fun r309 F309 H309 locs309 hr309 hP309 hS309 => ?_)
      obtain ⟨hW309, hFc309, hr309⟩ := hr309
      obtain ⟨hr309, hm309⟩ := hr309
      have hE309 : RR (AB ad F) (AB ad F309) := RR.refF hR hFc309 (by decide)
      refine lv_pop S.1 S.2.1 dL_law_804 rfl ?_
      refine lv_aload_n S.1 S.2.1 dL_law_805 rfl (lv_at hl 2 rfl) ?_
      refine lv_aload_n S.1 S.2.1 dL_law_806 rfl (lv_at hl 0 rfl) ?_
      refine lv_iload_n S.1 S.2.1 dL_law_807 rfl (lv_at hl 3 rfl) ?_
      refine lv_iconst (v := (nI 1)) S.1 S.2.1 dL_law_808 (by decide +kernel) ?_
      refine lv_iadd S.1 S.2.1 dL_law_809 ?_
      refine lv_topi (fun v311 e311 => ?_)
      obtain rfl : v311 = nI (i + 1) := e311.trans (nI_add _ _)
      refine va_sld S.1 S.2.1 hX hbl hbA hS309 (vp_in_nI (show i + 1 < L by omega) (by omega)) dL_law_810 ?_
      refine lv_topi (fun v312 e312 => ?_)
      obtain ⟨ty313, kn313, no313, en313, at313, sa313, sd313, wr313, pl313, va313, hF313, hb313_1, hb313_2, hb313_3, hb313_4, hb313_5, hb313_6⟩ := wt_m hW309
      have hA314 := fN_of (k := 14) (a := at313) hF313 rfl (by omega)
      have hL314 := fN_of (k := 1) (a := ty313) hF313 rfl (by omega)
      refine r_cVi (As := [.int v312]) (rest := []) S hK hZ hP309 hS309 hl.1 58 (by decide) hF313 (C := RX8) rfl (c_X8_keep l D cA ad t hI F309 hW309 v312) (cwV 1 S.2.2.2.2 gL_law_X8_keep rfl rfl rfl (by decide +kernel) ⟨Nat.le_of_ble_eq_true rfl, Nat.le_of_ble_eq_true rfl⟩) rfl rfl (Nat.le_of_ble_eq_true rfl) ⟨by decide +kernel, by decide +kernel⟩ dL_law_811 (fun r315 F315 H315 locs315 hr315 hP315 hS315 => ?_)
      obtain ⟨hW315, hFc315, hr315⟩ := hr315
      obtain ⟨hr315, hm315⟩ := hr315
      obtain ⟨hk316, hz316⟩ := hr315
      obtain ⟨ty317, kn317, no317, en317, at317, sa317, sd317, wr317, pl317, va317, hF317, hb317_1, hb317_2, hb317_3, hb317_4, hb317_5, hb317_6⟩ := wt_m hW315
      have hA318 := fN_of (k := 14) (a := at317) hF317 rfl (by omega)
      have hL318 := fN_of (k := 1) (a := ty317) hF317 rfl (by omega)
      have hq315 := hm315
      rw [show v312 = v308 from e312.trans e308.symm] at hq315
      have hT315 : r309 = r315 ∧ RR (AB ad F309) (AB ad F315) := by have q := keep_E hE309 v308; rw [hm309, hq315] at q; exact q
      have hR315 : RR (AB ad F315) (AB ad F315) := RR.clsF hT315.2 hFc315 (by decide)
      refine lv_pop S.1 S.2.1 dL_law_814 rfl ?_
      refine lv_goto (tgt := 841) S.1 S.2.1 dL_law_815 (by decide) ?_
      refine lv_iinc (v := (nI (i + 3))) (lv' := [(3, .int (nI (i + 3))), (0, .ref b), (1, .ref (ad 0)), (2, .ref (ad 58))]) S.1 S.2.1 dL_law_841 hl (k := 3) rfl (nI_add _ 3) (by decide) rfl (fun ls319 hl319 => ?_)
      refine lv_goto (tgt := 18) S.1 S.2.1 dL_law_844 (by decide) ?_
      exact ih (i + 3) F315 H315 locs315 (by omega) (by omega) hW315 hP315 hS315 hR315 ls319 (lv_sub hl319 [1, 2, 3, 0] rfl)
    by_cases hs7_30 : v6.toInt = 30
    · refine lv_tableIn (off := 786) (tgt := 818) S.1 S.2.1 dL_law_32 (by omega) (by omega) (by rw [hs7_30]; rfl) (by decide) ?_
      refine lv_aload_n S.1 S.2.1 dL_law_818 rfl (lv_at hl 1 rfl) ?_
      refine lv_aload_n S.1 S.2.1 dL_law_819 rfl (lv_at hl 0 rfl) ?_
      refine lv_iload_n S.1 S.2.1 dL_law_820 rfl (lv_at hl 3 rfl) ?_
      refine lv_iconst (v := (nI 1)) S.1 S.2.1 dL_law_821 (by decide +kernel) ?_
      refine lv_iadd S.1 S.2.1 dL_law_822 ?_
      refine lv_topi (fun v320 e320 => ?_)
      obtain rfl : v320 = nI (i + 1) := e320.trans (nI_add _ _)
      refine va_sld S.1 S.2.1 hX hbl hbA hS (vp_in_nI (show i + 1 < L by omega) (by omega)) dL_law_823 ?_
      refine lv_topi (fun v321 e321 => ?_)
      obtain ⟨c323, d323, k323, dr323, hF323, hc323, hd323, hk323⟩ := wt_main hW
      refine r_cVi (As := [.int v321]) (rest := []) S hK hZ hP hS hl.1 0 (by decide) hF323 (C := RX7) rfl (c_X7_goBack l D cA ad t hI F hW v321) (cwV 1 S.2.2.2.2 gL_law_X7_goBack rfl rfl rfl (by decide +kernel) ⟨Nat.le_of_ble_eq_true rfl, Nat.le_of_ble_eq_true rfl⟩) rfl rfl (Nat.le_of_ble_eq_true rfl) ⟨by decide +kernel, by decide +kernel⟩ dL_law_824 (fun r322 F322 H322 locs322 hr322 hP322 hS322 => ?_)
      obtain ⟨hW322, hFc322, hr322⟩ := hr322
      obtain ⟨hr322, hm322⟩ := hr322
      have hE322 : RR (AB ad F) (AB ad F322) := RR.refF hR hFc322 (by decide)
      refine lv_aload_n S.1 S.2.1 dL_law_827 rfl (lv_at hl 2 rfl) ?_
      refine lv_aload_n S.1 S.2.1 dL_law_828 rfl (lv_at hl 0 rfl) ?_
      refine lv_iload_n S.1 S.2.1 dL_law_829 rfl (lv_at hl 3 rfl) ?_
      refine lv_iconst (v := (nI 1)) S.1 S.2.1 dL_law_830 (by decide +kernel) ?_
      refine lv_iadd S.1 S.2.1 dL_law_831 ?_
      refine lv_topi (fun v324 e324 => ?_)
      obtain rfl : v324 = nI (i + 1) := e324.trans (nI_add _ _)
      refine va_sld S.1 S.2.1 hX hbl hbA hS322 (vp_in_nI (show i + 1 < L by omega) (by omega)) dL_law_832 ?_
      refine lv_topi (fun v325 e325 => ?_)
      obtain ⟨ty326, kn326, no326, en326, at326, sa326, sd326, wr326, pl326, va326, hF326, hb326_1, hb326_2, hb326_3, hb326_4, hb326_5, hb326_6⟩ := wt_m hW322
      have hA327 := fN_of (k := 14) (a := at326) hF326 rfl (by omega)
      have hL327 := fN_of (k := 1) (a := ty326) hF326 rfl (by omega)
      refine r_cVi (As := [.int v325]) (rest := [.int r322]) S hK hZ hP322 hS322 hl.1 58 (by decide) hF326 (C := RX8) rfl (c_X8_goBack l D cA ad t hI F322 hW322 v325) (cwV 1 S.2.2.2.2 gL_law_X8_goBack rfl rfl rfl (by decide +kernel) ⟨Nat.le_of_ble_eq_true rfl, Nat.le_of_ble_eq_true rfl⟩) rfl rfl (Nat.le_of_ble_eq_true rfl) ⟨by decide +kernel, by decide +kernel⟩ dL_law_833 (fun r328 F328 H328 locs328 hr328 hP328 hS328 => ?_)
      obtain ⟨hW328, hFc328, hr328⟩ := hr328
      obtain ⟨hr328, hm328⟩ := hr328
      obtain ⟨ty330, kn330, no330, en330, at330, sa330, sd330, wr330, pl330, va330, hF330, hb330_1, hb330_2, hb330_3, hb330_4, hb330_5, hb330_6⟩ := wt_m hW328
      have hA331 := fN_of (k := 14) (a := at330) hF330 rfl (by omega)
      have hL331 := fN_of (k := 1) (a := ty330) hF330 rfl (by omega)
      have hq328 := hm328
      rw [show v325 = v321 from e325.trans e321.symm] at hq328
      have hT328 : r322 = r328 ∧ RR (AB ad F322) (AB ad F328) := by have q := goBack_E hE322 v321; rw [hm322, hq328] at q; exact q
      have hR328 : RR (AB ad F328) (AB ad F328) := RR.clsF hT328.2 hFc328 (by decide)
      refine lv_icmp_eq (tgt := 841) S.1 S.2.1 dL_law_836 (by decide) (fun c332 => ?_) (fun c332 => absurd hT328.1 c332)
      have k333 := ci_eq rfl rfl c332
      refine lv_iinc (v := (nI (i + 3))) (lv' := [(3, .int (nI (i + 3))), (0, .ref b), (1, .ref (ad 0)), (2, .ref (ad 58))]) S.1 S.2.1 dL_law_841 hl (k := 3) rfl (nI_add _ 3) (by decide) rfl (fun ls334 hl334 => ?_)
      refine lv_goto (tgt := 18) S.1 S.2.1 dL_law_844 (by decide) ?_
      exact ih (i + 3) F328 H328 locs328 (by omega) (by omega) hW328 hP328 hS328 hR328 ls334 (lv_sub hl334 [1, 2, 3, 0] rfl)
    refine lv_tableOut (tgt := 841) S.1 S.2.1 dL_law_32 (by omega) (by decide) ?_
    refine lv_iinc (v := (nI (i + 3))) (lv' := [(3, .int (nI (i + 3))), (0, .ref b), (1, .ref (ad 0)), (2, .ref (ad 58))]) S.1 S.2.1 dL_law_841 hl (k := 3) rfl (nI_add _ 3) (by decide) rfl (fun ls335 hl335 => ?_)
    refine lv_goto (tgt := 18) S.1 S.2.1 dL_law_844 (by decide) ?_
    exact ih (i + 3) F H locs (by omega) (by omega) hW hP hS hR ls335 (lv_sub hl335 [1, 2, 3, 0] rfl)
