/-! THE CLAIM OUT OF ONE WALK OF THE LAW'S BODY. Your part is whole_start (and what it stands on); all else here is the same for every law, but numbers. -/
def R_law : String := "JourneyRoadsLaw"
def lw_P (b : Addr) (xs : List Int32) (args : Array Value) (s : State) : Prop := args = #[.ref b] ∧ s.IntsAt b xs ∧ xs.length ≤ 192 ∧ (Jvm.Cond.and given_1 narrow_1).before args s = true
def lw_Q (_ : Array Value) (s : State) (o : Outcome) (t : State) : Prop := o = .returned (some (.int 1)) ∧ Framed s o t [] 600000 7302250
def lw_Z (below : List Frame) (a : Array Value) (s : State) : State → Prop := fun t => ∃ o, t.status = .running ∧ Ended t below o ∧ lw_Q a s o t
/-- the law's own end, with 1 on the stack, nothing written that was there before, its room as the claim has it -/
theorem lw_ret {p : Program} {l : Launch} {e : Env} {s : State} {m : MethodId} {below : List Frame} {meth : Method} {c : Code} {b : Nat} (hx : p.tables.exec = Jvm.exec) (hb : c.code = code) (hr : meth.sig.returnType = ret) (hlocks : meth.locks = false) {pc : Nat} {H : Heap} {ls : Array Slot} (hdg : decode code pc = .ok (.ireturn, 1)) : W p l e room_1 s m #[Value.ref b] below meth c H [] 600000 7302250 (lw_Z below #[Value.ref b] s) (F0 m pc ls [.int 1]) := by
  intro T hT X
  obtain ⟨fs, hret, hrun, hended, hW, hframe⟩ := X.leave (v := some (.int 1)) (hlocks := hlocks) (fun h => by rw [hr] at h; cases h)
  have hmeth' : T.vm.method? m = some meth := X.method'
  refine ⟨T.setFrames fs, ?_, .returned (some (.int 1)), hrun, hended, rfl, ⟨_, rfl⟩, hW, hframe⟩
  jvm_step X.here [X.here.top, hx, hb, hdg, hmeth', hr, ret, narrow_b1]
  (try refine ⟨rfl, ?_⟩); (try refine ⟨rfl, ?_⟩)
  first | (intro acts; rw [hret _ acts rfl rfl rfl]) | rw [hret _ _ rfl rfl rfl]
  exact Steps.refl _
/-- what holds at the law's entry: the machine, the code, the tables' words (any of lw_tbl by 'hts w (by decide +kernel)'), the script of L ints xs at the cell b, what the Statement gives of the start (any of its parts by flat_of_before) -/
def lw_At (p : Program) (s : State) (m : MethodId) (meth : Method) (c : Code) (b L : Nat) (xs : Nat → Int32) : Prop :=
  p.tables.exec = Jvm.exec ∧ c.code = code ∧ meth.sig.returnType = ret ∧ c.maxLocals = 4 ∧ s.vm.findClass R_law = some m.cls ∧ (∀ w ∈ lw_tbl, w.before #[Value.ref b] s = true) ∧ va_X b L xs s s.heap ∧ b < s.heap.size ∧ meth.locks = false ∧ (Jvm.Cond.and given_1 narrow_1).before #[Value.ref b] s = true
set_option maxHeartbeats 16000000 in
set_option maxRecDepth 100000 in
theorem law_loop {p : Program} {e : Env} {s : State} {m : MethodId} {below : List Frame} {meth : Method} {c : Code} (l : Launch) {b L : Nat} {xs : Nat → Int32} (hL : L ≤ 192) (C0 : lw_At p s m meth c b L xs) {D : va_G} {cA ad : Nat → Nat} {t : Nat} (hK : va_K D vwCl (rT cA) s) (hZ : rZ t ad s) (hI : rI ad) (hge : ∀ i, i < rN → s.heap.size ≤ ad i) : ∀ (n i : Nat) (F : Nat → va_E) (H : Heap) (locs : List Loc), i ≤ L → L - i < n → WT cA ad F → va_P D vwCl (rW ad F) H → va_S (rA ad) s.heap H locs → ∀ (ls : Array Slot), lv_has ls 4 [(0, .ref b), (1, .ref (ad 0)), (2, .ref (ad 58)), (3, .int (nI i))] → W p l e room_1 s m #[Value.ref b] below meth c H locs 72 5520 (lw_Z below #[Value.ref b] s) (F0 m 18 ls []) := by
  obtain ⟨hx, hb, hr, hml, hown, hts, hX, hbl, hlocks, hgv⟩ := C0
  have S : CallFix p m c cL_law 4 s #[Value.ref b] wsL_law RL := ⟨hx, hb, hml, hown, fun w h => hts w (wsL_law_in w h)⟩
  have hbA : ¬ rA ad b := fun h => by obtain ⟨i9, hi9, he9⟩ := h; have := hge i9 hi9; omega
  intro n
  induction n with
  | zero =>
    intro i F H locs h1 h2
    exact absurd h2 (Nat.not_lt_zero _)
  | succ n ih =>
    intro i F H locs hi hm hW hP hS ls hl
    refine lv_iload_n S.1 S.2.1 dL_law_18 rfl (lv_at hl 3 rfl) ?_
    refine lv_aload_n S.1 S.2.1 dL_law_19 rfl (lv_at hl 0 rfl) ?_
    refine va_slen S.1 S.2.1 hX hbl hbA hS dL_law_20 ?_
    refine lv_iconst (v := (nI 3)) S.1 S.2.1 dL_law_21 (by decide +kernel) ?_
    refine lv_isub S.1 S.2.1 dL_law_22 ?_
    refine lv_topi (fun v1 e1 => ?_)
    have ks1 : v1.toInt = ((L : Nat) : Int) - ((3 : Nat) : Int) := by rw [e1]; exact pk_sub_toInt (by omega) (by omega)
    refine lv_icmp_gt (tgt := 847) S.1 S.2.1 dL_law_23 (by decide) (fun c2 => ?_) (fun c2 => ?_)
    · skip
      have k3 := ci_lt rfl (nI_toInt (n := i) (by omega)) c2
      refine lv_iconst (v := 1) S.1 S.2.1 dL_law_847 (by decide +kernel) ?_
      refine va_forget (fun q hq => by obtain ⟨i9, hi9, he9⟩ := hS.2.2 q hq; rw [he9]; exact hge i9 hi9) ?_
      refine W.widen (k := 600000) (n := 7302250) (by decide +kernel) (by decide +kernel) ?_
      exact lw_ret hx hb hr hlocks dL_law_848
    have k4 := ci_nlt rfl (nI_toInt (n := i) (by omega)) c2
    refine lv_aload_n S.1 S.2.1 dL_law_26 rfl (lv_at hl 0 rfl) ?_
    refine lv_iload_n S.1 S.2.1 dL_law_27 rfl (lv_at hl 3 rfl) ?_
    refine va_sld S.1 S.2.1 hX hbl hbA hS (vp_in_nI (show i < L by omega) (by omega)) dL_law_28 ?_
    refine lv_topi (fun v5 e5 => ?_)
    refine lv_bipush (v := (nI 31)) S.1 S.2.1 dL_law_29 (by decide +kernel) ?_
    refine lv_iand S.1 S.2.1 dL_law_31 ?_
    refine lv_topi (fun v6 e6 => ?_)
    by_cases hs7_0 : v6.toInt = 0
    · refine lv_tableIn (off := 140) (tgt := 172) S.1 S.2.1 dL_law_32 (by omega) (by omega) (by rw [hs7_0]; rfl) (by decide) ?_
      refine lv_aload_n S.1 S.2.1 dL_law_172 rfl (lv_at hl 1 rfl) ?_
      refine lv_aload_n S.1 S.2.1 dL_law_173 rfl (lv_at hl 0 rfl) ?_
      refine lv_iload_n S.1 S.2.1 dL_law_174 rfl (lv_at hl 3 rfl) ?_
      refine lv_iconst (v := (nI 1)) S.1 S.2.1 dL_law_175 (by decide +kernel) ?_
      refine lv_iadd S.1 S.2.1 dL_law_176 ?_
      refine lv_topi (fun v8 e8 => ?_)
      obtain rfl : v8 = nI (i + 1) := e8.trans (nI_add _ _)
      refine va_sld S.1 S.2.1 hX hbl hbA hS (vp_in_nI (show i + 1 < L by omega) (by omega)) dL_law_177 ?_
      refine lv_topi (fun v9 e9 => ?_)
      obtain ⟨c11, d11, k11, dr11, hF11, hc11, hd11, hk11⟩ := wt_main hW
      refine r_cVi (As := [.int v9]) (rest := []) S hK hZ hP hS hl.1 0 (by decide) hF11 (C := RX7) rfl (c_X7_feed l D cA ad t hI F hW v9) (cwV 1 S.2.2.2.2 gL_law_X7_feed rfl rfl rfl (by decide +kernel) ⟨Nat.le_of_ble_eq_true rfl, Nat.le_of_ble_eq_true rfl⟩) rfl rfl (Nat.le_of_ble_eq_true rfl) ⟨by decide +kernel, by decide +kernel⟩ dL_law_178 (fun r10 F10 H10 locs10 hr10 hP10 hS10 => ?_)
      obtain ⟨hW10, hFc10, hr10⟩ := hr10
      refine lv_pop S.1 S.2.1 dL_law_181 rfl ?_
      refine lv_aload_n S.1 S.2.1 dL_law_182 rfl (lv_at hl 2 rfl) ?_
      refine lv_aload_n S.1 S.2.1 dL_law_183 rfl (lv_at hl 0 rfl) ?_
      refine lv_iload_n S.1 S.2.1 dL_law_184 rfl (lv_at hl 3 rfl) ?_
      refine lv_iconst (v := (nI 1)) S.1 S.2.1 dL_law_185 (by decide +kernel) ?_
      refine lv_iadd S.1 S.2.1 dL_law_186 ?_
      refine lv_topi (fun v12 e12 => ?_)
      obtain rfl : v12 = nI (i + 1) := e12.trans (nI_add _ _)
      refine va_sld S.1 S.2.1 hX hbl hbA hS10 (vp_in_nI (show i + 1 < L by omega) (by omega)) dL_law_187 ?_
      refine lv_topi (fun v13 e13 => ?_)
      obtain ⟨ty15, kn15, no15, en15, at15, sa15, sd15, wr15, pl15, va15, hF15, hb15_1, hb15_2, hb15_3, hb15_4, hb15_5, hb15_6⟩ := wt_m hW10
      refine r_cVi (As := [.int v13]) (rest := []) S hK hZ hP10 hS10 hl.1 58 (by decide) hF15 (C := RX8) rfl (c_X8_feed l D cA ad t hI F10 hW10 v13) (cwV 1 S.2.2.2.2 gL_law_X8_feed rfl rfl rfl (by decide +kernel) ⟨Nat.le_of_ble_eq_true rfl, Nat.le_of_ble_eq_true rfl⟩) rfl rfl (Nat.le_of_ble_eq_true rfl) ⟨by decide +kernel, by decide +kernel⟩ dL_law_188 (fun r14 F14 H14 locs14 hr14 hP14 hS14 => ?_)
      obtain ⟨hW14, hFc14, hr14⟩ := hr14
      refine lv_pop S.1 S.2.1 dL_law_191 rfl ?_
      refine lv_goto (tgt := 841) S.1 S.2.1 dL_law_192 (by decide) ?_
      refine lv_iinc (v := (nI (i + 3))) (lv' := [(3, .int (nI (i + 3))), (0, .ref b), (1, .ref (ad 0)), (2, .ref (ad 58))]) S.1 S.2.1 dL_law_841 hl (k := 3) rfl (nI_add _ 3) (by decide) rfl (fun ls16 hl16 => ?_)
      refine lv_goto (tgt := 18) S.1 S.2.1 dL_law_844 (by decide) ?_
      exact ih (i + 3) F14 H14 locs14 (by omega) (by omega) hW14 hP14 hS14 ls16 (lv_sub hl16 [1, 2, 3, 0] rfl)
    by_cases hs7_1 : v6.toInt = 1
    · refine lv_tableIn (off := 163) (tgt := 195) S.1 S.2.1 dL_law_32 (by omega) (by omega) (by rw [hs7_1]; rfl) (by decide) ?_
      refine lv_aload_n S.1 S.2.1 dL_law_195 rfl (lv_at hl 1 rfl) ?_
      obtain ⟨c18, d18, k18, dr18, hF18, hc18, hd18, hk18⟩ := wt_main hW
      refine r_cVi (As := []) (rest := []) S hK hZ hP hS hl.1 0 (by decide) hF18 (C := RX7) rfl (c_X7_land l D cA ad t hI F hW ) (cwV 0 S.2.2.2.2 gL_law_X7_land rfl rfl rfl (by decide +kernel) ⟨Nat.le_of_ble_eq_true rfl, Nat.le_of_ble_eq_true rfl⟩) rfl rfl (Nat.le_of_ble_eq_true rfl) ⟨by decide +kernel, by decide +kernel⟩ dL_law_196 (fun r17 F17 H17 locs17 hr17 hP17 hS17 => ?_)
      obtain ⟨hW17, hFc17, hr17⟩ := hr17
      refine lv_pop S.1 S.2.1 dL_law_199 rfl ?_
      refine lv_aload_n S.1 S.2.1 dL_law_200 rfl (lv_at hl 2 rfl) ?_
      obtain ⟨ty20, kn20, no20, en20, at20, sa20, sd20, wr20, pl20, va20, hF20, hb20_1, hb20_2, hb20_3, hb20_4, hb20_5, hb20_6⟩ := wt_m hW17
      refine r_cVi (As := []) (rest := []) S hK hZ hP17 hS17 hl.1 58 (by decide) hF20 (C := RX8) rfl (c_X8_land l D cA ad t hI F17 hW17 ) (cwV 0 S.2.2.2.2 gL_law_X8_land rfl rfl rfl (by decide +kernel) ⟨Nat.le_of_ble_eq_true rfl, Nat.le_of_ble_eq_true rfl⟩) rfl rfl (Nat.le_of_ble_eq_true rfl) ⟨by decide +kernel, by decide +kernel⟩ dL_law_201 (fun r19 F19 H19 locs19 hr19 hP19 hS19 => ?_)
      obtain ⟨hW19, hFc19, hr19⟩ := hr19
      refine lv_pop S.1 S.2.1 dL_law_204 rfl ?_
      refine lv_goto (tgt := 841) S.1 S.2.1 dL_law_205 (by decide) ?_
      refine lv_iinc (v := (nI (i + 3))) (lv' := [(3, .int (nI (i + 3))), (0, .ref b), (1, .ref (ad 0)), (2, .ref (ad 58))]) S.1 S.2.1 dL_law_841 hl (k := 3) rfl (nI_add _ 3) (by decide) rfl (fun ls21 hl21 => ?_)
      refine lv_goto (tgt := 18) S.1 S.2.1 dL_law_844 (by decide) ?_
      exact ih (i + 3) F19 H19 locs19 (by omega) (by omega) hW19 hP19 hS19 ls21 (lv_sub hl21 [1, 2, 3, 0] rfl)
    by_cases hs7_2 : v6.toInt = 2
    · refine lv_tableIn (off := 176) (tgt := 208) S.1 S.2.1 dL_law_32 (by omega) (by omega) (by rw [hs7_2]; rfl) (by decide) ?_
      refine lv_aload_n S.1 S.2.1 dL_law_208 rfl (lv_at hl 1 rfl) ?_
      obtain ⟨c23, d23, k23, dr23, hF23, hc23, hd23, hk23⟩ := wt_main hW
      refine r_cVp (As := []) (rest := []) S hK hZ hP hS hl.1 0 (by decide) hF23 (C := RX7) rfl (c_X7_fault l D cA ad t hI F hW ) (cwV 0 S.2.2.2.2 gL_law_X7_fault rfl rfl rfl (by decide +kernel) ⟨Nat.le_of_ble_eq_true rfl, Nat.le_of_ble_eq_true rfl⟩) rfl rfl (Nat.le_of_ble_eq_true rfl) ⟨by decide +kernel, by decide +kernel⟩ dL_law_209 (fun r22 hr22 => ?_)
      refine lv_pop S.1 S.2.1 dL_law_212 rfl ?_
      refine lv_aload_n S.1 S.2.1 dL_law_213 rfl (lv_at hl 2 rfl) ?_
      obtain ⟨ty25, kn25, no25, en25, at25, sa25, sd25, wr25, pl25, va25, hF25, hb25_1, hb25_2, hb25_3, hb25_4, hb25_5, hb25_6⟩ := wt_m hW
      refine r_cVp (As := []) (rest := []) S hK hZ hP hS hl.1 58 (by decide) hF25 (C := RX8) rfl (c_X8_fault l D cA ad t hI F hW ) (cwV 0 S.2.2.2.2 gL_law_X8_fault rfl rfl rfl (by decide +kernel) ⟨Nat.le_of_ble_eq_true rfl, Nat.le_of_ble_eq_true rfl⟩) rfl rfl (Nat.le_of_ble_eq_true rfl) ⟨by decide +kernel, by decide +kernel⟩ dL_law_214 (fun r24 hr24 => ?_)
      refine lv_pop S.1 S.2.1 dL_law_217 rfl ?_
      refine lv_goto (tgt := 841) S.1 S.2.1 dL_law_218 (by decide) ?_
      refine lv_iinc (v := (nI (i + 3))) (lv' := [(3, .int (nI (i + 3))), (0, .ref b), (1, .ref (ad 0)), (2, .ref (ad 58))]) S.1 S.2.1 dL_law_841 hl (k := 3) rfl (nI_add _ 3) (by decide) rfl (fun ls26 hl26 => ?_)
      refine lv_goto (tgt := 18) S.1 S.2.1 dL_law_844 (by decide) ?_
      exact ih (i + 3) F H locs (by omega) (by omega) hW hP hS ls26 (lv_sub hl26 [1, 2, 3, 0] rfl)
    by_cases hs7_3 : v6.toInt = 3
    · refine lv_tableIn (off := 189) (tgt := 221) S.1 S.2.1 dL_law_32 (by omega) (by omega) (by rw [hs7_3]; rfl) (by decide) ?_
      refine lv_aload_n S.1 S.2.1 dL_law_221 rfl (lv_at hl 1 rfl) ?_
      refine lv_aload_n S.1 S.2.1 dL_law_222 rfl (lv_at hl 0 rfl) ?_
      refine lv_iload_n S.1 S.2.1 dL_law_223 rfl (lv_at hl 3 rfl) ?_
      refine lv_iconst (v := (nI 1)) S.1 S.2.1 dL_law_224 (by decide +kernel) ?_
      refine lv_iadd S.1 S.2.1 dL_law_225 ?_
      refine lv_topi (fun v27 e27 => ?_)
      obtain rfl : v27 = nI (i + 1) := e27.trans (nI_add _ _)
      refine va_sld S.1 S.2.1 hX hbl hbA hS (vp_in_nI (show i + 1 < L by omega) (by omega)) dL_law_226 ?_
      refine lv_topi (fun v28 e28 => ?_)
      obtain ⟨c30, d30, k30, dr30, hF30, hc30, hd30, hk30⟩ := wt_main hW
      refine r_cVp (As := [.int v28]) (rest := []) S hK hZ hP hS hl.1 0 (by decide) hF30 (C := RX7) rfl (c_X7_told l D cA ad t hI F hW v28) (cwV 1 S.2.2.2.2 gL_law_X7_told rfl rfl rfl (by decide +kernel) ⟨Nat.le_of_ble_eq_true rfl, Nat.le_of_ble_eq_true rfl⟩) rfl rfl (Nat.le_of_ble_eq_true rfl) ⟨by decide +kernel, by decide +kernel⟩ dL_law_227 (fun r29 hr29 => ?_)
      refine lv_pop S.1 S.2.1 dL_law_230 rfl ?_
      refine lv_aload_n S.1 S.2.1 dL_law_231 rfl (lv_at hl 2 rfl) ?_
      refine lv_aload_n S.1 S.2.1 dL_law_232 rfl (lv_at hl 0 rfl) ?_
      refine lv_iload_n S.1 S.2.1 dL_law_233 rfl (lv_at hl 3 rfl) ?_
      refine lv_iconst (v := (nI 1)) S.1 S.2.1 dL_law_234 (by decide +kernel) ?_
      refine lv_iadd S.1 S.2.1 dL_law_235 ?_
      refine lv_topi (fun v31 e31 => ?_)
      obtain rfl : v31 = nI (i + 1) := e31.trans (nI_add _ _)
      refine va_sld S.1 S.2.1 hX hbl hbA hS (vp_in_nI (show i + 1 < L by omega) (by omega)) dL_law_236 ?_
      refine lv_topi (fun v32 e32 => ?_)
      obtain ⟨ty34, kn34, no34, en34, at34, sa34, sd34, wr34, pl34, va34, hF34, hb34_1, hb34_2, hb34_3, hb34_4, hb34_5, hb34_6⟩ := wt_m hW
      refine r_cVp (As := [.int v32]) (rest := []) S hK hZ hP hS hl.1 58 (by decide) hF34 (C := RX8) rfl (c_X8_told l D cA ad t hI F hW v32) (cwV 1 S.2.2.2.2 gL_law_X8_told rfl rfl rfl (by decide +kernel) ⟨Nat.le_of_ble_eq_true rfl, Nat.le_of_ble_eq_true rfl⟩) rfl rfl (Nat.le_of_ble_eq_true rfl) ⟨by decide +kernel, by decide +kernel⟩ dL_law_237 (fun r33 hr33 => ?_)
      refine lv_pop S.1 S.2.1 dL_law_240 rfl ?_
      refine lv_goto (tgt := 841) S.1 S.2.1 dL_law_241 (by decide) ?_
      refine lv_iinc (v := (nI (i + 3))) (lv' := [(3, .int (nI (i + 3))), (0, .ref b), (1, .ref (ad 0)), (2, .ref (ad 58))]) S.1 S.2.1 dL_law_841 hl (k := 3) rfl (nI_add _ 3) (by decide) rfl (fun ls35 hl35 => ?_)
      refine lv_goto (tgt := 18) S.1 S.2.1 dL_law_844 (by decide) ?_
      exact ih (i + 3) F H locs (by omega) (by omega) hW hP hS ls35 (lv_sub hl35 [1, 2, 3, 0] rfl)
    by_cases hs7_4 : v6.toInt = 4
    · refine lv_tableIn (off := 212) (tgt := 244) S.1 S.2.1 dL_law_32 (by omega) (by omega) (by rw [hs7_4]; rfl) (by decide) ?_
      refine lv_aload_n S.1 S.2.1 dL_law_244 rfl (lv_at hl 1 rfl) ?_
      refine lv_aload_n S.1 S.2.1 dL_law_245 rfl (lv_at hl 0 rfl) ?_
      refine lv_iload_n S.1 S.2.1 dL_law_246 rfl (lv_at hl 3 rfl) ?_
      refine lv_iconst (v := (nI 1)) S.1 S.2.1 dL_law_247 (by decide +kernel) ?_
      refine lv_iadd S.1 S.2.1 dL_law_248 ?_
      refine lv_topi (fun v36 e36 => ?_)
      obtain rfl : v36 = nI (i + 1) := e36.trans (nI_add _ _)
      refine va_sld S.1 S.2.1 hX hbl hbA hS (vp_in_nI (show i + 1 < L by omega) (by omega)) dL_law_249 ?_
      refine lv_topi (fun v37 e37 => ?_)
      refine lv_aload_n S.1 S.2.1 dL_law_250 rfl (lv_at hl 0 rfl) ?_
      refine lv_iload_n S.1 S.2.1 dL_law_251 rfl (lv_at hl 3 rfl) ?_
      refine lv_iconst (v := (nI 2)) S.1 S.2.1 dL_law_252 (by decide +kernel) ?_
      refine lv_iadd S.1 S.2.1 dL_law_253 ?_
      refine lv_topi (fun v38 e38 => ?_)
      obtain rfl : v38 = nI (i + 2) := e38.trans (nI_add _ _)
      refine va_sld S.1 S.2.1 hX hbl hbA hS (vp_in_nI (show i + 2 < L by omega) (by omega)) dL_law_254 ?_
      refine lv_topi (fun v39 e39 => ?_)
      obtain ⟨c41, d41, k41, dr41, hF41, hc41, hd41, hk41⟩ := wt_main hW
      refine r_cVp (As := [.int v37, .int v39]) (rest := []) S hK hZ hP hS hl.1 0 (by decide) hF41 (C := RX7) rfl (c_X7_town l D cA ad t hI F hW v37 v39) (cwV 2 S.2.2.2.2 gL_law_X7_town rfl rfl rfl (by decide +kernel) ⟨Nat.le_of_ble_eq_true rfl, Nat.le_of_ble_eq_true rfl⟩) rfl rfl (Nat.le_of_ble_eq_true rfl) ⟨by decide +kernel, by decide +kernel⟩ dL_law_255 (fun r40 hr40 => ?_)
      refine lv_pop S.1 S.2.1 dL_law_258 rfl ?_
      refine lv_aload_n S.1 S.2.1 dL_law_259 rfl (lv_at hl 2 rfl) ?_
      refine lv_aload_n S.1 S.2.1 dL_law_260 rfl (lv_at hl 0 rfl) ?_
      refine lv_iload_n S.1 S.2.1 dL_law_261 rfl (lv_at hl 3 rfl) ?_
      refine lv_iconst (v := (nI 1)) S.1 S.2.1 dL_law_262 (by decide +kernel) ?_
      refine lv_iadd S.1 S.2.1 dL_law_263 ?_
      refine lv_topi (fun v42 e42 => ?_)
      obtain rfl : v42 = nI (i + 1) := e42.trans (nI_add _ _)
      refine va_sld S.1 S.2.1 hX hbl hbA hS (vp_in_nI (show i + 1 < L by omega) (by omega)) dL_law_264 ?_
      refine lv_topi (fun v43 e43 => ?_)
      refine lv_aload_n S.1 S.2.1 dL_law_265 rfl (lv_at hl 0 rfl) ?_
      refine lv_iload_n S.1 S.2.1 dL_law_266 rfl (lv_at hl 3 rfl) ?_
      refine lv_iconst (v := (nI 2)) S.1 S.2.1 dL_law_267 (by decide +kernel) ?_
      refine lv_iadd S.1 S.2.1 dL_law_268 ?_
      refine lv_topi (fun v44 e44 => ?_)
      obtain rfl : v44 = nI (i + 2) := e44.trans (nI_add _ _)
      refine va_sld S.1 S.2.1 hX hbl hbA hS (vp_in_nI (show i + 2 < L by omega) (by omega)) dL_law_269 ?_
      refine lv_topi (fun v45 e45 => ?_)
      obtain ⟨ty47, kn47, no47, en47, at47, sa47, sd47, wr47, pl47, va47, hF47, hb47_1, hb47_2, hb47_3, hb47_4, hb47_5, hb47_6⟩ := wt_m hW
      refine r_cVp (As := [.int v43, .int v45]) (rest := []) S hK hZ hP hS hl.1 58 (by decide) hF47 (C := RX8) rfl (c_X8_town l D cA ad t hI F hW v43 v45) (cwV 2 S.2.2.2.2 gL_law_X8_town rfl rfl rfl (by decide +kernel) ⟨Nat.le_of_ble_eq_true rfl, Nat.le_of_ble_eq_true rfl⟩) rfl rfl (Nat.le_of_ble_eq_true rfl) ⟨by decide +kernel, by decide +kernel⟩ dL_law_270 (fun r46 hr46 => ?_)
      refine lv_pop S.1 S.2.1 dL_law_273 rfl ?_
      refine lv_goto (tgt := 841) S.1 S.2.1 dL_law_274 (by decide) ?_
      refine lv_iinc (v := (nI (i + 3))) (lv' := [(3, .int (nI (i + 3))), (0, .ref b), (1, .ref (ad 0)), (2, .ref (ad 58))]) S.1 S.2.1 dL_law_841 hl (k := 3) rfl (nI_add _ 3) (by decide) rfl (fun ls48 hl48 => ?_)
      refine lv_goto (tgt := 18) S.1 S.2.1 dL_law_844 (by decide) ?_
      exact ih (i + 3) F H locs (by omega) (by omega) hW hP hS ls48 (lv_sub hl48 [1, 2, 3, 0] rfl)
    by_cases hs7_5 : v6.toInt = 5
    · refine lv_tableIn (off := 245) (tgt := 277) S.1 S.2.1 dL_law_32 (by omega) (by omega) (by rw [hs7_5]; rfl) (by decide) ?_
      refine lv_aload_n S.1 S.2.1 dL_law_277 rfl (lv_at hl 1 rfl) ?_
      refine lv_aload_n S.1 S.2.1 dL_law_278 rfl (lv_at hl 0 rfl) ?_
      refine lv_iload_n S.1 S.2.1 dL_law_279 rfl (lv_at hl 3 rfl) ?_
      refine lv_iconst (v := (nI 1)) S.1 S.2.1 dL_law_280 (by decide +kernel) ?_
      refine lv_iadd S.1 S.2.1 dL_law_281 ?_
      refine lv_topi (fun v49 e49 => ?_)
      obtain rfl : v49 = nI (i + 1) := e49.trans (nI_add _ _)
      refine va_sld S.1 S.2.1 hX hbl hbA hS (vp_in_nI (show i + 1 < L by omega) (by omega)) dL_law_282 ?_
      refine lv_topi (fun v50 e50 => ?_)
      refine lv_aload_n S.1 S.2.1 dL_law_283 rfl (lv_at hl 0 rfl) ?_
      refine lv_iload_n S.1 S.2.1 dL_law_284 rfl (lv_at hl 3 rfl) ?_
      refine lv_iconst (v := (nI 2)) S.1 S.2.1 dL_law_285 (by decide +kernel) ?_
      refine lv_iadd S.1 S.2.1 dL_law_286 ?_
      refine lv_topi (fun v51 e51 => ?_)
      obtain rfl : v51 = nI (i + 2) := e51.trans (nI_add _ _)
      refine va_sld S.1 S.2.1 hX hbl hbA hS (vp_in_nI (show i + 2 < L by omega) (by omega)) dL_law_287 ?_
      refine lv_topi (fun v52 e52 => ?_)
      obtain ⟨c54, d54, k54, dr54, hF54, hc54, hd54, hk54⟩ := wt_main hW
      refine r_cVp (As := [.int v50, .int v52]) (rest := []) S hK hZ hP hS hl.1 0 (by decide) hF54 (C := RX7) rfl (c_X7_road l D cA ad t hI F hW v50 v52) (cwV 2 S.2.2.2.2 gL_law_X7_road rfl rfl rfl (by decide +kernel) ⟨Nat.le_of_ble_eq_true rfl, Nat.le_of_ble_eq_true rfl⟩) rfl rfl (Nat.le_of_ble_eq_true rfl) ⟨by decide +kernel, by decide +kernel⟩ dL_law_288 (fun r53 hr53 => ?_)
      refine lv_pop S.1 S.2.1 dL_law_291 rfl ?_
      refine lv_aload_n S.1 S.2.1 dL_law_292 rfl (lv_at hl 2 rfl) ?_
      refine lv_aload_n S.1 S.2.1 dL_law_293 rfl (lv_at hl 0 rfl) ?_
      refine lv_iload_n S.1 S.2.1 dL_law_294 rfl (lv_at hl 3 rfl) ?_
      refine lv_iconst (v := (nI 1)) S.1 S.2.1 dL_law_295 (by decide +kernel) ?_
      refine lv_iadd S.1 S.2.1 dL_law_296 ?_
      refine lv_topi (fun v55 e55 => ?_)
      obtain rfl : v55 = nI (i + 1) := e55.trans (nI_add _ _)
      refine va_sld S.1 S.2.1 hX hbl hbA hS (vp_in_nI (show i + 1 < L by omega) (by omega)) dL_law_297 ?_
      refine lv_topi (fun v56 e56 => ?_)
      refine lv_aload_n S.1 S.2.1 dL_law_298 rfl (lv_at hl 0 rfl) ?_
      refine lv_iload_n S.1 S.2.1 dL_law_299 rfl (lv_at hl 3 rfl) ?_
      refine lv_iconst (v := (nI 2)) S.1 S.2.1 dL_law_300 (by decide +kernel) ?_
      refine lv_iadd S.1 S.2.1 dL_law_301 ?_
      refine lv_topi (fun v57 e57 => ?_)
      obtain rfl : v57 = nI (i + 2) := e57.trans (nI_add _ _)
      refine va_sld S.1 S.2.1 hX hbl hbA hS (vp_in_nI (show i + 2 < L by omega) (by omega)) dL_law_302 ?_
      refine lv_topi (fun v58 e58 => ?_)
      obtain ⟨ty60, kn60, no60, en60, at60, sa60, sd60, wr60, pl60, va60, hF60, hb60_1, hb60_2, hb60_3, hb60_4, hb60_5, hb60_6⟩ := wt_m hW
      refine r_cVp (As := [.int v56, .int v58]) (rest := []) S hK hZ hP hS hl.1 58 (by decide) hF60 (C := RX8) rfl (c_X8_road l D cA ad t hI F hW v56 v58) (cwV 2 S.2.2.2.2 gL_law_X8_road rfl rfl rfl (by decide +kernel) ⟨Nat.le_of_ble_eq_true rfl, Nat.le_of_ble_eq_true rfl⟩) rfl rfl (Nat.le_of_ble_eq_true rfl) ⟨by decide +kernel, by decide +kernel⟩ dL_law_303 (fun r59 hr59 => ?_)
      refine lv_pop S.1 S.2.1 dL_law_306 rfl ?_
      refine lv_goto (tgt := 841) S.1 S.2.1 dL_law_307 (by decide) ?_
      refine lv_iinc (v := (nI (i + 3))) (lv' := [(3, .int (nI (i + 3))), (0, .ref b), (1, .ref (ad 0)), (2, .ref (ad 58))]) S.1 S.2.1 dL_law_841 hl (k := 3) rfl (nI_add _ 3) (by decide) rfl (fun ls61 hl61 => ?_)
      refine lv_goto (tgt := 18) S.1 S.2.1 dL_law_844 (by decide) ?_
      exact ih (i + 3) F H locs (by omega) (by omega) hW hP hS ls61 (lv_sub hl61 [1, 2, 3, 0] rfl)
    by_cases hs7_6 : v6.toInt = 6
    · refine lv_tableIn (off := 278) (tgt := 310) S.1 S.2.1 dL_law_32 (by omega) (by omega) (by rw [hs7_6]; rfl) (by decide) ?_
      refine lv_aload_n S.1 S.2.1 dL_law_310 rfl (lv_at hl 1 rfl) ?_
      obtain ⟨c63, d63, k63, dr63, hF63, hc63, hd63, hk63⟩ := wt_main hW
      refine r_cVi (As := []) (rest := []) S hK hZ hP hS hl.1 0 (by decide) hF63 (C := RX7) rfl (c_X7_stay l D cA ad t hI F hW ) (cwV 0 S.2.2.2.2 gL_law_X7_stay rfl rfl rfl (by decide +kernel) ⟨Nat.le_of_ble_eq_true rfl, Nat.le_of_ble_eq_true rfl⟩) rfl rfl (Nat.le_of_ble_eq_true rfl) ⟨by decide +kernel, by decide +kernel⟩ dL_law_311 (fun r62 F62 H62 locs62 hr62 hP62 hS62 => ?_)
      obtain ⟨hW62, hFc62, hr62⟩ := hr62
      refine lv_pop S.1 S.2.1 dL_law_314 rfl ?_
      refine lv_aload_n S.1 S.2.1 dL_law_315 rfl (lv_at hl 2 rfl) ?_
      obtain ⟨ty65, kn65, no65, en65, at65, sa65, sd65, wr65, pl65, va65, hF65, hb65_1, hb65_2, hb65_3, hb65_4, hb65_5, hb65_6⟩ := wt_m hW62
      refine r_cVi (As := []) (rest := []) S hK hZ hP62 hS62 hl.1 58 (by decide) hF65 (C := RX8) rfl (c_X8_stay l D cA ad t hI F62 hW62 ) (cwV 0 S.2.2.2.2 gL_law_X8_stay rfl rfl rfl (by decide +kernel) ⟨Nat.le_of_ble_eq_true rfl, Nat.le_of_ble_eq_true rfl⟩) rfl rfl (Nat.le_of_ble_eq_true rfl) ⟨by decide +kernel, by decide +kernel⟩ dL_law_316 (fun r64 F64 H64 locs64 hr64 hP64 hS64 => ?_)
      obtain ⟨hW64, hFc64, hr64⟩ := hr64
      refine lv_pop S.1 S.2.1 dL_law_319 rfl ?_
      refine lv_goto (tgt := 841) S.1 S.2.1 dL_law_320 (by decide) ?_
      refine lv_iinc (v := (nI (i + 3))) (lv' := [(3, .int (nI (i + 3))), (0, .ref b), (1, .ref (ad 0)), (2, .ref (ad 58))]) S.1 S.2.1 dL_law_841 hl (k := 3) rfl (nI_add _ 3) (by decide) rfl (fun ls66 hl66 => ?_)
      refine lv_goto (tgt := 18) S.1 S.2.1 dL_law_844 (by decide) ?_
      exact ih (i + 3) F64 H64 locs64 (by omega) (by omega) hW64 hP64 hS64 ls66 (lv_sub hl66 [1, 2, 3, 0] rfl)
    by_cases hs7_7 : v6.toInt = 7
    · refine lv_tableIn (off := 291) (tgt := 323) S.1 S.2.1 dL_law_32 (by omega) (by omega) (by rw [hs7_7]; rfl) (by decide) ?_
      refine lv_aload_n S.1 S.2.1 dL_law_323 rfl (lv_at hl 1 rfl) ?_
      refine lv_aload_n S.1 S.2.1 dL_law_324 rfl (lv_at hl 0 rfl) ?_
      refine lv_iload_n S.1 S.2.1 dL_law_325 rfl (lv_at hl 3 rfl) ?_
      refine lv_iconst (v := (nI 1)) S.1 S.2.1 dL_law_326 (by decide +kernel) ?_
      refine lv_iadd S.1 S.2.1 dL_law_327 ?_
      refine lv_topi (fun v67 e67 => ?_)
      obtain rfl : v67 = nI (i + 1) := e67.trans (nI_add _ _)
      refine va_sld S.1 S.2.1 hX hbl hbA hS (vp_in_nI (show i + 1 < L by omega) (by omega)) dL_law_328 ?_
      refine lv_topi (fun v68 e68 => ?_)
      obtain ⟨c70, d70, k70, dr70, hF70, hc70, hd70, hk70⟩ := wt_main hW
      refine r_cVi (As := [.int v68]) (rest := []) S hK hZ hP hS hl.1 0 (by decide) hF70 (C := RX7) rfl (c_X7_walk l D cA ad t hI F hW v68) (cwV 1 S.2.2.2.2 gL_law_X7_walk rfl rfl rfl (by decide +kernel) ⟨Nat.le_of_ble_eq_true rfl, Nat.le_of_ble_eq_true rfl⟩) rfl rfl (Nat.le_of_ble_eq_true rfl) ⟨by decide +kernel, by decide +kernel⟩ dL_law_329 (fun r69 F69 H69 locs69 hr69 hP69 hS69 => ?_)
      obtain ⟨hW69, hFc69, hr69⟩ := hr69
      refine lv_pop S.1 S.2.1 dL_law_332 rfl ?_
      refine lv_aload_n S.1 S.2.1 dL_law_333 rfl (lv_at hl 2 rfl) ?_
      refine lv_aload_n S.1 S.2.1 dL_law_334 rfl (lv_at hl 0 rfl) ?_
      refine lv_iload_n S.1 S.2.1 dL_law_335 rfl (lv_at hl 3 rfl) ?_
      refine lv_iconst (v := (nI 1)) S.1 S.2.1 dL_law_336 (by decide +kernel) ?_
      refine lv_iadd S.1 S.2.1 dL_law_337 ?_
      refine lv_topi (fun v71 e71 => ?_)
      obtain rfl : v71 = nI (i + 1) := e71.trans (nI_add _ _)
      refine va_sld S.1 S.2.1 hX hbl hbA hS69 (vp_in_nI (show i + 1 < L by omega) (by omega)) dL_law_338 ?_
      refine lv_topi (fun v72 e72 => ?_)
      obtain ⟨ty74, kn74, no74, en74, at74, sa74, sd74, wr74, pl74, va74, hF74, hb74_1, hb74_2, hb74_3, hb74_4, hb74_5, hb74_6⟩ := wt_m hW69
      refine r_cVi (As := [.int v72]) (rest := []) S hK hZ hP69 hS69 hl.1 58 (by decide) hF74 (C := RX8) rfl (c_X8_walk l D cA ad t hI F69 hW69 v72) (cwV 1 S.2.2.2.2 gL_law_X8_walk rfl rfl rfl (by decide +kernel) ⟨Nat.le_of_ble_eq_true rfl, Nat.le_of_ble_eq_true rfl⟩) rfl rfl (Nat.le_of_ble_eq_true rfl) ⟨by decide +kernel, by decide +kernel⟩ dL_law_339 (fun r73 F73 H73 locs73 hr73 hP73 hS73 => ?_)
      obtain ⟨hW73, hFc73, hr73⟩ := hr73
      refine lv_pop S.1 S.2.1 dL_law_342 rfl ?_
      refine lv_goto (tgt := 841) S.1 S.2.1 dL_law_343 (by decide) ?_
      refine lv_iinc (v := (nI (i + 3))) (lv' := [(3, .int (nI (i + 3))), (0, .ref b), (1, .ref (ad 0)), (2, .ref (ad 58))]) S.1 S.2.1 dL_law_841 hl (k := 3) rfl (nI_add _ 3) (by decide) rfl (fun ls75 hl75 => ?_)
      refine lv_goto (tgt := 18) S.1 S.2.1 dL_law_844 (by decide) ?_
      exact ih (i + 3) F73 H73 locs73 (by omega) (by omega) hW73 hP73 hS73 ls75 (lv_sub hl75 [1, 2, 3, 0] rfl)
    by_cases hs7_8 : v6.toInt = 8
    · refine lv_tableIn (off := 314) (tgt := 346) S.1 S.2.1 dL_law_32 (by omega) (by omega) (by rw [hs7_8]; rfl) (by decide) ?_
      refine lv_aload_n S.1 S.2.1 dL_law_346 rfl (lv_at hl 1 rfl) ?_
      refine lv_aload_n S.1 S.2.1 dL_law_347 rfl (lv_at hl 0 rfl) ?_
      refine lv_iload_n S.1 S.2.1 dL_law_348 rfl (lv_at hl 3 rfl) ?_
      refine lv_iconst (v := (nI 1)) S.1 S.2.1 dL_law_349 (by decide +kernel) ?_
      refine lv_iadd S.1 S.2.1 dL_law_350 ?_
      refine lv_topi (fun v76 e76 => ?_)
      obtain rfl : v76 = nI (i + 1) := e76.trans (nI_add _ _)
      refine va_sld S.1 S.2.1 hX hbl hbA hS (vp_in_nI (show i + 1 < L by omega) (by omega)) dL_law_351 ?_
      refine lv_topi (fun v77 e77 => ?_)
      refine lv_aload_n S.1 S.2.1 dL_law_352 rfl (lv_at hl 0 rfl) ?_
      refine lv_iload_n S.1 S.2.1 dL_law_353 rfl (lv_at hl 3 rfl) ?_
      refine lv_iconst (v := (nI 2)) S.1 S.2.1 dL_law_354 (by decide +kernel) ?_
      refine lv_iadd S.1 S.2.1 dL_law_355 ?_
      refine lv_topi (fun v78 e78 => ?_)
      obtain rfl : v78 = nI (i + 2) := e78.trans (nI_add _ _)
      refine va_sld S.1 S.2.1 hX hbl hbA hS (vp_in_nI (show i + 2 < L by omega) (by omega)) dL_law_356 ?_
      refine lv_topi (fun v79 e79 => ?_)
      refine lv_if_eq (tgt := 364) S.1 S.2.1 dL_law_357 (by decide) (fun c80 => ?_) (fun c80 => ?_)
      · skip
        have k81 := ci_eq rfl z_ti c80
        refine lv_iconst (v := (nI 0)) S.1 S.2.1 dL_law_364 (by decide +kernel) ?_
        obtain ⟨c83, d83, k83, dr83, hF83, hc83, hd83, hk83⟩ := wt_main hW
        refine r_cVi (As := [.int v77, .int (nI 0)]) (rest := []) S hK hZ hP hS hl.1 0 (by decide) hF83 (C := RX7) rfl (c_X7_war l D cA ad t hI F hW v77 (nI 0)) (cwV 2 S.2.2.2.2 gL_law_X7_war rfl rfl rfl (by decide +kernel) ⟨Nat.le_of_ble_eq_true rfl, Nat.le_of_ble_eq_true rfl⟩) rfl rfl (Nat.le_of_ble_eq_true rfl) ⟨by decide +kernel, by decide +kernel⟩ dL_law_365 (fun r82 F82 H82 locs82 hr82 hP82 hS82 => ?_)
        obtain ⟨hW82, hFc82, hr82⟩ := hr82
        refine lv_pop S.1 S.2.1 dL_law_368 rfl ?_
        refine lv_aload_n S.1 S.2.1 dL_law_369 rfl (lv_at hl 2 rfl) ?_
        refine lv_aload_n S.1 S.2.1 dL_law_370 rfl (lv_at hl 0 rfl) ?_
        refine lv_iload_n S.1 S.2.1 dL_law_371 rfl (lv_at hl 3 rfl) ?_
        refine lv_iconst (v := (nI 1)) S.1 S.2.1 dL_law_372 (by decide +kernel) ?_
        refine lv_iadd S.1 S.2.1 dL_law_373 ?_
        refine lv_topi (fun v84 e84 => ?_)
        obtain rfl : v84 = nI (i + 1) := e84.trans (nI_add _ _)
        refine va_sld S.1 S.2.1 hX hbl hbA hS82 (vp_in_nI (show i + 1 < L by omega) (by omega)) dL_law_374 ?_
        refine lv_topi (fun v85 e85 => ?_)
        refine lv_aload_n S.1 S.2.1 dL_law_375 rfl (lv_at hl 0 rfl) ?_
        refine lv_iload_n S.1 S.2.1 dL_law_376 rfl (lv_at hl 3 rfl) ?_
        refine lv_iconst (v := (nI 2)) S.1 S.2.1 dL_law_377 (by decide +kernel) ?_
        refine lv_iadd S.1 S.2.1 dL_law_378 ?_
        refine lv_topi (fun v86 e86 => ?_)
        obtain rfl : v86 = nI (i + 2) := e86.trans (nI_add _ _)
        refine va_sld S.1 S.2.1 hX hbl hbA hS82 (vp_in_nI (show i + 2 < L by omega) (by omega)) dL_law_379 ?_
        refine lv_topi (fun v87 e87 => ?_)
        refine lv_if_eq (tgt := 387) S.1 S.2.1 dL_law_380 (by decide) (fun c88 => ?_) (fun c88 => ?_)
        · skip
          have k89 := ci_eq rfl z_ti c88
          refine lv_iconst (v := (nI 0)) S.1 S.2.1 dL_law_387 (by decide +kernel) ?_
          obtain ⟨ty91, kn91, no91, en91, at91, sa91, sd91, wr91, pl91, va91, hF91, hb91_1, hb91_2, hb91_3, hb91_4, hb91_5, hb91_6⟩ := wt_m hW82
          refine r_cVi (As := [.int v85, .int (nI 0)]) (rest := []) S hK hZ hP82 hS82 hl.1 58 (by decide) hF91 (C := RX8) rfl (c_X8_war l D cA ad t hI F82 hW82 v85 (nI 0)) (cwV 2 S.2.2.2.2 gL_law_X8_war rfl rfl rfl (by decide +kernel) ⟨Nat.le_of_ble_eq_true rfl, Nat.le_of_ble_eq_true rfl⟩) rfl rfl (Nat.le_of_ble_eq_true rfl) ⟨by decide +kernel, by decide +kernel⟩ dL_law_388 (fun r90 F90 H90 locs90 hr90 hP90 hS90 => ?_)
          obtain ⟨hW90, hFc90, hr90⟩ := hr90
          refine lv_pop S.1 S.2.1 dL_law_391 rfl ?_
          refine lv_goto (tgt := 841) S.1 S.2.1 dL_law_392 (by decide) ?_
          refine lv_iinc (v := (nI (i + 3))) (lv' := [(3, .int (nI (i + 3))), (0, .ref b), (1, .ref (ad 0)), (2, .ref (ad 58))]) S.1 S.2.1 dL_law_841 hl (k := 3) rfl (nI_add _ 3) (by decide) rfl (fun ls92 hl92 => ?_)
          refine lv_goto (tgt := 18) S.1 S.2.1 dL_law_844 (by decide) ?_
          exact ih (i + 3) F90 H90 locs90 (by omega) (by omega) hW90 hP90 hS90 ls92 (lv_sub hl92 [1, 2, 3, 0] rfl)
        have k93 := ci_ne rfl z_ti c88
        refine lv_iconst (v := (nI 1)) S.1 S.2.1 dL_law_383 (by decide +kernel) ?_
        refine lv_goto (tgt := 388) S.1 S.2.1 dL_law_384 (by decide) ?_
        obtain ⟨ty95, kn95, no95, en95, at95, sa95, sd95, wr95, pl95, va95, hF95, hb95_1, hb95_2, hb95_3, hb95_4, hb95_5, hb95_6⟩ := wt_m hW82
        refine r_cVi (As := [.int v85, .int (nI 1)]) (rest := []) S hK hZ hP82 hS82 hl.1 58 (by decide) hF95 (C := RX8) rfl (c_X8_war l D cA ad t hI F82 hW82 v85 (nI 1)) (cwV 2 S.2.2.2.2 gL_law_X8_war rfl rfl rfl (by decide +kernel) ⟨Nat.le_of_ble_eq_true rfl, Nat.le_of_ble_eq_true rfl⟩) rfl rfl (Nat.le_of_ble_eq_true rfl) ⟨by decide +kernel, by decide +kernel⟩ dL_law_388 (fun r94 F94 H94 locs94 hr94 hP94 hS94 => ?_)
        obtain ⟨hW94, hFc94, hr94⟩ := hr94
        refine lv_pop S.1 S.2.1 dL_law_391 rfl ?_
        refine lv_goto (tgt := 841) S.1 S.2.1 dL_law_392 (by decide) ?_
        refine lv_iinc (v := (nI (i + 3))) (lv' := [(3, .int (nI (i + 3))), (0, .ref b), (1, .ref (ad 0)), (2, .ref (ad 58))]) S.1 S.2.1 dL_law_841 hl (k := 3) rfl (nI_add _ 3) (by decide) rfl (fun ls96 hl96 => ?_)
        refine lv_goto (tgt := 18) S.1 S.2.1 dL_law_844 (by decide) ?_
        exact ih (i + 3) F94 H94 locs94 (by omega) (by omega) hW94 hP94 hS94 ls96 (lv_sub hl96 [1, 2, 3, 0] rfl)
      have k97 := ci_ne rfl z_ti c80
      refine lv_iconst (v := (nI 1)) S.1 S.2.1 dL_law_360 (by decide +kernel) ?_
      refine lv_goto (tgt := 365) S.1 S.2.1 dL_law_361 (by decide) ?_
      obtain ⟨c99, d99, k99, dr99, hF99, hc99, hd99, hk99⟩ := wt_main hW
      refine r_cVi (As := [.int v77, .int (nI 1)]) (rest := []) S hK hZ hP hS hl.1 0 (by decide) hF99 (C := RX7) rfl (c_X7_war l D cA ad t hI F hW v77 (nI 1)) (cwV 2 S.2.2.2.2 gL_law_X7_war rfl rfl rfl (by decide +kernel) ⟨Nat.le_of_ble_eq_true rfl, Nat.le_of_ble_eq_true rfl⟩) rfl rfl (Nat.le_of_ble_eq_true rfl) ⟨by decide +kernel, by decide +kernel⟩ dL_law_365 (fun r98 F98 H98 locs98 hr98 hP98 hS98 => ?_)
      obtain ⟨hW98, hFc98, hr98⟩ := hr98
      refine lv_pop S.1 S.2.1 dL_law_368 rfl ?_
      refine lv_aload_n S.1 S.2.1 dL_law_369 rfl (lv_at hl 2 rfl) ?_
      refine lv_aload_n S.1 S.2.1 dL_law_370 rfl (lv_at hl 0 rfl) ?_
      refine lv_iload_n S.1 S.2.1 dL_law_371 rfl (lv_at hl 3 rfl) ?_
      refine lv_iconst (v := (nI 1)) S.1 S.2.1 dL_law_372 (by decide +kernel) ?_
      refine lv_iadd S.1 S.2.1 dL_law_373 ?_
      refine lv_topi (fun v100 e100 => ?_)
      obtain rfl : v100 = nI (i + 1) := e100.trans (nI_add _ _)
      refine va_sld S.1 S.2.1 hX hbl hbA hS98 (vp_in_nI (show i + 1 < L by omega) (by omega)) dL_law_374 ?_
      refine lv_topi (fun v101 e101 => ?_)
      refine lv_aload_n S.1 S.2.1 dL_law_375 rfl (lv_at hl 0 rfl) ?_
      refine lv_iload_n S.1 S.2.1 dL_law_376 rfl (lv_at hl 3 rfl) ?_
      refine lv_iconst (v := (nI 2)) S.1 S.2.1 dL_law_377 (by decide +kernel) ?_
      refine lv_iadd S.1 S.2.1 dL_law_378 ?_
      refine lv_topi (fun v102 e102 => ?_)
      obtain rfl : v102 = nI (i + 2) := e102.trans (nI_add _ _)
      refine va_sld S.1 S.2.1 hX hbl hbA hS98 (vp_in_nI (show i + 2 < L by omega) (by omega)) dL_law_379 ?_
      refine lv_topi (fun v103 e103 => ?_)
      refine lv_if_eq (tgt := 387) S.1 S.2.1 dL_law_380 (by decide) (fun c104 => ?_) (fun c104 => ?_)
      · skip
        have k105 := ci_eq rfl z_ti c104
        refine lv_iconst (v := (nI 0)) S.1 S.2.1 dL_law_387 (by decide +kernel) ?_
        obtain ⟨ty107, kn107, no107, en107, at107, sa107, sd107, wr107, pl107, va107, hF107, hb107_1, hb107_2, hb107_3, hb107_4, hb107_5, hb107_6⟩ := wt_m hW98
        refine r_cVi (As := [.int v101, .int (nI 0)]) (rest := []) S hK hZ hP98 hS98 hl.1 58 (by decide) hF107 (C := RX8) rfl (c_X8_war l D cA ad t hI F98 hW98 v101 (nI 0)) (cwV 2 S.2.2.2.2 gL_law_X8_war rfl rfl rfl (by decide +kernel) ⟨Nat.le_of_ble_eq_true rfl, Nat.le_of_ble_eq_true rfl⟩) rfl rfl (Nat.le_of_ble_eq_true rfl) ⟨by decide +kernel, by decide +kernel⟩ dL_law_388 (fun r106 F106 H106 locs106 hr106 hP106 hS106 => ?_)
        obtain ⟨hW106, hFc106, hr106⟩ := hr106
        refine lv_pop S.1 S.2.1 dL_law_391 rfl ?_
        refine lv_goto (tgt := 841) S.1 S.2.1 dL_law_392 (by decide) ?_
        refine lv_iinc (v := (nI (i + 3))) (lv' := [(3, .int (nI (i + 3))), (0, .ref b), (1, .ref (ad 0)), (2, .ref (ad 58))]) S.1 S.2.1 dL_law_841 hl (k := 3) rfl (nI_add _ 3) (by decide) rfl (fun ls108 hl108 => ?_)
        refine lv_goto (tgt := 18) S.1 S.2.1 dL_law_844 (by decide) ?_
        exact ih (i + 3) F106 H106 locs106 (by omega) (by omega) hW106 hP106 hS106 ls108 (lv_sub hl108 [1, 2, 3, 0] rfl)
      have k109 := ci_ne rfl z_ti c104
      refine lv_iconst (v := (nI 1)) S.1 S.2.1 dL_law_383 (by decide +kernel) ?_
      refine lv_goto (tgt := 388) S.1 S.2.1 dL_law_384 (by decide) ?_
      obtain ⟨ty111, kn111, no111, en111, at111, sa111, sd111, wr111, pl111, va111, hF111, hb111_1, hb111_2, hb111_3, hb111_4, hb111_5, hb111_6⟩ := wt_m hW98
      refine r_cVi (As := [.int v101, .int (nI 1)]) (rest := []) S hK hZ hP98 hS98 hl.1 58 (by decide) hF111 (C := RX8) rfl (c_X8_war l D cA ad t hI F98 hW98 v101 (nI 1)) (cwV 2 S.2.2.2.2 gL_law_X8_war rfl rfl rfl (by decide +kernel) ⟨Nat.le_of_ble_eq_true rfl, Nat.le_of_ble_eq_true rfl⟩) rfl rfl (Nat.le_of_ble_eq_true rfl) ⟨by decide +kernel, by decide +kernel⟩ dL_law_388 (fun r110 F110 H110 locs110 hr110 hP110 hS110 => ?_)
      obtain ⟨hW110, hFc110, hr110⟩ := hr110
      refine lv_pop S.1 S.2.1 dL_law_391 rfl ?_
      refine lv_goto (tgt := 841) S.1 S.2.1 dL_law_392 (by decide) ?_
      refine lv_iinc (v := (nI (i + 3))) (lv' := [(3, .int (nI (i + 3))), (0, .ref b), (1, .ref (ad 0)), (2, .ref (ad 58))]) S.1 S.2.1 dL_law_841 hl (k := 3) rfl (nI_add _ 3) (by decide) rfl (fun ls112 hl112 => ?_)
      refine lv_goto (tgt := 18) S.1 S.2.1 dL_law_844 (by decide) ?_
      exact ih (i + 3) F110 H110 locs110 (by omega) (by omega) hW110 hP110 hS110 ls112 (lv_sub hl112 [1, 2, 3, 0] rfl)
    by_cases hs7_9 : v6.toInt = 9
    · refine lv_tableIn (off := 363) (tgt := 395) S.1 S.2.1 dL_law_32 (by omega) (by omega) (by rw [hs7_9]; rfl) (by decide) ?_
      refine lv_aload_n S.1 S.2.1 dL_law_395 rfl (lv_at hl 1 rfl) ?_
      obtain ⟨c114, d114, k114, dr114, hF114, hc114, hd114, hk114⟩ := wt_main hW
      refine r_cVi (As := []) (rest := []) S hK hZ hP hS hl.1 0 (by decide) hF114 (C := RX7) rfl (c_X7_home l D cA ad t hI F hW ) (cwV 0 S.2.2.2.2 gL_law_X7_home rfl rfl rfl (by decide +kernel) ⟨Nat.le_of_ble_eq_true rfl, Nat.le_of_ble_eq_true rfl⟩) rfl rfl (Nat.le_of_ble_eq_true rfl) ⟨by decide +kernel, by decide +kernel⟩ dL_law_396 (fun r113 F113 H113 locs113 hr113 hP113 hS113 => ?_)
      obtain ⟨hW113, hFc113, hr113⟩ := hr113
      refine lv_pop S.1 S.2.1 dL_law_399 rfl ?_
      refine lv_aload_n S.1 S.2.1 dL_law_400 rfl (lv_at hl 2 rfl) ?_
      obtain ⟨ty116, kn116, no116, en116, at116, sa116, sd116, wr116, pl116, va116, hF116, hb116_1, hb116_2, hb116_3, hb116_4, hb116_5, hb116_6⟩ := wt_m hW113
      refine r_cVi (As := []) (rest := []) S hK hZ hP113 hS113 hl.1 58 (by decide) hF116 (C := RX8) rfl (c_X8_home l D cA ad t hI F113 hW113 ) (cwV 0 S.2.2.2.2 gL_law_X8_home rfl rfl rfl (by decide +kernel) ⟨Nat.le_of_ble_eq_true rfl, Nat.le_of_ble_eq_true rfl⟩) rfl rfl (Nat.le_of_ble_eq_true rfl) ⟨by decide +kernel, by decide +kernel⟩ dL_law_401 (fun r115 F115 H115 locs115 hr115 hP115 hS115 => ?_)
      obtain ⟨hW115, hFc115, hr115⟩ := hr115
      refine lv_pop S.1 S.2.1 dL_law_404 rfl ?_
      refine lv_goto (tgt := 841) S.1 S.2.1 dL_law_405 (by decide) ?_
      refine lv_iinc (v := (nI (i + 3))) (lv' := [(3, .int (nI (i + 3))), (0, .ref b), (1, .ref (ad 0)), (2, .ref (ad 58))]) S.1 S.2.1 dL_law_841 hl (k := 3) rfl (nI_add _ 3) (by decide) rfl (fun ls117 hl117 => ?_)
      refine lv_goto (tgt := 18) S.1 S.2.1 dL_law_844 (by decide) ?_
      exact ih (i + 3) F115 H115 locs115 (by omega) (by omega) hW115 hP115 hS115 ls117 (lv_sub hl117 [1, 2, 3, 0] rfl)
    by_cases hs7_10 : v6.toInt = 10
    · refine lv_tableIn (off := 376) (tgt := 408) S.1 S.2.1 dL_law_32 (by omega) (by omega) (by rw [hs7_10]; rfl) (by decide) ?_
      refine lv_aload_n S.1 S.2.1 dL_law_408 rfl (lv_at hl 1 rfl) ?_
      refine lv_aload_n S.1 S.2.1 dL_law_409 rfl (lv_at hl 0 rfl) ?_
      refine lv_iload_n S.1 S.2.1 dL_law_410 rfl (lv_at hl 3 rfl) ?_
      refine lv_iconst (v := (nI 1)) S.1 S.2.1 dL_law_411 (by decide +kernel) ?_
      refine lv_iadd S.1 S.2.1 dL_law_412 ?_
      refine lv_topi (fun v118 e118 => ?_)
      obtain rfl : v118 = nI (i + 1) := e118.trans (nI_add _ _)
      refine va_sld S.1 S.2.1 hX hbl hbA hS (vp_in_nI (show i + 1 < L by omega) (by omega)) dL_law_413 ?_
      refine lv_topi (fun v119 e119 => ?_)
      obtain ⟨c121, d121, k121, dr121, hF121, hc121, hd121, hk121⟩ := wt_main hW
      refine r_cVi (As := [.int v119]) (rest := []) S hK hZ hP hS hl.1 0 (by decide) hF121 (C := RX7) rfl (c_X7_drift l D cA ad t hI F hW v119) (cwV 1 S.2.2.2.2 gL_law_X7_drift rfl rfl rfl (by decide +kernel) ⟨Nat.le_of_ble_eq_true rfl, Nat.le_of_ble_eq_true rfl⟩) rfl rfl (Nat.le_of_ble_eq_true rfl) ⟨by decide +kernel, by decide +kernel⟩ dL_law_414 (fun r120 F120 H120 locs120 hr120 hP120 hS120 => ?_)
      obtain ⟨hW120, hFc120, hr120⟩ := hr120
      refine lv_pop S.1 S.2.1 dL_law_417 rfl ?_
      refine lv_aload_n S.1 S.2.1 dL_law_418 rfl (lv_at hl 2 rfl) ?_
      refine lv_aload_n S.1 S.2.1 dL_law_419 rfl (lv_at hl 0 rfl) ?_
      refine lv_iload_n S.1 S.2.1 dL_law_420 rfl (lv_at hl 3 rfl) ?_
      refine lv_iconst (v := (nI 1)) S.1 S.2.1 dL_law_421 (by decide +kernel) ?_
      refine lv_iadd S.1 S.2.1 dL_law_422 ?_
      refine lv_topi (fun v122 e122 => ?_)
      obtain rfl : v122 = nI (i + 1) := e122.trans (nI_add _ _)
      refine va_sld S.1 S.2.1 hX hbl hbA hS120 (vp_in_nI (show i + 1 < L by omega) (by omega)) dL_law_423 ?_
      refine lv_topi (fun v123 e123 => ?_)
      obtain ⟨ty125, kn125, no125, en125, at125, sa125, sd125, wr125, pl125, va125, hF125, hb125_1, hb125_2, hb125_3, hb125_4, hb125_5, hb125_6⟩ := wt_m hW120
      refine r_cVi (As := [.int v123]) (rest := []) S hK hZ hP120 hS120 hl.1 58 (by decide) hF125 (C := RX8) rfl (c_X8_drift l D cA ad t hI F120 hW120 v123) (cwV 1 S.2.2.2.2 gL_law_X8_drift rfl rfl rfl (by decide +kernel) ⟨Nat.le_of_ble_eq_true rfl, Nat.le_of_ble_eq_true rfl⟩) rfl rfl (Nat.le_of_ble_eq_true rfl) ⟨by decide +kernel, by decide +kernel⟩ dL_law_424 (fun r124 F124 H124 locs124 hr124 hP124 hS124 => ?_)
      obtain ⟨hW124, hFc124, hr124⟩ := hr124
      refine lv_pop S.1 S.2.1 dL_law_427 rfl ?_
      refine lv_goto (tgt := 841) S.1 S.2.1 dL_law_428 (by decide) ?_
      refine lv_iinc (v := (nI (i + 3))) (lv' := [(3, .int (nI (i + 3))), (0, .ref b), (1, .ref (ad 0)), (2, .ref (ad 58))]) S.1 S.2.1 dL_law_841 hl (k := 3) rfl (nI_add _ 3) (by decide) rfl (fun ls126 hl126 => ?_)
      refine lv_goto (tgt := 18) S.1 S.2.1 dL_law_844 (by decide) ?_
      exact ih (i + 3) F124 H124 locs124 (by omega) (by omega) hW124 hP124 hS124 ls126 (lv_sub hl126 [1, 2, 3, 0] rfl)
    by_cases hs7_11 : v6.toInt = 11
    · refine lv_tableIn (off := 399) (tgt := 431) S.1 S.2.1 dL_law_32 (by omega) (by omega) (by rw [hs7_11]; rfl) (by decide) ?_
      refine lv_aload_n S.1 S.2.1 dL_law_431 rfl (lv_at hl 1 rfl) ?_
      obtain ⟨c128, d128, k128, dr128, hF128, hc128, hd128, hk128⟩ := wt_main hW
      refine r_cVi (As := []) (rest := []) S hK hZ hP hS hl.1 0 (by decide) hF128 (C := RX7) rfl (c_X7_undo l D cA ad t hI F hW ) (cwV 0 S.2.2.2.2 gL_law_X7_undo rfl rfl rfl (by decide +kernel) ⟨Nat.le_of_ble_eq_true rfl, Nat.le_of_ble_eq_true rfl⟩) rfl rfl (Nat.le_of_ble_eq_true rfl) ⟨by decide +kernel, by decide +kernel⟩ dL_law_432 (fun r127 F127 H127 locs127 hr127 hP127 hS127 => ?_)
      obtain ⟨hW127, hFc127, hr127⟩ := hr127
      refine lv_pop S.1 S.2.1 dL_law_435 rfl ?_
      refine lv_aload_n S.1 S.2.1 dL_law_436 rfl (lv_at hl 2 rfl) ?_
      obtain ⟨ty130, kn130, no130, en130, at130, sa130, sd130, wr130, pl130, va130, hF130, hb130_1, hb130_2, hb130_3, hb130_4, hb130_5, hb130_6⟩ := wt_m hW127
      refine r_cVi (As := []) (rest := []) S hK hZ hP127 hS127 hl.1 58 (by decide) hF130 (C := RX8) rfl (c_X8_undo l D cA ad t hI F127 hW127 ) (cwV 0 S.2.2.2.2 gL_law_X8_undo rfl rfl rfl (by decide +kernel) ⟨Nat.le_of_ble_eq_true rfl, Nat.le_of_ble_eq_true rfl⟩) rfl rfl (Nat.le_of_ble_eq_true rfl) ⟨by decide +kernel, by decide +kernel⟩ dL_law_437 (fun r129 F129 H129 locs129 hr129 hP129 hS129 => ?_)
      obtain ⟨hW129, hFc129, hr129⟩ := hr129
      refine lv_pop S.1 S.2.1 dL_law_440 rfl ?_
      refine lv_goto (tgt := 841) S.1 S.2.1 dL_law_441 (by decide) ?_
      refine lv_iinc (v := (nI (i + 3))) (lv' := [(3, .int (nI (i + 3))), (0, .ref b), (1, .ref (ad 0)), (2, .ref (ad 58))]) S.1 S.2.1 dL_law_841 hl (k := 3) rfl (nI_add _ 3) (by decide) rfl (fun ls131 hl131 => ?_)
      refine lv_goto (tgt := 18) S.1 S.2.1 dL_law_844 (by decide) ?_
      exact ih (i + 3) F129 H129 locs129 (by omega) (by omega) hW129 hP129 hS129 ls131 (lv_sub hl131 [1, 2, 3, 0] rfl)
    by_cases hs7_12 : v6.toInt = 12
    · refine lv_tableIn (off := 412) (tgt := 444) S.1 S.2.1 dL_law_32 (by omega) (by omega) (by rw [hs7_12]; rfl) (by decide) ?_
      refine lv_aload_n S.1 S.2.1 dL_law_444 rfl (lv_at hl 1 rfl) ?_
      refine lv_aload_n S.1 S.2.1 dL_law_445 rfl (lv_at hl 0 rfl) ?_
      refine lv_iload_n S.1 S.2.1 dL_law_446 rfl (lv_at hl 3 rfl) ?_
      refine lv_iconst (v := (nI 1)) S.1 S.2.1 dL_law_447 (by decide +kernel) ?_
      refine lv_iadd S.1 S.2.1 dL_law_448 ?_
      refine lv_topi (fun v132 e132 => ?_)
      obtain rfl : v132 = nI (i + 1) := e132.trans (nI_add _ _)
      refine va_sld S.1 S.2.1 hX hbl hbA hS (vp_in_nI (show i + 1 < L by omega) (by omega)) dL_law_449 ?_
      refine lv_topi (fun v133 e133 => ?_)
      obtain ⟨c135, d135, k135, dr135, hF135, hc135, hd135, hk135⟩ := wt_main hW
      refine r_cVp (As := [.int v133]) (rest := []) S hK hZ hP hS hl.1 0 (by decide) hF135 (C := RX7) rfl (c_X7_may l D cA ad t hI F hW v133) (cwV 1 S.2.2.2.2 gL_law_X7_may rfl rfl rfl (by decide +kernel) ⟨Nat.le_of_ble_eq_true rfl, Nat.le_of_ble_eq_true rfl⟩) rfl rfl (Nat.le_of_ble_eq_true rfl) ⟨by decide +kernel, by decide +kernel⟩ dL_law_450 (fun r134 hr134 => ?_)
      refine lv_pop S.1 S.2.1 dL_law_453 rfl ?_
      refine lv_aload_n S.1 S.2.1 dL_law_454 rfl (lv_at hl 2 rfl) ?_
      refine lv_aload_n S.1 S.2.1 dL_law_455 rfl (lv_at hl 0 rfl) ?_
      refine lv_iload_n S.1 S.2.1 dL_law_456 rfl (lv_at hl 3 rfl) ?_
      refine lv_iconst (v := (nI 1)) S.1 S.2.1 dL_law_457 (by decide +kernel) ?_
      refine lv_iadd S.1 S.2.1 dL_law_458 ?_
      refine lv_topi (fun v136 e136 => ?_)
      obtain rfl : v136 = nI (i + 1) := e136.trans (nI_add _ _)
      refine va_sld S.1 S.2.1 hX hbl hbA hS (vp_in_nI (show i + 1 < L by omega) (by omega)) dL_law_459 ?_
      refine lv_topi (fun v137 e137 => ?_)
      obtain ⟨ty139, kn139, no139, en139, at139, sa139, sd139, wr139, pl139, va139, hF139, hb139_1, hb139_2, hb139_3, hb139_4, hb139_5, hb139_6⟩ := wt_m hW
      refine r_cVp (As := [.int v137]) (rest := []) S hK hZ hP hS hl.1 58 (by decide) hF139 (C := RX8) rfl (c_X8_may l D cA ad t hI F hW v137) (cwV 1 S.2.2.2.2 gL_law_X8_may rfl rfl rfl (by decide +kernel) ⟨Nat.le_of_ble_eq_true rfl, Nat.le_of_ble_eq_true rfl⟩) rfl rfl (Nat.le_of_ble_eq_true rfl) ⟨by decide +kernel, by decide +kernel⟩ dL_law_460 (fun r138 hr138 => ?_)
      refine lv_pop S.1 S.2.1 dL_law_463 rfl ?_
      refine lv_goto (tgt := 841) S.1 S.2.1 dL_law_464 (by decide) ?_
      refine lv_iinc (v := (nI (i + 3))) (lv' := [(3, .int (nI (i + 3))), (0, .ref b), (1, .ref (ad 0)), (2, .ref (ad 58))]) S.1 S.2.1 dL_law_841 hl (k := 3) rfl (nI_add _ 3) (by decide) rfl (fun ls140 hl140 => ?_)
      refine lv_goto (tgt := 18) S.1 S.2.1 dL_law_844 (by decide) ?_
      exact ih (i + 3) F H locs (by omega) (by omega) hW hP hS ls140 (lv_sub hl140 [1, 2, 3, 0] rfl)
    by_cases hs7_13 : v6.toInt = 13
    · refine lv_tableIn (off := 435) (tgt := 467) S.1 S.2.1 dL_law_32 (by omega) (by omega) (by rw [hs7_13]; rfl) (by decide) ?_
      refine lv_aload_n S.1 S.2.1 dL_law_467 rfl (lv_at hl 1 rfl) ?_
      refine lv_aload_n S.1 S.2.1 dL_law_468 rfl (lv_at hl 0 rfl) ?_
      refine lv_iload_n S.1 S.2.1 dL_law_469 rfl (lv_at hl 3 rfl) ?_
      refine lv_iconst (v := (nI 1)) S.1 S.2.1 dL_law_470 (by decide +kernel) ?_
      refine lv_iadd S.1 S.2.1 dL_law_471 ?_
      refine lv_topi (fun v141 e141 => ?_)
      obtain rfl : v141 = nI (i + 1) := e141.trans (nI_add _ _)
      refine va_sld S.1 S.2.1 hX hbl hbA hS (vp_in_nI (show i + 1 < L by omega) (by omega)) dL_law_472 ?_
      refine lv_topi (fun v142 e142 => ?_)
      obtain ⟨c144, d144, k144, dr144, hF144, hc144, hd144, hk144⟩ := wt_main hW
      refine r_cVi (As := [.int v142]) (rest := []) S hK hZ hP hS hl.1 0 (by decide) hF144 (C := RX7) rfl (c_X7_reach l D cA ad t hI F hW v142) (cwV 1 S.2.2.2.2 gL_law_X7_reach rfl rfl rfl (by decide +kernel) ⟨Nat.le_of_ble_eq_true rfl, Nat.le_of_ble_eq_true rfl⟩) rfl rfl (Nat.le_of_ble_eq_true rfl) ⟨by decide +kernel, by decide +kernel⟩ dL_law_473 (fun r143 F143 H143 locs143 hr143 hP143 hS143 => ?_)
      obtain ⟨hW143, hFc143, hr143⟩ := hr143
      refine lv_pop S.1 S.2.1 dL_law_476 rfl ?_
      refine lv_aload_n S.1 S.2.1 dL_law_477 rfl (lv_at hl 2 rfl) ?_
      refine lv_aload_n S.1 S.2.1 dL_law_478 rfl (lv_at hl 0 rfl) ?_
      refine lv_iload_n S.1 S.2.1 dL_law_479 rfl (lv_at hl 3 rfl) ?_
      refine lv_iconst (v := (nI 1)) S.1 S.2.1 dL_law_480 (by decide +kernel) ?_
      refine lv_iadd S.1 S.2.1 dL_law_481 ?_
      refine lv_topi (fun v145 e145 => ?_)
      obtain rfl : v145 = nI (i + 1) := e145.trans (nI_add _ _)
      refine va_sld S.1 S.2.1 hX hbl hbA hS143 (vp_in_nI (show i + 1 < L by omega) (by omega)) dL_law_482 ?_
      refine lv_topi (fun v146 e146 => ?_)
      obtain ⟨ty148, kn148, no148, en148, at148, sa148, sd148, wr148, pl148, va148, hF148, hb148_1, hb148_2, hb148_3, hb148_4, hb148_5, hb148_6⟩ := wt_m hW143
      refine r_cVp (As := [.int v146]) (rest := []) S hK hZ hP143 hS143 hl.1 58 (by decide) hF148 (C := RX8) rfl (c_X8_reach l D cA ad t hI F143 hW143 v146) (cwV 1 S.2.2.2.2 gL_law_X8_reach rfl rfl rfl (by decide +kernel) ⟨Nat.le_of_ble_eq_true rfl, Nat.le_of_ble_eq_true rfl⟩) rfl rfl (Nat.le_of_ble_eq_true rfl) ⟨by decide +kernel, by decide +kernel⟩ dL_law_483 (fun r147 hr147 => ?_)
      refine lv_pop S.1 S.2.1 dL_law_486 rfl ?_
      refine lv_goto (tgt := 841) S.1 S.2.1 dL_law_487 (by decide) ?_
      refine lv_iinc (v := (nI (i + 3))) (lv' := [(3, .int (nI (i + 3))), (0, .ref b), (1, .ref (ad 0)), (2, .ref (ad 58))]) S.1 S.2.1 dL_law_841 hl (k := 3) rfl (nI_add _ 3) (by decide) rfl (fun ls149 hl149 => ?_)
      refine lv_goto (tgt := 18) S.1 S.2.1 dL_law_844 (by decide) ?_
      exact ih (i + 3) F143 H143 locs143 (by omega) (by omega) hW143 hP143 hS143 ls149 (lv_sub hl149 [1, 2, 3, 0] rfl)
    by_cases hs7_14 : v6.toInt = 14
    · refine lv_tableIn (off := 458) (tgt := 490) S.1 S.2.1 dL_law_32 (by omega) (by omega) (by rw [hs7_14]; rfl) (by decide) ?_
      refine lv_aload_n S.1 S.2.1 dL_law_490 rfl (lv_at hl 1 rfl) ?_
      refine lv_aload_n S.1 S.2.1 dL_law_491 rfl (lv_at hl 0 rfl) ?_
      refine lv_iload_n S.1 S.2.1 dL_law_492 rfl (lv_at hl 3 rfl) ?_
      refine lv_iconst (v := (nI 1)) S.1 S.2.1 dL_law_493 (by decide +kernel) ?_
      refine lv_iadd S.1 S.2.1 dL_law_494 ?_
      refine lv_topi (fun v150 e150 => ?_)
      obtain rfl : v150 = nI (i + 1) := e150.trans (nI_add _ _)
      refine va_sld S.1 S.2.1 hX hbl hbA hS (vp_in_nI (show i + 1 < L by omega) (by omega)) dL_law_495 ?_
      refine lv_topi (fun v151 e151 => ?_)
      refine lv_aload_n S.1 S.2.1 dL_law_496 rfl (lv_at hl 0 rfl) ?_
      refine lv_iload_n S.1 S.2.1 dL_law_497 rfl (lv_at hl 3 rfl) ?_
      refine lv_iconst (v := (nI 2)) S.1 S.2.1 dL_law_498 (by decide +kernel) ?_
      refine lv_iadd S.1 S.2.1 dL_law_499 ?_
      refine lv_topi (fun v152 e152 => ?_)
      obtain rfl : v152 = nI (i + 2) := e152.trans (nI_add _ _)
      refine va_sld S.1 S.2.1 hX hbl hbA hS (vp_in_nI (show i + 2 < L by omega) (by omega)) dL_law_500 ?_
      refine lv_topi (fun v153 e153 => ?_)
      obtain ⟨c155, d155, k155, dr155, hF155, hc155, hd155, hk155⟩ := wt_main hW
      refine r_cVi (As := [.int v151, .int v153]) (rest := []) S hK hZ hP hS hl.1 0 (by decide) hF155 (C := RX7) rfl (c_X7_best l D cA ad t hI F hW v151 v153) (cwV 2 S.2.2.2.2 gL_law_X7_best rfl rfl rfl (by decide +kernel) ⟨Nat.le_of_ble_eq_true rfl, Nat.le_of_ble_eq_true rfl⟩) rfl rfl (Nat.le_of_ble_eq_true rfl) ⟨by decide +kernel, by decide +kernel⟩ dL_law_501 (fun r154 F154 H154 locs154 hr154 hP154 hS154 => ?_)
      obtain ⟨hW154, hFc154, hr154⟩ := hr154
      refine lv_pop S.1 S.2.1 dL_law_504 rfl ?_
      refine lv_aload_n S.1 S.2.1 dL_law_505 rfl (lv_at hl 2 rfl) ?_
      refine lv_aload_n S.1 S.2.1 dL_law_506 rfl (lv_at hl 0 rfl) ?_
      refine lv_iload_n S.1 S.2.1 dL_law_507 rfl (lv_at hl 3 rfl) ?_
      refine lv_iconst (v := (nI 1)) S.1 S.2.1 dL_law_508 (by decide +kernel) ?_
      refine lv_iadd S.1 S.2.1 dL_law_509 ?_
      refine lv_topi (fun v156 e156 => ?_)
      obtain rfl : v156 = nI (i + 1) := e156.trans (nI_add _ _)
      refine va_sld S.1 S.2.1 hX hbl hbA hS154 (vp_in_nI (show i + 1 < L by omega) (by omega)) dL_law_510 ?_
      refine lv_topi (fun v157 e157 => ?_)
      refine lv_aload_n S.1 S.2.1 dL_law_511 rfl (lv_at hl 0 rfl) ?_
      refine lv_iload_n S.1 S.2.1 dL_law_512 rfl (lv_at hl 3 rfl) ?_
      refine lv_iconst (v := (nI 2)) S.1 S.2.1 dL_law_513 (by decide +kernel) ?_
      refine lv_iadd S.1 S.2.1 dL_law_514 ?_
      refine lv_topi (fun v158 e158 => ?_)
      obtain rfl : v158 = nI (i + 2) := e158.trans (nI_add _ _)
      refine va_sld S.1 S.2.1 hX hbl hbA hS154 (vp_in_nI (show i + 2 < L by omega) (by omega)) dL_law_515 ?_
      refine lv_topi (fun v159 e159 => ?_)
      obtain ⟨ty161, kn161, no161, en161, at161, sa161, sd161, wr161, pl161, va161, hF161, hb161_1, hb161_2, hb161_3, hb161_4, hb161_5, hb161_6⟩ := wt_m hW154
      refine r_cVi (As := [.int v157, .int v159]) (rest := []) S hK hZ hP154 hS154 hl.1 58 (by decide) hF161 (C := RX8) rfl (c_X8_best l D cA ad t hI F154 hW154 v157 v159) (cwV 2 S.2.2.2.2 gL_law_X8_best rfl rfl rfl (by decide +kernel) ⟨Nat.le_of_ble_eq_true rfl, Nat.le_of_ble_eq_true rfl⟩) rfl rfl (Nat.le_of_ble_eq_true rfl) ⟨by decide +kernel, by decide +kernel⟩ dL_law_516 (fun r160 F160 H160 locs160 hr160 hP160 hS160 => ?_)
      obtain ⟨hW160, hFc160, hr160⟩ := hr160
      refine lv_pop S.1 S.2.1 dL_law_519 rfl ?_
      refine lv_goto (tgt := 841) S.1 S.2.1 dL_law_520 (by decide) ?_
      refine lv_iinc (v := (nI (i + 3))) (lv' := [(3, .int (nI (i + 3))), (0, .ref b), (1, .ref (ad 0)), (2, .ref (ad 58))]) S.1 S.2.1 dL_law_841 hl (k := 3) rfl (nI_add _ 3) (by decide) rfl (fun ls162 hl162 => ?_)
      refine lv_goto (tgt := 18) S.1 S.2.1 dL_law_844 (by decide) ?_
      exact ih (i + 3) F160 H160 locs160 (by omega) (by omega) hW160 hP160 hS160 ls162 (lv_sub hl162 [1, 2, 3, 0] rfl)
    by_cases hs7_15 : v6.toInt = 15
    · refine lv_tableIn (off := 491) (tgt := 523) S.1 S.2.1 dL_law_32 (by omega) (by omega) (by rw [hs7_15]; rfl) (by decide) ?_
      refine lv_aload_n S.1 S.2.1 dL_law_523 rfl (lv_at hl 1 rfl) ?_
      refine lv_aload_n S.1 S.2.1 dL_law_524 rfl (lv_at hl 0 rfl) ?_
      refine lv_iload_n S.1 S.2.1 dL_law_525 rfl (lv_at hl 3 rfl) ?_
      refine lv_iconst (v := (nI 1)) S.1 S.2.1 dL_law_526 (by decide +kernel) ?_
      refine lv_iadd S.1 S.2.1 dL_law_527 ?_
      refine lv_topi (fun v163 e163 => ?_)
      obtain rfl : v163 = nI (i + 1) := e163.trans (nI_add _ _)
      refine va_sld S.1 S.2.1 hX hbl hbA hS (vp_in_nI (show i + 1 < L by omega) (by omega)) dL_law_528 ?_
      refine lv_topi (fun v164 e164 => ?_)
      obtain ⟨c166, d166, k166, dr166, hF166, hc166, hd166, hk166⟩ := wt_main hW
      refine r_cVi (As := [.int v164]) (rest := []) S hK hZ hP hS hl.1 0 (by decide) hF166 (C := RX7) rfl (c_X7_seals l D cA ad t hI F hW v164) (cwV 1 S.2.2.2.2 gL_law_X7_seals rfl rfl rfl (by decide +kernel) ⟨Nat.le_of_ble_eq_true rfl, Nat.le_of_ble_eq_true rfl⟩) rfl rfl (Nat.le_of_ble_eq_true rfl) ⟨by decide +kernel, by decide +kernel⟩ dL_law_529 (fun r165 F165 H165 locs165 hr165 hP165 hS165 => ?_)
      obtain ⟨hW165, hFc165, hr165⟩ := hr165
      refine lv_pop S.1 S.2.1 dL_law_532 rfl ?_
      refine lv_aload_n S.1 S.2.1 dL_law_533 rfl (lv_at hl 2 rfl) ?_
      refine lv_aload_n S.1 S.2.1 dL_law_534 rfl (lv_at hl 0 rfl) ?_
      refine lv_iload_n S.1 S.2.1 dL_law_535 rfl (lv_at hl 3 rfl) ?_
      refine lv_iconst (v := (nI 1)) S.1 S.2.1 dL_law_536 (by decide +kernel) ?_
      refine lv_iadd S.1 S.2.1 dL_law_537 ?_
      refine lv_topi (fun v167 e167 => ?_)
      obtain rfl : v167 = nI (i + 1) := e167.trans (nI_add _ _)
      refine va_sld S.1 S.2.1 hX hbl hbA hS165 (vp_in_nI (show i + 1 < L by omega) (by omega)) dL_law_538 ?_
      refine lv_topi (fun v168 e168 => ?_)
      obtain ⟨ty170, kn170, no170, en170, at170, sa170, sd170, wr170, pl170, va170, hF170, hb170_1, hb170_2, hb170_3, hb170_4, hb170_5, hb170_6⟩ := wt_m hW165
      refine r_cVi (As := [.int v168]) (rest := []) S hK hZ hP165 hS165 hl.1 58 (by decide) hF170 (C := RX8) rfl (c_X8_seals l D cA ad t hI F165 hW165 v168) (cwV 1 S.2.2.2.2 gL_law_X8_seals rfl rfl rfl (by decide +kernel) ⟨Nat.le_of_ble_eq_true rfl, Nat.le_of_ble_eq_true rfl⟩) rfl rfl (Nat.le_of_ble_eq_true rfl) ⟨by decide +kernel, by decide +kernel⟩ dL_law_539 (fun r169 F169 H169 locs169 hr169 hP169 hS169 => ?_)
      obtain ⟨hW169, hFc169, hr169⟩ := hr169
      refine lv_pop S.1 S.2.1 dL_law_542 rfl ?_
      refine lv_goto (tgt := 841) S.1 S.2.1 dL_law_543 (by decide) ?_
      refine lv_iinc (v := (nI (i + 3))) (lv' := [(3, .int (nI (i + 3))), (0, .ref b), (1, .ref (ad 0)), (2, .ref (ad 58))]) S.1 S.2.1 dL_law_841 hl (k := 3) rfl (nI_add _ 3) (by decide) rfl (fun ls171 hl171 => ?_)
      refine lv_goto (tgt := 18) S.1 S.2.1 dL_law_844 (by decide) ?_
      exact ih (i + 3) F169 H169 locs169 (by omega) (by omega) hW169 hP169 hS169 ls171 (lv_sub hl171 [1, 2, 3, 0] rfl)
    by_cases hs7_16 : v6.toInt = 16
    · refine lv_tableIn (off := 514) (tgt := 546) S.1 S.2.1 dL_law_32 (by omega) (by omega) (by rw [hs7_16]; rfl) (by decide) ?_
      refine lv_aload_n S.1 S.2.1 dL_law_546 rfl (lv_at hl 1 rfl) ?_
      refine lv_aload_n S.1 S.2.1 dL_law_547 rfl (lv_at hl 0 rfl) ?_
      refine lv_iload_n S.1 S.2.1 dL_law_548 rfl (lv_at hl 3 rfl) ?_
      refine lv_iconst (v := (nI 1)) S.1 S.2.1 dL_law_549 (by decide +kernel) ?_
      refine lv_iadd S.1 S.2.1 dL_law_550 ?_
      refine lv_topi (fun v172 e172 => ?_)
      obtain rfl : v172 = nI (i + 1) := e172.trans (nI_add _ _)
      refine va_sld S.1 S.2.1 hX hbl hbA hS (vp_in_nI (show i + 1 < L by omega) (by omega)) dL_law_551 ?_
      refine lv_topi (fun v173 e173 => ?_)
      obtain ⟨c175, d175, k175, dr175, hF175, hc175, hd175, hk175⟩ := wt_main hW
      refine r_cVi (As := [.int v173]) (rest := []) S hK hZ hP hS hl.1 0 (by decide) hF175 (C := RX7) rfl (c_X7_two l D cA ad t hI F hW v173) (cwV 1 S.2.2.2.2 gL_law_X7_two rfl rfl rfl (by decide +kernel) ⟨Nat.le_of_ble_eq_true rfl, Nat.le_of_ble_eq_true rfl⟩) rfl rfl (Nat.le_of_ble_eq_true rfl) ⟨by decide +kernel, by decide +kernel⟩ dL_law_552 (fun r174 F174 H174 locs174 hr174 hP174 hS174 => ?_)
      obtain ⟨hW174, hFc174, hr174⟩ := hr174
      refine lv_pop S.1 S.2.1 dL_law_555 rfl ?_
      refine lv_aload_n S.1 S.2.1 dL_law_556 rfl (lv_at hl 2 rfl) ?_
      refine lv_aload_n S.1 S.2.1 dL_law_557 rfl (lv_at hl 0 rfl) ?_
      refine lv_iload_n S.1 S.2.1 dL_law_558 rfl (lv_at hl 3 rfl) ?_
      refine lv_iconst (v := (nI 1)) S.1 S.2.1 dL_law_559 (by decide +kernel) ?_
      refine lv_iadd S.1 S.2.1 dL_law_560 ?_
      refine lv_topi (fun v176 e176 => ?_)
      obtain rfl : v176 = nI (i + 1) := e176.trans (nI_add _ _)
      refine va_sld S.1 S.2.1 hX hbl hbA hS174 (vp_in_nI (show i + 1 < L by omega) (by omega)) dL_law_561 ?_
      refine lv_topi (fun v177 e177 => ?_)
      obtain ⟨ty179, kn179, no179, en179, at179, sa179, sd179, wr179, pl179, va179, hF179, hb179_1, hb179_2, hb179_3, hb179_4, hb179_5, hb179_6⟩ := wt_m hW174
      refine r_cVp (As := [.int v177]) (rest := []) S hK hZ hP174 hS174 hl.1 58 (by decide) hF179 (C := RX8) rfl (c_X8_two l D cA ad t hI F174 hW174 v177) (cwV 1 S.2.2.2.2 gL_law_X8_two rfl rfl rfl (by decide +kernel) ⟨Nat.le_of_ble_eq_true rfl, Nat.le_of_ble_eq_true rfl⟩) rfl rfl (Nat.le_of_ble_eq_true rfl) ⟨by decide +kernel, by decide +kernel⟩ dL_law_562 (fun r178 hr178 => ?_)
      refine lv_pop S.1 S.2.1 dL_law_565 rfl ?_
      refine lv_goto (tgt := 841) S.1 S.2.1 dL_law_566 (by decide) ?_
      refine lv_iinc (v := (nI (i + 3))) (lv' := [(3, .int (nI (i + 3))), (0, .ref b), (1, .ref (ad 0)), (2, .ref (ad 58))]) S.1 S.2.1 dL_law_841 hl (k := 3) rfl (nI_add _ 3) (by decide) rfl (fun ls180 hl180 => ?_)
      refine lv_goto (tgt := 18) S.1 S.2.1 dL_law_844 (by decide) ?_
      exact ih (i + 3) F174 H174 locs174 (by omega) (by omega) hW174 hP174 hS174 ls180 (lv_sub hl180 [1, 2, 3, 0] rfl)
    by_cases hs7_17 : v6.toInt = 17
    · refine lv_tableIn (off := 537) (tgt := 569) S.1 S.2.1 dL_law_32 (by omega) (by omega) (by rw [hs7_17]; rfl) (by decide) ?_
      refine lv_aload_n S.1 S.2.1 dL_law_569 rfl (lv_at hl 1 rfl) ?_
      obtain ⟨c182, d182, k182, dr182, hF182, hc182, hd182, hk182⟩ := wt_main hW
      refine r_cVp (As := []) (rest := []) S hK hZ hP hS hl.1 0 (by decide) hF182 (C := RX7) rfl (c_X7_idle l D cA ad t hI F hW ) (cwV 0 S.2.2.2.2 gL_law_X7_idle rfl rfl rfl (by decide +kernel) ⟨Nat.le_of_ble_eq_true rfl, Nat.le_of_ble_eq_true rfl⟩) rfl rfl (Nat.le_of_ble_eq_true rfl) ⟨by decide +kernel, by decide +kernel⟩ dL_law_570 (fun r181 hr181 => ?_)
      refine lv_pop S.1 S.2.1 dL_law_573 rfl ?_
      refine lv_aload_n S.1 S.2.1 dL_law_574 rfl (lv_at hl 2 rfl) ?_
      obtain ⟨ty184, kn184, no184, en184, at184, sa184, sd184, wr184, pl184, va184, hF184, hb184_1, hb184_2, hb184_3, hb184_4, hb184_5, hb184_6⟩ := wt_m hW
      refine r_cVp (As := []) (rest := []) S hK hZ hP hS hl.1 58 (by decide) hF184 (C := RX8) rfl (c_X8_idle l D cA ad t hI F hW ) (cwV 0 S.2.2.2.2 gL_law_X8_idle rfl rfl rfl (by decide +kernel) ⟨Nat.le_of_ble_eq_true rfl, Nat.le_of_ble_eq_true rfl⟩) rfl rfl (Nat.le_of_ble_eq_true rfl) ⟨by decide +kernel, by decide +kernel⟩ dL_law_575 (fun r183 hr183 => ?_)
      refine lv_pop S.1 S.2.1 dL_law_578 rfl ?_
      refine lv_goto (tgt := 841) S.1 S.2.1 dL_law_579 (by decide) ?_
      refine lv_iinc (v := (nI (i + 3))) (lv' := [(3, .int (nI (i + 3))), (0, .ref b), (1, .ref (ad 0)), (2, .ref (ad 58))]) S.1 S.2.1 dL_law_841 hl (k := 3) rfl (nI_add _ 3) (by decide) rfl (fun ls185 hl185 => ?_)
      refine lv_goto (tgt := 18) S.1 S.2.1 dL_law_844 (by decide) ?_
      exact ih (i + 3) F H locs (by omega) (by omega) hW hP hS ls185 (lv_sub hl185 [1, 2, 3, 0] rfl)
    by_cases hs7_18 : v6.toInt = 18
    · refine lv_tableIn (off := 550) (tgt := 582) S.1 S.2.1 dL_law_32 (by omega) (by omega) (by rw [hs7_18]; rfl) (by decide) ?_
      refine lv_aload_n S.1 S.2.1 dL_law_582 rfl (lv_at hl 1 rfl) ?_
      obtain ⟨c187, d187, k187, dr187, hF187, hc187, hd187, hk187⟩ := wt_main hW
      refine r_cVi (As := []) (rest := []) S hK hZ hP hS hl.1 0 (by decide) hF187 (C := RX7) rfl (c_X7_stranded l D cA ad t hI F hW ) (cwV 0 S.2.2.2.2 gL_law_X7_stranded rfl rfl rfl (by decide +kernel) ⟨Nat.le_of_ble_eq_true rfl, Nat.le_of_ble_eq_true rfl⟩) rfl rfl (Nat.le_of_ble_eq_true rfl) ⟨by decide +kernel, by decide +kernel⟩ dL_law_583 (fun r186 F186 H186 locs186 hr186 hP186 hS186 => ?_)
      obtain ⟨hW186, hFc186, hr186⟩ := hr186
      refine lv_pop S.1 S.2.1 dL_law_586 rfl ?_
      refine lv_aload_n S.1 S.2.1 dL_law_587 rfl (lv_at hl 2 rfl) ?_
      obtain ⟨ty189, kn189, no189, en189, at189, sa189, sd189, wr189, pl189, va189, hF189, hb189_1, hb189_2, hb189_3, hb189_4, hb189_5, hb189_6⟩ := wt_m hW186
      refine r_cVp (As := []) (rest := []) S hK hZ hP186 hS186 hl.1 58 (by decide) hF189 (C := RX8) rfl (c_X8_stranded l D cA ad t hI F186 hW186 ) (cwV 0 S.2.2.2.2 gL_law_X8_stranded rfl rfl rfl (by decide +kernel) ⟨Nat.le_of_ble_eq_true rfl, Nat.le_of_ble_eq_true rfl⟩) rfl rfl (Nat.le_of_ble_eq_true rfl) ⟨by decide +kernel, by decide +kernel⟩ dL_law_588 (fun r188 hr188 => ?_)
      refine lv_pop S.1 S.2.1 dL_law_591 rfl ?_
      refine lv_goto (tgt := 841) S.1 S.2.1 dL_law_592 (by decide) ?_
      refine lv_iinc (v := (nI (i + 3))) (lv' := [(3, .int (nI (i + 3))), (0, .ref b), (1, .ref (ad 0)), (2, .ref (ad 58))]) S.1 S.2.1 dL_law_841 hl (k := 3) rfl (nI_add _ 3) (by decide) rfl (fun ls190 hl190 => ?_)
      refine lv_goto (tgt := 18) S.1 S.2.1 dL_law_844 (by decide) ?_
      exact ih (i + 3) F186 H186 locs186 (by omega) (by omega) hW186 hP186 hS186 ls190 (lv_sub hl190 [1, 2, 3, 0] rfl)
    by_cases hs7_19 : v6.toInt = 19
    · refine lv_tableIn (off := 563) (tgt := 595) S.1 S.2.1 dL_law_32 (by omega) (by omega) (by rw [hs7_19]; rfl) (by decide) ?_
      refine lv_aload_n S.1 S.2.1 dL_law_595 rfl (lv_at hl 1 rfl) ?_
      refine lv_aload_n S.1 S.2.1 dL_law_596 rfl (lv_at hl 0 rfl) ?_
      refine lv_iload_n S.1 S.2.1 dL_law_597 rfl (lv_at hl 3 rfl) ?_
      refine lv_iconst (v := (nI 1)) S.1 S.2.1 dL_law_598 (by decide +kernel) ?_
      refine lv_iadd S.1 S.2.1 dL_law_599 ?_
      refine lv_topi (fun v191 e191 => ?_)
      obtain rfl : v191 = nI (i + 1) := e191.trans (nI_add _ _)
      refine va_sld S.1 S.2.1 hX hbl hbA hS (vp_in_nI (show i + 1 < L by omega) (by omega)) dL_law_600 ?_
      refine lv_topi (fun v192 e192 => ?_)
      refine lv_aload_n S.1 S.2.1 dL_law_601 rfl (lv_at hl 0 rfl) ?_
      refine lv_iload_n S.1 S.2.1 dL_law_602 rfl (lv_at hl 3 rfl) ?_
      refine lv_iconst (v := (nI 2)) S.1 S.2.1 dL_law_603 (by decide +kernel) ?_
      refine lv_iadd S.1 S.2.1 dL_law_604 ?_
      refine lv_topi (fun v193 e193 => ?_)
      obtain rfl : v193 = nI (i + 2) := e193.trans (nI_add _ _)
      refine va_sld S.1 S.2.1 hX hbl hbA hS (vp_in_nI (show i + 2 < L by omega) (by omega)) dL_law_605 ?_
      refine lv_topi (fun v194 e194 => ?_)
      obtain ⟨c196, d196, k196, dr196, hF196, hc196, hd196, hk196⟩ := wt_main hW
      refine r_cVp (As := [.int v192, .int v194]) (rest := []) S hK hZ hP hS hl.1 0 (by decide) hF196 (C := RX7) rfl (c_X7_snow l D cA ad t hI F hW v192 v194) (cwV 2 S.2.2.2.2 gL_law_X7_snow rfl rfl rfl (by decide +kernel) ⟨Nat.le_of_ble_eq_true rfl, Nat.le_of_ble_eq_true rfl⟩) rfl rfl (Nat.le_of_ble_eq_true rfl) ⟨by decide +kernel, by decide +kernel⟩ dL_law_606 (fun r195 hr195 => ?_)
      refine lv_pop S.1 S.2.1 dL_law_609 rfl ?_
      refine lv_aload_n S.1 S.2.1 dL_law_610 rfl (lv_at hl 2 rfl) ?_
      refine lv_aload_n S.1 S.2.1 dL_law_611 rfl (lv_at hl 0 rfl) ?_
      refine lv_iload_n S.1 S.2.1 dL_law_612 rfl (lv_at hl 3 rfl) ?_
      refine lv_iconst (v := (nI 1)) S.1 S.2.1 dL_law_613 (by decide +kernel) ?_
      refine lv_iadd S.1 S.2.1 dL_law_614 ?_
      refine lv_topi (fun v197 e197 => ?_)
      obtain rfl : v197 = nI (i + 1) := e197.trans (nI_add _ _)
      refine va_sld S.1 S.2.1 hX hbl hbA hS (vp_in_nI (show i + 1 < L by omega) (by omega)) dL_law_615 ?_
      refine lv_topi (fun v198 e198 => ?_)
      refine lv_aload_n S.1 S.2.1 dL_law_616 rfl (lv_at hl 0 rfl) ?_
      refine lv_iload_n S.1 S.2.1 dL_law_617 rfl (lv_at hl 3 rfl) ?_
      refine lv_iconst (v := (nI 2)) S.1 S.2.1 dL_law_618 (by decide +kernel) ?_
      refine lv_iadd S.1 S.2.1 dL_law_619 ?_
      refine lv_topi (fun v199 e199 => ?_)
      obtain rfl : v199 = nI (i + 2) := e199.trans (nI_add _ _)
      refine va_sld S.1 S.2.1 hX hbl hbA hS (vp_in_nI (show i + 2 < L by omega) (by omega)) dL_law_620 ?_
      refine lv_topi (fun v200 e200 => ?_)
      obtain ⟨ty202, kn202, no202, en202, at202, sa202, sd202, wr202, pl202, va202, hF202, hb202_1, hb202_2, hb202_3, hb202_4, hb202_5, hb202_6⟩ := wt_m hW
      refine r_cVp (As := [.int v198, .int v200]) (rest := []) S hK hZ hP hS hl.1 58 (by decide) hF202 (C := RX8) rfl (c_X8_snow l D cA ad t hI F hW v198 v200) (cwV 2 S.2.2.2.2 gL_law_X8_snow rfl rfl rfl (by decide +kernel) ⟨Nat.le_of_ble_eq_true rfl, Nat.le_of_ble_eq_true rfl⟩) rfl rfl (Nat.le_of_ble_eq_true rfl) ⟨by decide +kernel, by decide +kernel⟩ dL_law_621 (fun r201 hr201 => ?_)
      refine lv_pop S.1 S.2.1 dL_law_624 rfl ?_
      refine lv_goto (tgt := 841) S.1 S.2.1 dL_law_625 (by decide) ?_
      refine lv_iinc (v := (nI (i + 3))) (lv' := [(3, .int (nI (i + 3))), (0, .ref b), (1, .ref (ad 0)), (2, .ref (ad 58))]) S.1 S.2.1 dL_law_841 hl (k := 3) rfl (nI_add _ 3) (by decide) rfl (fun ls203 hl203 => ?_)
      refine lv_goto (tgt := 18) S.1 S.2.1 dL_law_844 (by decide) ?_
      exact ih (i + 3) F H locs (by omega) (by omega) hW hP hS ls203 (lv_sub hl203 [1, 2, 3, 0] rfl)
    by_cases hs7_20 : v6.toInt = 20
    · refine lv_tableIn (off := 596) (tgt := 628) S.1 S.2.1 dL_law_32 (by omega) (by omega) (by rw [hs7_20]; rfl) (by decide) ?_
      refine lv_aload_n S.1 S.2.1 dL_law_628 rfl (lv_at hl 1 rfl) ?_
      refine lv_aload_n S.1 S.2.1 dL_law_629 rfl (lv_at hl 0 rfl) ?_
      refine lv_iload_n S.1 S.2.1 dL_law_630 rfl (lv_at hl 3 rfl) ?_
      refine lv_iconst (v := (nI 1)) S.1 S.2.1 dL_law_631 (by decide +kernel) ?_
      refine lv_iadd S.1 S.2.1 dL_law_632 ?_
      refine lv_topi (fun v204 e204 => ?_)
      obtain rfl : v204 = nI (i + 1) := e204.trans (nI_add _ _)
      refine va_sld S.1 S.2.1 hX hbl hbA hS (vp_in_nI (show i + 1 < L by omega) (by omega)) dL_law_633 ?_
      refine lv_topi (fun v205 e205 => ?_)
      refine lv_aload_n S.1 S.2.1 dL_law_634 rfl (lv_at hl 0 rfl) ?_
      refine lv_iload_n S.1 S.2.1 dL_law_635 rfl (lv_at hl 3 rfl) ?_
      refine lv_iconst (v := (nI 2)) S.1 S.2.1 dL_law_636 (by decide +kernel) ?_
      refine lv_iadd S.1 S.2.1 dL_law_637 ?_
      refine lv_topi (fun v206 e206 => ?_)
      obtain rfl : v206 = nI (i + 2) := e206.trans (nI_add _ _)
      refine va_sld S.1 S.2.1 hX hbl hbA hS (vp_in_nI (show i + 2 < L by omega) (by omega)) dL_law_638 ?_
      refine lv_topi (fun v207 e207 => ?_)
      obtain ⟨c209, d209, k209, dr209, hF209, hc209, hd209, hk209⟩ := wt_main hW
      refine r_cVi (As := [.int v205, .int v207]) (rest := []) S hK hZ hP hS hl.1 0 (by decide) hF209 (C := RX7) rfl (c_X7_seal l D cA ad t hI F hW v205 v207) (cwV 2 S.2.2.2.2 gL_law_X7_seal rfl rfl rfl (by decide +kernel) ⟨Nat.le_of_ble_eq_true rfl, Nat.le_of_ble_eq_true rfl⟩) rfl rfl (Nat.le_of_ble_eq_true rfl) ⟨by decide +kernel, by decide +kernel⟩ dL_law_639 (fun r208 F208 H208 locs208 hr208 hP208 hS208 => ?_)
      obtain ⟨hW208, hFc208, hr208⟩ := hr208
      refine lv_pop S.1 S.2.1 dL_law_642 rfl ?_
      refine lv_aload_n S.1 S.2.1 dL_law_643 rfl (lv_at hl 2 rfl) ?_
      refine lv_aload_n S.1 S.2.1 dL_law_644 rfl (lv_at hl 0 rfl) ?_
      refine lv_iload_n S.1 S.2.1 dL_law_645 rfl (lv_at hl 3 rfl) ?_
      refine lv_iconst (v := (nI 1)) S.1 S.2.1 dL_law_646 (by decide +kernel) ?_
      refine lv_iadd S.1 S.2.1 dL_law_647 ?_
      refine lv_topi (fun v210 e210 => ?_)
      obtain rfl : v210 = nI (i + 1) := e210.trans (nI_add _ _)
      refine va_sld S.1 S.2.1 hX hbl hbA hS208 (vp_in_nI (show i + 1 < L by omega) (by omega)) dL_law_648 ?_
      refine lv_topi (fun v211 e211 => ?_)
      refine lv_aload_n S.1 S.2.1 dL_law_649 rfl (lv_at hl 0 rfl) ?_
      refine lv_iload_n S.1 S.2.1 dL_law_650 rfl (lv_at hl 3 rfl) ?_
      refine lv_iconst (v := (nI 2)) S.1 S.2.1 dL_law_651 (by decide +kernel) ?_
      refine lv_iadd S.1 S.2.1 dL_law_652 ?_
      refine lv_topi (fun v212 e212 => ?_)
      obtain rfl : v212 = nI (i + 2) := e212.trans (nI_add _ _)
      refine va_sld S.1 S.2.1 hX hbl hbA hS208 (vp_in_nI (show i + 2 < L by omega) (by omega)) dL_law_653 ?_
      refine lv_topi (fun v213 e213 => ?_)
      obtain ⟨ty215, kn215, no215, en215, at215, sa215, sd215, wr215, pl215, va215, hF215, hb215_1, hb215_2, hb215_3, hb215_4, hb215_5, hb215_6⟩ := wt_m hW208
      refine r_cVi (As := [.int v211, .int v213]) (rest := []) S hK hZ hP208 hS208 hl.1 58 (by decide) hF215 (C := RX8) rfl (c_X8_seal l D cA ad t hI F208 hW208 v211 v213) (cwV 2 S.2.2.2.2 gL_law_X8_seal rfl rfl rfl (by decide +kernel) ⟨Nat.le_of_ble_eq_true rfl, Nat.le_of_ble_eq_true rfl⟩) rfl rfl (Nat.le_of_ble_eq_true rfl) ⟨by decide +kernel, by decide +kernel⟩ dL_law_654 (fun r214 F214 H214 locs214 hr214 hP214 hS214 => ?_)
      obtain ⟨hW214, hFc214, hr214⟩ := hr214
      refine lv_pop S.1 S.2.1 dL_law_657 rfl ?_
      refine lv_goto (tgt := 841) S.1 S.2.1 dL_law_658 (by decide) ?_
      refine lv_iinc (v := (nI (i + 3))) (lv' := [(3, .int (nI (i + 3))), (0, .ref b), (1, .ref (ad 0)), (2, .ref (ad 58))]) S.1 S.2.1 dL_law_841 hl (k := 3) rfl (nI_add _ 3) (by decide) rfl (fun ls216 hl216 => ?_)
      refine lv_goto (tgt := 18) S.1 S.2.1 dL_law_844 (by decide) ?_
      exact ih (i + 3) F214 H214 locs214 (by omega) (by omega) hW214 hP214 hS214 ls216 (lv_sub hl216 [1, 2, 3, 0] rfl)
    by_cases hs7_21 : v6.toInt = 21
    · refine lv_tableIn (off := 629) (tgt := 661) S.1 S.2.1 dL_law_32 (by omega) (by omega) (by rw [hs7_21]; rfl) (by decide) ?_
      refine lv_aload_n S.1 S.2.1 dL_law_661 rfl (lv_at hl 1 rfl) ?_
      obtain ⟨c218, d218, k218, dr218, hF218, hc218, hd218, hk218⟩ := wt_main hW
      refine r_cVi (As := []) (rest := []) S hK hZ hP hS hl.1 0 (by decide) hF218 (C := RX7) rfl (c_X7_fits l D cA ad t hI F hW ) (cwV 0 S.2.2.2.2 gL_law_X7_fits rfl rfl rfl (by decide +kernel) ⟨Nat.le_of_ble_eq_true rfl, Nat.le_of_ble_eq_true rfl⟩) rfl rfl (Nat.le_of_ble_eq_true rfl) ⟨by decide +kernel, by decide +kernel⟩ dL_law_662 (fun r217 F217 H217 locs217 hr217 hP217 hS217 => ?_)
      obtain ⟨hW217, hFc217, hr217⟩ := hr217
      refine lv_pop S.1 S.2.1 dL_law_665 rfl ?_
      refine lv_aload_n S.1 S.2.1 dL_law_666 rfl (lv_at hl 2 rfl) ?_
      obtain ⟨ty220, kn220, no220, en220, at220, sa220, sd220, wr220, pl220, va220, hF220, hb220_1, hb220_2, hb220_3, hb220_4, hb220_5, hb220_6⟩ := wt_m hW217
      refine r_cVi (As := []) (rest := []) S hK hZ hP217 hS217 hl.1 58 (by decide) hF220 (C := RX8) rfl (c_X8_fits l D cA ad t hI F217 hW217 ) (cwV 0 S.2.2.2.2 gL_law_X8_fits rfl rfl rfl (by decide +kernel) ⟨Nat.le_of_ble_eq_true rfl, Nat.le_of_ble_eq_true rfl⟩) rfl rfl (Nat.le_of_ble_eq_true rfl) ⟨by decide +kernel, by decide +kernel⟩ dL_law_667 (fun r219 F219 H219 locs219 hr219 hP219 hS219 => ?_)
      obtain ⟨hW219, hFc219, hr219⟩ := hr219
      refine lv_pop S.1 S.2.1 dL_law_670 rfl ?_
      refine lv_goto (tgt := 841) S.1 S.2.1 dL_law_671 (by decide) ?_
      refine lv_iinc (v := (nI (i + 3))) (lv' := [(3, .int (nI (i + 3))), (0, .ref b), (1, .ref (ad 0)), (2, .ref (ad 58))]) S.1 S.2.1 dL_law_841 hl (k := 3) rfl (nI_add _ 3) (by decide) rfl (fun ls221 hl221 => ?_)
      refine lv_goto (tgt := 18) S.1 S.2.1 dL_law_844 (by decide) ?_
      exact ih (i + 3) F219 H219 locs219 (by omega) (by omega) hW219 hP219 hS219 ls221 (lv_sub hl221 [1, 2, 3, 0] rfl)
    by_cases hs7_22 : v6.toInt = 22
    · refine lv_tableIn (off := 642) (tgt := 674) S.1 S.2.1 dL_law_32 (by omega) (by omega) (by rw [hs7_22]; rfl) (by decide) ?_
      refine lv_aload_n S.1 S.2.1 dL_law_674 rfl (lv_at hl 1 rfl) ?_
      obtain ⟨c223, d223, k223, dr223, hF223, hc223, hd223, hk223⟩ := wt_main hW
      refine r_cVi (As := []) (rest := []) S hK hZ hP hS hl.1 0 (by decide) hF223 (C := RX7) rfl (c_X7_bought l D cA ad t hI F hW ) (cwV 0 S.2.2.2.2 gL_law_X7_bought rfl rfl rfl (by decide +kernel) ⟨Nat.le_of_ble_eq_true rfl, Nat.le_of_ble_eq_true rfl⟩) rfl rfl (Nat.le_of_ble_eq_true rfl) ⟨by decide +kernel, by decide +kernel⟩ dL_law_675 (fun r222 F222 H222 locs222 hr222 hP222 hS222 => ?_)
      obtain ⟨hW222, hFc222, hr222⟩ := hr222
      refine lv_pop S.1 S.2.1 dL_law_678 rfl ?_
      refine lv_aload_n S.1 S.2.1 dL_law_679 rfl (lv_at hl 2 rfl) ?_
      obtain ⟨ty225, kn225, no225, en225, at225, sa225, sd225, wr225, pl225, va225, hF225, hb225_1, hb225_2, hb225_3, hb225_4, hb225_5, hb225_6⟩ := wt_m hW222
      refine r_cVi (As := []) (rest := []) S hK hZ hP222 hS222 hl.1 58 (by decide) hF225 (C := RX8) rfl (c_X8_bought l D cA ad t hI F222 hW222 ) (cwV 0 S.2.2.2.2 gL_law_X8_bought rfl rfl rfl (by decide +kernel) ⟨Nat.le_of_ble_eq_true rfl, Nat.le_of_ble_eq_true rfl⟩) rfl rfl (Nat.le_of_ble_eq_true rfl) ⟨by decide +kernel, by decide +kernel⟩ dL_law_680 (fun r224 F224 H224 locs224 hr224 hP224 hS224 => ?_)
      obtain ⟨hW224, hFc224, hr224⟩ := hr224
      refine lv_pop S.1 S.2.1 dL_law_683 rfl ?_
      refine lv_goto (tgt := 841) S.1 S.2.1 dL_law_684 (by decide) ?_
      refine lv_iinc (v := (nI (i + 3))) (lv' := [(3, .int (nI (i + 3))), (0, .ref b), (1, .ref (ad 0)), (2, .ref (ad 58))]) S.1 S.2.1 dL_law_841 hl (k := 3) rfl (nI_add _ 3) (by decide) rfl (fun ls226 hl226 => ?_)
      refine lv_goto (tgt := 18) S.1 S.2.1 dL_law_844 (by decide) ?_
      exact ih (i + 3) F224 H224 locs224 (by omega) (by omega) hW224 hP224 hS224 ls226 (lv_sub hl226 [1, 2, 3, 0] rfl)
    by_cases hs7_23 : v6.toInt = 23
    · refine lv_tableIn (off := 655) (tgt := 687) S.1 S.2.1 dL_law_32 (by omega) (by omega) (by rw [hs7_23]; rfl) (by decide) ?_
      refine lv_aload_n S.1 S.2.1 dL_law_687 rfl (lv_at hl 1 rfl) ?_
      refine lv_aload_n S.1 S.2.1 dL_law_688 rfl (lv_at hl 0 rfl) ?_
      refine lv_iload_n S.1 S.2.1 dL_law_689 rfl (lv_at hl 3 rfl) ?_
      refine lv_iconst (v := (nI 1)) S.1 S.2.1 dL_law_690 (by decide +kernel) ?_
      refine lv_iadd S.1 S.2.1 dL_law_691 ?_
      refine lv_topi (fun v227 e227 => ?_)
      obtain rfl : v227 = nI (i + 1) := e227.trans (nI_add _ _)
      refine va_sld S.1 S.2.1 hX hbl hbA hS (vp_in_nI (show i + 1 < L by omega) (by omega)) dL_law_692 ?_
      refine lv_topi (fun v228 e228 => ?_)
      obtain ⟨c230, d230, k230, dr230, hF230, hc230, hd230, hk230⟩ := wt_main hW
      refine r_cVi (As := [.int v228]) (rest := []) S hK hZ hP hS hl.1 0 (by decide) hF230 (C := RX7) rfl (c_X7_was l D cA ad t hI F hW v228) (cwV 1 S.2.2.2.2 gL_law_X7_was rfl rfl rfl (by decide +kernel) ⟨Nat.le_of_ble_eq_true rfl, Nat.le_of_ble_eq_true rfl⟩) rfl rfl (Nat.le_of_ble_eq_true rfl) ⟨by decide +kernel, by decide +kernel⟩ dL_law_693 (fun r229 F229 H229 locs229 hr229 hP229 hS229 => ?_)
      obtain ⟨hW229, hFc229, hr229⟩ := hr229
      refine lv_pop S.1 S.2.1 dL_law_696 rfl ?_
      refine lv_aload_n S.1 S.2.1 dL_law_697 rfl (lv_at hl 2 rfl) ?_
      refine lv_aload_n S.1 S.2.1 dL_law_698 rfl (lv_at hl 0 rfl) ?_
      refine lv_iload_n S.1 S.2.1 dL_law_699 rfl (lv_at hl 3 rfl) ?_
      refine lv_iconst (v := (nI 1)) S.1 S.2.1 dL_law_700 (by decide +kernel) ?_
      refine lv_iadd S.1 S.2.1 dL_law_701 ?_
      refine lv_topi (fun v231 e231 => ?_)
      obtain rfl : v231 = nI (i + 1) := e231.trans (nI_add _ _)
      refine va_sld S.1 S.2.1 hX hbl hbA hS229 (vp_in_nI (show i + 1 < L by omega) (by omega)) dL_law_702 ?_
      refine lv_topi (fun v232 e232 => ?_)
      obtain ⟨ty234, kn234, no234, en234, at234, sa234, sd234, wr234, pl234, va234, hF234, hb234_1, hb234_2, hb234_3, hb234_4, hb234_5, hb234_6⟩ := wt_m hW229
      refine r_cVi (As := [.int v232]) (rest := []) S hK hZ hP229 hS229 hl.1 58 (by decide) hF234 (C := RX8) rfl (c_X8_was l D cA ad t hI F229 hW229 v232) (cwV 1 S.2.2.2.2 gL_law_X8_was rfl rfl rfl (by decide +kernel) ⟨Nat.le_of_ble_eq_true rfl, Nat.le_of_ble_eq_true rfl⟩) rfl rfl (Nat.le_of_ble_eq_true rfl) ⟨by decide +kernel, by decide +kernel⟩ dL_law_703 (fun r233 F233 H233 locs233 hr233 hP233 hS233 => ?_)
      obtain ⟨hW233, hFc233, hr233⟩ := hr233
      refine lv_pop S.1 S.2.1 dL_law_706 rfl ?_
      refine lv_goto (tgt := 841) S.1 S.2.1 dL_law_707 (by decide) ?_
      refine lv_iinc (v := (nI (i + 3))) (lv' := [(3, .int (nI (i + 3))), (0, .ref b), (1, .ref (ad 0)), (2, .ref (ad 58))]) S.1 S.2.1 dL_law_841 hl (k := 3) rfl (nI_add _ 3) (by decide) rfl (fun ls235 hl235 => ?_)
      refine lv_goto (tgt := 18) S.1 S.2.1 dL_law_844 (by decide) ?_
      exact ih (i + 3) F233 H233 locs233 (by omega) (by omega) hW233 hP233 hS233 ls235 (lv_sub hl235 [1, 2, 3, 0] rfl)
    by_cases hs7_24 : v6.toInt = 24
    · refine lv_tableIn (off := 678) (tgt := 710) S.1 S.2.1 dL_law_32 (by omega) (by omega) (by rw [hs7_24]; rfl) (by decide) ?_
      refine lv_aload_n S.1 S.2.1 dL_law_710 rfl (lv_at hl 1 rfl) ?_
      obtain ⟨c237, d237, k237, dr237, hF237, hc237, hd237, hk237⟩ := wt_main hW
      refine r_cVi (As := []) (rest := []) S hK hZ hP hS hl.1 0 (by decide) hF237 (C := RX7) rfl (c_X7_ask l D cA ad t hI F hW ) (cwV 0 S.2.2.2.2 gL_law_X7_ask rfl rfl rfl (by decide +kernel) ⟨Nat.le_of_ble_eq_true rfl, Nat.le_of_ble_eq_true rfl⟩) rfl rfl (Nat.le_of_ble_eq_true rfl) ⟨by decide +kernel, by decide +kernel⟩ dL_law_711 (fun r236 F236 H236 locs236 hr236 hP236 hS236 => ?_)
      obtain ⟨hW236, hFc236, hr236⟩ := hr236
      refine lv_pop S.1 S.2.1 dL_law_714 rfl ?_
      refine lv_aload_n S.1 S.2.1 dL_law_715 rfl (lv_at hl 2 rfl) ?_
      obtain ⟨ty239, kn239, no239, en239, at239, sa239, sd239, wr239, pl239, va239, hF239, hb239_1, hb239_2, hb239_3, hb239_4, hb239_5, hb239_6⟩ := wt_m hW236
      refine r_cVi (As := []) (rest := []) S hK hZ hP236 hS236 hl.1 58 (by decide) hF239 (C := RX8) rfl (c_X8_ask l D cA ad t hI F236 hW236 ) (cwV 0 S.2.2.2.2 gL_law_X8_ask rfl rfl rfl (by decide +kernel) ⟨Nat.le_of_ble_eq_true rfl, Nat.le_of_ble_eq_true rfl⟩) rfl rfl (Nat.le_of_ble_eq_true rfl) ⟨by decide +kernel, by decide +kernel⟩ dL_law_716 (fun r238 F238 H238 locs238 hr238 hP238 hS238 => ?_)
      obtain ⟨hW238, hFc238, hr238⟩ := hr238
      refine lv_pop S.1 S.2.1 dL_law_719 rfl ?_
      refine lv_goto (tgt := 841) S.1 S.2.1 dL_law_720 (by decide) ?_
      refine lv_iinc (v := (nI (i + 3))) (lv' := [(3, .int (nI (i + 3))), (0, .ref b), (1, .ref (ad 0)), (2, .ref (ad 58))]) S.1 S.2.1 dL_law_841 hl (k := 3) rfl (nI_add _ 3) (by decide) rfl (fun ls240 hl240 => ?_)
      refine lv_goto (tgt := 18) S.1 S.2.1 dL_law_844 (by decide) ?_
      exact ih (i + 3) F238 H238 locs238 (by omega) (by omega) hW238 hP238 hS238 ls240 (lv_sub hl240 [1, 2, 3, 0] rfl)
    by_cases hs7_25 : v6.toInt = 25
    · refine lv_tableIn (off := 691) (tgt := 723) S.1 S.2.1 dL_law_32 (by omega) (by omega) (by rw [hs7_25]; rfl) (by decide) ?_
      refine lv_aload_n S.1 S.2.1 dL_law_723 rfl (lv_at hl 1 rfl) ?_
      refine lv_aload_n S.1 S.2.1 dL_law_724 rfl (lv_at hl 0 rfl) ?_
      refine lv_iload_n S.1 S.2.1 dL_law_725 rfl (lv_at hl 3 rfl) ?_
      refine lv_iconst (v := (nI 1)) S.1 S.2.1 dL_law_726 (by decide +kernel) ?_
      refine lv_iadd S.1 S.2.1 dL_law_727 ?_
      refine lv_topi (fun v241 e241 => ?_)
      obtain rfl : v241 = nI (i + 1) := e241.trans (nI_add _ _)
      refine va_sld S.1 S.2.1 hX hbl hbA hS (vp_in_nI (show i + 1 < L by omega) (by omega)) dL_law_728 ?_
      refine lv_topi (fun v242 e242 => ?_)
      obtain ⟨c244, d244, k244, dr244, hF244, hc244, hd244, hk244⟩ := wt_main hW
      refine r_cVi (As := [.int v242]) (rest := []) S hK hZ hP hS hl.1 0 (by decide) hF244 (C := RX7) rfl (c_X7_write l D cA ad t hI F hW v242) (cwV 1 S.2.2.2.2 gL_law_X7_write rfl rfl rfl (by decide +kernel) ⟨Nat.le_of_ble_eq_true rfl, Nat.le_of_ble_eq_true rfl⟩) rfl rfl (Nat.le_of_ble_eq_true rfl) ⟨by decide +kernel, by decide +kernel⟩ dL_law_729 (fun r243 F243 H243 locs243 hr243 hP243 hS243 => ?_)
      obtain ⟨hW243, hFc243, hr243⟩ := hr243
      refine lv_pop S.1 S.2.1 dL_law_732 rfl ?_
      refine lv_aload_n S.1 S.2.1 dL_law_733 rfl (lv_at hl 2 rfl) ?_
      refine lv_aload_n S.1 S.2.1 dL_law_734 rfl (lv_at hl 0 rfl) ?_
      refine lv_iload_n S.1 S.2.1 dL_law_735 rfl (lv_at hl 3 rfl) ?_
      refine lv_iconst (v := (nI 1)) S.1 S.2.1 dL_law_736 (by decide +kernel) ?_
      refine lv_iadd S.1 S.2.1 dL_law_737 ?_
      refine lv_topi (fun v245 e245 => ?_)
      obtain rfl : v245 = nI (i + 1) := e245.trans (nI_add _ _)
      refine va_sld S.1 S.2.1 hX hbl hbA hS243 (vp_in_nI (show i + 1 < L by omega) (by omega)) dL_law_738 ?_
      refine lv_topi (fun v246 e246 => ?_)
      obtain ⟨ty248, kn248, no248, en248, at248, sa248, sd248, wr248, pl248, va248, hF248, hb248_1, hb248_2, hb248_3, hb248_4, hb248_5, hb248_6⟩ := wt_m hW243
      refine r_cVi (As := [.int v246]) (rest := []) S hK hZ hP243 hS243 hl.1 58 (by decide) hF248 (C := RX8) rfl (c_X8_write l D cA ad t hI F243 hW243 v246) (cwV 1 S.2.2.2.2 gL_law_X8_write rfl rfl rfl (by decide +kernel) ⟨Nat.le_of_ble_eq_true rfl, Nat.le_of_ble_eq_true rfl⟩) rfl rfl (Nat.le_of_ble_eq_true rfl) ⟨by decide +kernel, by decide +kernel⟩ dL_law_739 (fun r247 F247 H247 locs247 hr247 hP247 hS247 => ?_)
      obtain ⟨hW247, hFc247, hr247⟩ := hr247
      refine lv_pop S.1 S.2.1 dL_law_742 rfl ?_
      refine lv_goto (tgt := 841) S.1 S.2.1 dL_law_743 (by decide) ?_
      refine lv_iinc (v := (nI (i + 3))) (lv' := [(3, .int (nI (i + 3))), (0, .ref b), (1, .ref (ad 0)), (2, .ref (ad 58))]) S.1 S.2.1 dL_law_841 hl (k := 3) rfl (nI_add _ 3) (by decide) rfl (fun ls249 hl249 => ?_)
      refine lv_goto (tgt := 18) S.1 S.2.1 dL_law_844 (by decide) ?_
      exact ih (i + 3) F247 H247 locs247 (by omega) (by omega) hW247 hP247 hS247 ls249 (lv_sub hl249 [1, 2, 3, 0] rfl)
    by_cases hs7_26 : v6.toInt = 26
    · refine lv_tableIn (off := 714) (tgt := 746) S.1 S.2.1 dL_law_32 (by omega) (by omega) (by rw [hs7_26]; rfl) (by decide) ?_
      refine lv_aload_n S.1 S.2.1 dL_law_746 rfl (lv_at hl 1 rfl) ?_
      obtain ⟨c251, d251, k251, dr251, hF251, hc251, hd251, hk251⟩ := wt_main hW
      refine r_cVi (As := []) (rest := []) S hK hZ hP hS hl.1 0 (by decide) hF251 (C := RX7) rfl (c_X7_tear l D cA ad t hI F hW ) (cwV 0 S.2.2.2.2 gL_law_X7_tear rfl rfl rfl (by decide +kernel) ⟨Nat.le_of_ble_eq_true rfl, Nat.le_of_ble_eq_true rfl⟩) rfl rfl (Nat.le_of_ble_eq_true rfl) ⟨by decide +kernel, by decide +kernel⟩ dL_law_747 (fun r250 F250 H250 locs250 hr250 hP250 hS250 => ?_)
      obtain ⟨hW250, hFc250, hr250⟩ := hr250
      refine lv_pop S.1 S.2.1 dL_law_750 rfl ?_
      refine lv_aload_n S.1 S.2.1 dL_law_751 rfl (lv_at hl 2 rfl) ?_
      obtain ⟨ty253, kn253, no253, en253, at253, sa253, sd253, wr253, pl253, va253, hF253, hb253_1, hb253_2, hb253_3, hb253_4, hb253_5, hb253_6⟩ := wt_m hW250
      refine r_cVi (As := []) (rest := []) S hK hZ hP250 hS250 hl.1 58 (by decide) hF253 (C := RX8) rfl (c_X8_tear l D cA ad t hI F250 hW250 ) (cwV 0 S.2.2.2.2 gL_law_X8_tear rfl rfl rfl (by decide +kernel) ⟨Nat.le_of_ble_eq_true rfl, Nat.le_of_ble_eq_true rfl⟩) rfl rfl (Nat.le_of_ble_eq_true rfl) ⟨by decide +kernel, by decide +kernel⟩ dL_law_752 (fun r252 F252 H252 locs252 hr252 hP252 hS252 => ?_)
      obtain ⟨hW252, hFc252, hr252⟩ := hr252
      refine lv_pop S.1 S.2.1 dL_law_755 rfl ?_
      refine lv_goto (tgt := 841) S.1 S.2.1 dL_law_756 (by decide) ?_
      refine lv_iinc (v := (nI (i + 3))) (lv' := [(3, .int (nI (i + 3))), (0, .ref b), (1, .ref (ad 0)), (2, .ref (ad 58))]) S.1 S.2.1 dL_law_841 hl (k := 3) rfl (nI_add _ 3) (by decide) rfl (fun ls254 hl254 => ?_)
      refine lv_goto (tgt := 18) S.1 S.2.1 dL_law_844 (by decide) ?_
      exact ih (i + 3) F252 H252 locs252 (by omega) (by omega) hW252 hP252 hS252 ls254 (lv_sub hl254 [1, 2, 3, 0] rfl)
    by_cases hs7_27 : v6.toInt = 27
    · refine lv_tableIn (off := 727) (tgt := 759) S.1 S.2.1 dL_law_32 (by omega) (by omega) (by rw [hs7_27]; rfl) (by decide) ?_
      refine lv_aload_n S.1 S.2.1 dL_law_759 rfl (lv_at hl 1 rfl) ?_
      obtain ⟨c256, d256, k256, dr256, hF256, hc256, hd256, hk256⟩ := wt_main hW
      refine r_cVp (As := []) (rest := []) S hK hZ hP hS hl.1 0 (by decide) hF256 (C := RX7) rfl (c_X7_judge l D cA ad t hI F hW ) (cwV 0 S.2.2.2.2 gL_law_X7_judge rfl rfl rfl (by decide +kernel) ⟨Nat.le_of_ble_eq_true rfl, Nat.le_of_ble_eq_true rfl⟩) rfl rfl (Nat.le_of_ble_eq_true rfl) ⟨by decide +kernel, by decide +kernel⟩ dL_law_760 (fun r255 hr255 => ?_)
      refine lv_pop S.1 S.2.1 dL_law_763 rfl ?_
      refine lv_aload_n S.1 S.2.1 dL_law_764 rfl (lv_at hl 2 rfl) ?_
      obtain ⟨ty258, kn258, no258, en258, at258, sa258, sd258, wr258, pl258, va258, hF258, hb258_1, hb258_2, hb258_3, hb258_4, hb258_5, hb258_6⟩ := wt_m hW
      refine r_cVp (As := []) (rest := []) S hK hZ hP hS hl.1 58 (by decide) hF258 (C := RX8) rfl (c_X8_judge l D cA ad t hI F hW ) (cwV 0 S.2.2.2.2 gL_law_X8_judge rfl rfl rfl (by decide +kernel) ⟨Nat.le_of_ble_eq_true rfl, Nat.le_of_ble_eq_true rfl⟩) rfl rfl (Nat.le_of_ble_eq_true rfl) ⟨by decide +kernel, by decide +kernel⟩ dL_law_765 (fun r257 hr257 => ?_)
      refine lv_pop S.1 S.2.1 dL_law_768 rfl ?_
      refine lv_goto (tgt := 841) S.1 S.2.1 dL_law_769 (by decide) ?_
      refine lv_iinc (v := (nI (i + 3))) (lv' := [(3, .int (nI (i + 3))), (0, .ref b), (1, .ref (ad 0)), (2, .ref (ad 58))]) S.1 S.2.1 dL_law_841 hl (k := 3) rfl (nI_add _ 3) (by decide) rfl (fun ls259 hl259 => ?_)
      refine lv_goto (tgt := 18) S.1 S.2.1 dL_law_844 (by decide) ?_
      exact ih (i + 3) F H locs (by omega) (by omega) hW hP hS ls259 (lv_sub hl259 [1, 2, 3, 0] rfl)
    by_cases hs7_28 : v6.toInt = 28
    · refine lv_tableIn (off := 740) (tgt := 772) S.1 S.2.1 dL_law_32 (by omega) (by omega) (by rw [hs7_28]; rfl) (by decide) ?_
      refine lv_aload_n S.1 S.2.1 dL_law_772 rfl (lv_at hl 1 rfl) ?_
      refine lv_aload_n S.1 S.2.1 dL_law_773 rfl (lv_at hl 0 rfl) ?_
      refine lv_iload_n S.1 S.2.1 dL_law_774 rfl (lv_at hl 3 rfl) ?_
      refine lv_iconst (v := (nI 1)) S.1 S.2.1 dL_law_775 (by decide +kernel) ?_
      refine lv_iadd S.1 S.2.1 dL_law_776 ?_
      refine lv_topi (fun v260 e260 => ?_)
      obtain rfl : v260 = nI (i + 1) := e260.trans (nI_add _ _)
      refine va_sld S.1 S.2.1 hX hbl hbA hS (vp_in_nI (show i + 1 < L by omega) (by omega)) dL_law_777 ?_
      refine lv_topi (fun v261 e261 => ?_)
      obtain ⟨c263, d263, k263, dr263, hF263, hc263, hd263, hk263⟩ := wt_main hW
      refine r_cVi (As := [.int v261]) (rest := []) S hK hZ hP hS hl.1 0 (by decide) hF263 (C := RX7) rfl (c_X7_seed l D cA ad t hI F hW v261) (cwV 1 S.2.2.2.2 gL_law_X7_seed rfl rfl rfl (by decide +kernel) ⟨Nat.le_of_ble_eq_true rfl, Nat.le_of_ble_eq_true rfl⟩) rfl rfl (Nat.le_of_ble_eq_true rfl) ⟨by decide +kernel, by decide +kernel⟩ dL_law_778 (fun r262 F262 H262 locs262 hr262 hP262 hS262 => ?_)
      obtain ⟨hW262, hFc262, hr262⟩ := hr262
      refine lv_pop S.1 S.2.1 dL_law_781 rfl ?_
      refine lv_aload_n S.1 S.2.1 dL_law_782 rfl (lv_at hl 2 rfl) ?_
      refine lv_aload_n S.1 S.2.1 dL_law_783 rfl (lv_at hl 0 rfl) ?_
      refine lv_iload_n S.1 S.2.1 dL_law_784 rfl (lv_at hl 3 rfl) ?_
      refine lv_iconst (v := (nI 1)) S.1 S.2.1 dL_law_785 (by decide +kernel) ?_
      refine lv_iadd S.1 S.2.1 dL_law_786 ?_
      refine lv_topi (fun v264 e264 => ?_)
      obtain rfl : v264 = nI (i + 1) := e264.trans (nI_add _ _)
      refine va_sld S.1 S.2.1 hX hbl hbA hS262 (vp_in_nI (show i + 1 < L by omega) (by omega)) dL_law_787 ?_
      refine lv_topi (fun v265 e265 => ?_)
      obtain ⟨ty267, kn267, no267, en267, at267, sa267, sd267, wr267, pl267, va267, hF267, hb267_1, hb267_2, hb267_3, hb267_4, hb267_5, hb267_6⟩ := wt_m hW262
      refine r_cVi (As := [.int v265]) (rest := []) S hK hZ hP262 hS262 hl.1 58 (by decide) hF267 (C := RX8) rfl (c_X8_seed l D cA ad t hI F262 hW262 v265) (cwV 1 S.2.2.2.2 gL_law_X8_seed rfl rfl rfl (by decide +kernel) ⟨Nat.le_of_ble_eq_true rfl, Nat.le_of_ble_eq_true rfl⟩) rfl rfl (Nat.le_of_ble_eq_true rfl) ⟨by decide +kernel, by decide +kernel⟩ dL_law_788 (fun r266 F266 H266 locs266 hr266 hP266 hS266 => ?_)
      obtain ⟨hW266, hFc266, hr266⟩ := hr266
      refine lv_pop S.1 S.2.1 dL_law_791 rfl ?_
      refine lv_goto (tgt := 841) S.1 S.2.1 dL_law_792 (by decide) ?_
      refine lv_iinc (v := (nI (i + 3))) (lv' := [(3, .int (nI (i + 3))), (0, .ref b), (1, .ref (ad 0)), (2, .ref (ad 58))]) S.1 S.2.1 dL_law_841 hl (k := 3) rfl (nI_add _ 3) (by decide) rfl (fun ls268 hl268 => ?_)
      refine lv_goto (tgt := 18) S.1 S.2.1 dL_law_844 (by decide) ?_
      exact ih (i + 3) F266 H266 locs266 (by omega) (by omega) hW266 hP266 hS266 ls268 (lv_sub hl268 [1, 2, 3, 0] rfl)
    by_cases hs7_29 : v6.toInt = 29
    · refine lv_tableIn (off := 763) (tgt := 795) S.1 S.2.1 dL_law_32 (by omega) (by omega) (by rw [hs7_29]; rfl) (by decide) ?_
      refine lv_aload_n S.1 S.2.1 dL_law_795 rfl (lv_at hl 1 rfl) ?_
      refine lv_aload_n S.1 S.2.1 dL_law_796 rfl (lv_at hl 0 rfl) ?_
      refine lv_iload_n S.1 S.2.1 dL_law_797 rfl (lv_at hl 3 rfl) ?_
      refine lv_iconst (v := (nI 1)) S.1 S.2.1 dL_law_798 (by decide +kernel) ?_
      refine lv_iadd S.1 S.2.1 dL_law_799 ?_
      refine lv_topi (fun v269 e269 => ?_)
      obtain rfl : v269 = nI (i + 1) := e269.trans (nI_add _ _)
      refine va_sld S.1 S.2.1 hX hbl hbA hS (vp_in_nI (show i + 1 < L by omega) (by omega)) dL_law_800 ?_
      refine lv_topi (fun v270 e270 => ?_)
      obtain ⟨c272, d272, k272, dr272, hF272, hc272, hd272, hk272⟩ := wt_main hW
      refine r_cVi (As := [.int v270]) (rest := []) S hK hZ hP hS hl.1 0 (by decide) hF272 (C := RX7) rfl (c_X7_keep l D cA ad t hI F hW v270) (cwV 1 S.2.2.2.2 gL_law_X7_keep rfl rfl rfl (by decide +kernel) ⟨Nat.le_of_ble_eq_true rfl, Nat.le_of_ble_eq_true rfl⟩) rfl rfl (Nat.le_of_ble_eq_true rfl) ⟨by decide +kernel, by decide +kernel⟩ dL_law_801 (fun r271 F271 H271 locs271 hr271 hP271 hS271 => ?_)
      obtain ⟨hW271, hFc271, hr271⟩ := hr271
      refine lv_aload_n S.1 S.2.1 dL_law_804 rfl (lv_at hl 2 rfl) ?_
      refine lv_aload_n S.1 S.2.1 dL_law_805 rfl (lv_at hl 0 rfl) ?_
      refine lv_iload_n S.1 S.2.1 dL_law_806 rfl (lv_at hl 3 rfl) ?_
      refine lv_iconst (v := (nI 1)) S.1 S.2.1 dL_law_807 (by decide +kernel) ?_
      refine lv_iadd S.1 S.2.1 dL_law_808 ?_
      refine lv_topi (fun v273 e273 => ?_)
      obtain rfl : v273 = nI (i + 1) := e273.trans (nI_add _ _)
      refine va_sld S.1 S.2.1 hX hbl hbA hS271 (vp_in_nI (show i + 1 < L by omega) (by omega)) dL_law_809 ?_
      refine lv_topi (fun v274 e274 => ?_)
      obtain ⟨ty276, kn276, no276, en276, at276, sa276, sd276, wr276, pl276, va276, hF276, hb276_1, hb276_2, hb276_3, hb276_4, hb276_5, hb276_6⟩ := wt_m hW271
      refine r_cVi (As := [.int v274]) (rest := [.int r271]) S hK hZ hP271 hS271 hl.1 58 (by decide) hF276 (C := RX8) rfl (c_X8_keep l D cA ad t hI F271 hW271 v274) (cwV 1 S.2.2.2.2 gL_law_X8_keep rfl rfl rfl (by decide +kernel) ⟨Nat.le_of_ble_eq_true rfl, Nat.le_of_ble_eq_true rfl⟩) rfl rfl (Nat.le_of_ble_eq_true rfl) ⟨by decide +kernel, by decide +kernel⟩ dL_law_810 (fun r275 F275 H275 locs275 hr275 hP275 hS275 => ?_)
      obtain ⟨hW275, hFc275, hr275⟩ := hr275
      refine lv_icmp_eq (tgt := 841) S.1 S.2.1 dL_law_813 (by decide) (fun c277 => ?_) (fun c277 => absurd (by rw [hr271, hr275, e270, e274]) c277)
      have k278 := ci_eq rfl rfl c277
      refine lv_iinc (v := (nI (i + 3))) (lv' := [(3, .int (nI (i + 3))), (0, .ref b), (1, .ref (ad 0)), (2, .ref (ad 58))]) S.1 S.2.1 dL_law_841 hl (k := 3) rfl (nI_add _ 3) (by decide) rfl (fun ls279 hl279 => ?_)
      refine lv_goto (tgt := 18) S.1 S.2.1 dL_law_844 (by decide) ?_
      exact ih (i + 3) F275 H275 locs275 (by omega) (by omega) hW275 hP275 hS275 ls279 (lv_sub hl279 [1, 2, 3, 0] rfl)
    by_cases hs7_30 : v6.toInt = 30
    · refine lv_tableIn (off := 786) (tgt := 818) S.1 S.2.1 dL_law_32 (by omega) (by omega) (by rw [hs7_30]; rfl) (by decide) ?_
      refine lv_aload_n S.1 S.2.1 dL_law_818 rfl (lv_at hl 1 rfl) ?_
      refine lv_aload_n S.1 S.2.1 dL_law_819 rfl (lv_at hl 0 rfl) ?_
      refine lv_iload_n S.1 S.2.1 dL_law_820 rfl (lv_at hl 3 rfl) ?_
      refine lv_iconst (v := (nI 1)) S.1 S.2.1 dL_law_821 (by decide +kernel) ?_
      refine lv_iadd S.1 S.2.1 dL_law_822 ?_
      refine lv_topi (fun v280 e280 => ?_)
      obtain rfl : v280 = nI (i + 1) := e280.trans (nI_add _ _)
      refine va_sld S.1 S.2.1 hX hbl hbA hS (vp_in_nI (show i + 1 < L by omega) (by omega)) dL_law_823 ?_
      refine lv_topi (fun v281 e281 => ?_)
      obtain ⟨c283, d283, k283, dr283, hF283, hc283, hd283, hk283⟩ := wt_main hW
      refine r_cVi (As := [.int v281]) (rest := []) S hK hZ hP hS hl.1 0 (by decide) hF283 (C := RX7) rfl (c_X7_goBack l D cA ad t hI F hW v281) (cwV 1 S.2.2.2.2 gL_law_X7_goBack rfl rfl rfl (by decide +kernel) ⟨Nat.le_of_ble_eq_true rfl, Nat.le_of_ble_eq_true rfl⟩) rfl rfl (Nat.le_of_ble_eq_true rfl) ⟨by decide +kernel, by decide +kernel⟩ dL_law_824 (fun r282 F282 H282 locs282 hr282 hP282 hS282 => ?_)
      obtain ⟨hW282, hFc282, hr282⟩ := hr282
      refine lv_pop S.1 S.2.1 dL_law_827 rfl ?_
      refine lv_aload_n S.1 S.2.1 dL_law_828 rfl (lv_at hl 2 rfl) ?_
      refine lv_aload_n S.1 S.2.1 dL_law_829 rfl (lv_at hl 0 rfl) ?_
      refine lv_iload_n S.1 S.2.1 dL_law_830 rfl (lv_at hl 3 rfl) ?_
      refine lv_iconst (v := (nI 1)) S.1 S.2.1 dL_law_831 (by decide +kernel) ?_
      refine lv_iadd S.1 S.2.1 dL_law_832 ?_
      refine lv_topi (fun v284 e284 => ?_)
      obtain rfl : v284 = nI (i + 1) := e284.trans (nI_add _ _)
      refine va_sld S.1 S.2.1 hX hbl hbA hS282 (vp_in_nI (show i + 1 < L by omega) (by omega)) dL_law_833 ?_
      refine lv_topi (fun v285 e285 => ?_)
      obtain ⟨ty287, kn287, no287, en287, at287, sa287, sd287, wr287, pl287, va287, hF287, hb287_1, hb287_2, hb287_3, hb287_4, hb287_5, hb287_6⟩ := wt_m hW282
      refine r_cVi (As := [.int v285]) (rest := []) S hK hZ hP282 hS282 hl.1 58 (by decide) hF287 (C := RX8) rfl (c_X8_goBack l D cA ad t hI F282 hW282 v285) (cwV 1 S.2.2.2.2 gL_law_X8_goBack rfl rfl rfl (by decide +kernel) ⟨Nat.le_of_ble_eq_true rfl, Nat.le_of_ble_eq_true rfl⟩) rfl rfl (Nat.le_of_ble_eq_true rfl) ⟨by decide +kernel, by decide +kernel⟩ dL_law_834 (fun r286 F286 H286 locs286 hr286 hP286 hS286 => ?_)
      obtain ⟨hW286, hFc286, hr286⟩ := hr286
      refine lv_pop S.1 S.2.1 dL_law_837 rfl ?_
      refine lv_goto (tgt := 841) S.1 S.2.1 dL_law_838 (by decide) ?_
      refine lv_iinc (v := (nI (i + 3))) (lv' := [(3, .int (nI (i + 3))), (0, .ref b), (1, .ref (ad 0)), (2, .ref (ad 58))]) S.1 S.2.1 dL_law_841 hl (k := 3) rfl (nI_add _ 3) (by decide) rfl (fun ls288 hl288 => ?_)
      refine lv_goto (tgt := 18) S.1 S.2.1 dL_law_844 (by decide) ?_
      exact ih (i + 3) F286 H286 locs286 (by omega) (by omega) hW286 hP286 hS286 ls288 (lv_sub hl288 [1, 2, 3, 0] rfl)
    refine lv_tableOut (tgt := 841) S.1 S.2.1 dL_law_32 (by omega) (by decide) ?_
    refine lv_iinc (v := (nI (i + 3))) (lv' := [(3, .int (nI (i + 3))), (0, .ref b), (1, .ref (ad 0)), (2, .ref (ad 58))]) S.1 S.2.1 dL_law_841 hl (k := 3) rfl (nI_add _ 3) (by decide) rfl (fun ls289 hl289 => ?_)
    refine lv_goto (tgt := 18) S.1 S.2.1 dL_law_844 (by decide) ?_
    exact ih (i + 3) F H locs (by omega) (by omega) hW hP hS ls289 (lv_sub hl289 [1, 2, 3, 0] rfl)
